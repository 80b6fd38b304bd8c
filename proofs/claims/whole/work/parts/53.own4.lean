/-! BreadCity itself: reckonings beside the city -/
section OW4
variable {d : Nat} {μ ν ξ : bc_M} {n no nq nm : Nat}
/-! gusts -/
def wyN (n k : Nat) : Nat → Nat
  | 0 => 1
  | i + 1 => wyN n k i * (n - k + (i + 1)) / (i + 1)
theorem wy_b : ∀ n, n < 13 → ∀ k, k < 13 → ∀ i, i < 13 → wyN n k i < 1000000000 := by decide +kernel
theorem l0 : (0 : Int64) = lN 0 := rfl
theorem l1 : (1 : Int64) = lN 1 := rfl
theorem l2 : (2 : Int64) = lN 2 := rfl
theorem lne {a : Nat} (h : 0 < a) (h2 : a < 2 ^ 63) : ¬ lN a = 0 := by rw [l0, pk_lEQ h2 (by omega)]; omega
theorem lg0 {j : Nat} (hj : j < 2 ^ 63) : lg_cmp (lN j) 0 = 0 ↔ j = 0 := by
  unfold lg_cmp
  rw [l0]
  by_cases h : j = 0
  · subst h
    rw [if_neg (fun q => by have := (pk_lLT (a := 0) (b := 0) (by omega) (by omega)).mp q; omega), if_pos rfl]
    exact ⟨fun _ => rfl, fun _ => rfl⟩
  · rw [if_pos ((pk_lLT (by omega) hj).mpr (by omega))]
    exact ⟨fun q => absurd q (by decide), fun q => absurd q h⟩
theorem s_ways {L : bc_L} {k : Nat} (hn : n < 13) (hk : k ≤ n) : bc_C d L mX9_ways [.int (nI n), .int (nI k)] μ (fun r ν => r = some (.long (lN (wyN n k k))) ∧ ν = μ) := by
  refine bc_enter (by decide) (Nat.le_of_ble_eq_true rfl) rfl ?_
  have loop : ∀ m i, i + m = k → bc_W d L mX9_ways 5 [.int (nI n), .int (nI k), .long (lN (wyN n k i)), .null, .int (nI (i + 1))] [] μ (fun r ν => r = some (.long (lN (wyN n k k))) ∧ ν = μ) := by
    intro m
    induction m with
    | zero =>
      intro i hi
      have hi : i = k := by omega
      subst hi
      refine bc_iload dX9_ways_5 rfl ?_
      refine bc_iload_n dX9_ways_7 rfl ?_
      refine bc_icmp_gt (tgt := 31) dX9_ways_8 (by decide) (fun h8 => ?_) (fun h8 => absurd h8 (fun q => q (nlt (by omega) (by omega))))
      refine bc_lload_n dX9_ways_31 rfl ?_
      exact bc_lreturn dX9_ways_32 rfl (⟨rfl, rfl⟩)
    | succ m ih =>
      intro i hi
      have hb := wy_b n hn k (by omega) i (by omega)
      have hb2 : wyN n k i * (n - k + (i + 1)) < 2 ^ 63 := Nat.lt_of_le_of_lt (Nat.mul_le_mul (Nat.le_of_lt hb) (show n - k + (i + 1) ≤ 100 by omega)) (by decide)
      refine bc_iload dX9_ways_5 rfl ?_
      refine bc_iload_n dX9_ways_7 rfl ?_
      refine bc_icmp_gt (tgt := 31) dX9_ways_8 (by decide) (fun h8 => absurd h8 (Int32.not_lt.mpr (nle (by omega) (by omega)))) (fun h8 => ?_)
      refine bc_lload_n dX9_ways_11 rfl ?_
      refine bc_iload_n dX9_ways_12 rfl ?_
      refine bc_iload_n dX9_ways_13 rfl ?_
      refine bc_isub dX9_ways_14 ?_
      refine bc_iload dX9_ways_15 rfl ?_
      refine bc_iadd dX9_ways_17 ?_
      refine bc_i2l dX9_ways_18 rfl ?_
      rw [pk_sub hk, bn_add, nI_l (by omega)]
      refine bc_lmul dX9_ways_19 ?_
      rw [lN_mul]
      refine bc_iload dX9_ways_20 rfl ?_
      refine bc_i2l dX9_ways_22 rfl ?_
      rw [nI_l (by omega)]
      refine bc_ldiv dX9_ways_23 (lne (by omega) (by omega)) ?_
      rw [pk_lDiv hb2 (by omega) (by omega)]
      refine bc_lstore_n dX9_ways_24 (by decide) rfl ?_
      refine bc_iinc1 dX9_ways_25 rfl (by decide) rfl ?_
      refine bc_goto (tgt := 5) dX9_ways_28 (by decide) ?_
      rw [bn_add1]
      exact ih (i + 1) (by omega)
  refine bc_lconst (v := 1) dX9_ways_0 (by decide) ?_
  refine bc_lstore_n dX9_ways_1 (by decide) rfl ?_
  refine bc_iconst (v := 1) dX9_ways_2 (by decide) ?_
  refine bc_istore dX9_ways_3 (by decide) rfl ?_
  exact loop k 0 (by omega)
theorem s_power {L : bc_L} {b t : Nat} (hb : b ≤ 16) (ht : t ≤ 12) : bc_C d L mX9_power [.int (nI b), .int (nI t)] μ (fun r ν => r = some (.long (lN (b ^ t))) ∧ ν = μ) := by
  refine bc_enter (by decide) (Nat.le_of_ble_eq_true rfl) rfl ?_
  have loop : ∀ m i, i + m = t → bc_W d L mX9_power 5 [.int (nI b), .int (nI t), .long (lN (b ^ i)), .null, .int (nI i)] [] μ (fun r ν => r = some (.long (lN (b ^ t))) ∧ ν = μ) := by
    intro m
    induction m with
    | zero =>
      intro i hi
      have hi : i = t := by omega
      subst hi
      refine bc_iload dX9_power_5 rfl ?_
      refine bc_iload_n dX9_power_7 rfl ?_
      refine bc_icmp_ge (tgt := 22) dX9_power_8 (by decide) (fun h8 => ?_) (fun h8 => absurd h8 (fun q => q (Int32.le_refl _)))
      refine bc_lload_n dX9_power_22 rfl ?_
      exact bc_lreturn dX9_power_23 rfl (⟨rfl, rfl⟩)
    | succ m ih =>
      intro i hi
      refine bc_iload dX9_power_5 rfl ?_
      refine bc_iload_n dX9_power_7 rfl ?_
      refine bc_icmp_ge (tgt := 22) dX9_power_8 (by decide) (fun h8 => absurd h8 (by rw [bn_leN (by omega) (by omega)]; omega)) (fun h8 => ?_)
      refine bc_lload_n dX9_power_11 rfl ?_
      refine bc_iload_n dX9_power_12 rfl ?_
      refine bc_i2l dX9_power_13 rfl ?_
      rw [nI_l (by omega)]
      refine bc_lmul dX9_power_14 ?_
      rw [lN_mul, ← Nat.pow_succ]
      refine bc_lstore_n dX9_power_15 (by decide) rfl ?_
      refine bc_iinc1 dX9_power_16 rfl (by decide) rfl ?_
      refine bc_goto (tgt := 5) dX9_power_19 (by decide) ?_
      rw [bn_add1]
      exact ih (i + 1) (by omega)
  refine bc_lconst (v := 1) dX9_power_0 (by decide) ?_
  refine bc_lstore_n dX9_power_1 (by decide) rfl ?_
  refine bc_iconst (v := 0) dX9_power_2 (by decide) ?_
  refine bc_istore dX9_power_3 (by decide) rfl ?_
  exact loop t 0 (by omega)
def gsU (n k q : Nat) : Nat := if n < k then 0 else wyN n k k * q ^ k * (16 - q) ^ (n - k)
theorem gs_b : ∀ n, n < 13 → ∀ k, k < 13 → ∀ q, q < 17 → gsU n k q < 2 ^ 62 := by decide +kernel
theorem p16_b : ∀ n, n < 13 → 16 ^ n < 2 ^ 62 := by decide +kernel
def hvN : Nat → Nat × Nat → Nat × Nat
  | 0, z => z
  | m + 1, z => if z.1 % 2 = 0 ∧ z.2 % 2 = 0 then hvN m (z.1 / 2, z.2 / 2) else z
def gusN (n k q w : Nat) : Nat := if w = 0 then (hvN 48 (gsU n k q, 16 ^ n)).1 else (hvN 48 (gsU n k q, 16 ^ n)).2
theorem s_gusts {k q w : Nat} (hn : n ≤ 12) (hk : k ≤ 12) (hq : q ≤ 16) (hw : w ≤ 1) : bc_C (d + 2) LC mX9_gusts [.ref 0, .int (nI n), .int (nI k), .int (nI q), .int (nI w)] μ (fun r ν => r = some (.long (lN (gusN n k q w))) ∧ ν = μ) := by
  refine bc_enter (by decide) (Nat.le_of_ble_eq_true rfl) rfl ?_
  have loop : ∀ (m i a b : Nat), i + m = 48 → a < 2 ^ 62 → b < 2 ^ 62 → bc_W (d + 2) LC mX9_gusts 76 [.ref 0, .int (nI n), .int (nI k), .int (nI q), .int (nI w), .long (lN a), .null, .long (lN b), .null, .int (nI i)] [] μ (fun r ν => r = some (.long (lN (if w = 0 then (hvN m (a, b)).1 else (hvN m (a, b)).2))) ∧ ν = μ) := by
    intro m
    induction m with
    | zero =>
      intro i a b hi ha hb
      have hi : i = 48 := by omega
      subst hi
      have hc : w = 0 ∨ w = 1 := by omega
      rcases hc with rfl | rfl
      · skip
        refine bc_iload dX9_gusts_76 rfl ?_
        refine bc_bipush (v := 48) dX9_gusts_78 (by decide) ?_
        refine bc_icmp_ge (tgt := 127) dX9_gusts_80 (by decide) (fun h80 => ?_) (fun h80 => absurd h80 (fun q => q (by decide)))
        refine bc_iload dX9_gusts_127 rfl ?_
        refine bc_if_ne (tgt := 137) dX9_gusts_129 (by decide) (fun h129 => absurd h129 (by decide)) (fun h129 => ?_)
        refine bc_lload dX9_gusts_132 rfl ?_
        refine bc_goto (tgt := 139) dX9_gusts_134 (by decide) ?_
        exact bc_lreturn dX9_gusts_139 rfl (⟨rfl, rfl⟩)
      · skip
        refine bc_iload dX9_gusts_76 rfl ?_
        refine bc_bipush (v := 48) dX9_gusts_78 (by decide) ?_
        refine bc_icmp_ge (tgt := 127) dX9_gusts_80 (by decide) (fun h80 => ?_) (fun h80 => absurd h80 (fun q => q (by decide)))
        refine bc_iload dX9_gusts_127 rfl ?_
        refine bc_if_ne (tgt := 137) dX9_gusts_129 (by decide) (fun h129 => ?_) (fun h129 => absurd h129 (by decide))
        refine bc_lload dX9_gusts_137 rfl ?_
        exact bc_lreturn dX9_gusts_139 rfl (⟨rfl, rfl⟩)
    | succ m ih =>
      intro i a b hi ha hb
      have out : ¬ (a % 2 = 0 ∧ b % 2 = 0) → bc_W (d + 2) LC mX9_gusts 127 [.ref 0, .int (nI n), .int (nI k), .int (nI q), .int (nI w), .long (lN a), .null, .long (lN b), .null, .int (nI i)] [] μ (fun r ν => r = some (.long (lN (if w = 0 then (hvN (m + 1) (a, b)).1 else (hvN (m + 1) (a, b)).2))) ∧ ν = μ) := by
        intro hz
        rw [hvN, if_neg hz]
        have hc : w = 0 ∨ w = 1 := by omega
        rcases hc with rfl | rfl
        · skip
          refine bc_iload dX9_gusts_127 rfl ?_
          refine bc_if_ne (tgt := 137) dX9_gusts_129 (by decide) (fun h129 => absurd h129 (by decide)) (fun h129 => ?_)
          refine bc_lload dX9_gusts_132 rfl ?_
          refine bc_goto (tgt := 139) dX9_gusts_134 (by decide) ?_
          exact bc_lreturn dX9_gusts_139 rfl (⟨rfl, rfl⟩)
        · skip
          refine bc_iload dX9_gusts_127 rfl ?_
          refine bc_if_ne (tgt := 137) dX9_gusts_129 (by decide) (fun h129 => ?_) (fun h129 => absurd h129 (by decide))
          refine bc_lload dX9_gusts_137 rfl ?_
          exact bc_lreturn dX9_gusts_139 rfl (⟨rfl, rfl⟩)
      refine bc_iload dX9_gusts_76 rfl ?_
      refine bc_bipush (v := 48) dX9_gusts_78 (by decide) ?_
      refine bc_icmp_ge (tgt := 127) dX9_gusts_80 (by decide) (fun h80 => absurd h80 (by rw [show (48 : Int32) = nI 48 from rfl, bn_leN (by omega) (by omega)]; omega)) (fun h80 => ?_)
      refine bc_lload dX9_gusts_83 rfl ?_
      refine bc_ldc2_w dX9_gusts_85 nX9_317 ?_
      refine bc_lrem dX9_gusts_88 (by decide) ?_
      rw [l2, pk_lRem (by omega) (by omega) (by omega)]
      refine bc_lconst (v := 0) dX9_gusts_89 (by decide) ?_
      refine bc_lcmp dX9_gusts_90 ?_
      refine bc_if_ne (tgt := 127) dX9_gusts_91 (by decide) (fun h91 => ?_) (fun h91 => ?_)
      · exact out (fun z => h91 ((lg0 (by omega)).mpr z.1))
      · refine bc_lload dX9_gusts_94 rfl ?_
        refine bc_ldc2_w dX9_gusts_96 nX9_317 ?_
        refine bc_lrem dX9_gusts_99 (by decide) ?_
        rw [l2, pk_lRem (by omega) (by omega) (by omega)]
        refine bc_lconst (v := 0) dX9_gusts_100 (by decide) ?_
        refine bc_lcmp dX9_gusts_101 ?_
        refine bc_if_ne (tgt := 127) dX9_gusts_102 (by decide) (fun h102 => ?_) (fun h102 => ?_)
        · exact out (fun z => h102 ((lg0 (by omega)).mpr z.2))
        · refine bc_lload dX9_gusts_105 rfl ?_
          refine bc_ldc2_w dX9_gusts_107 nX9_317 ?_
          refine bc_ldiv dX9_gusts_110 (by decide) ?_
          rw [l2, pk_lDiv (by omega) (by omega) (by omega)]
          refine bc_lstore dX9_gusts_111 (by decide) rfl ?_
          refine bc_lload dX9_gusts_113 rfl ?_
          refine bc_ldc2_w dX9_gusts_115 nX9_317 ?_
          refine bc_ldiv dX9_gusts_118 (by decide) ?_
          rw [l2, pk_lDiv (by omega) (by omega) (by omega)]
          refine bc_lstore dX9_gusts_119 (by decide) rfl ?_
          refine bc_iinc1 dX9_gusts_121 rfl (by decide) rfl ?_
          refine bc_goto (tgt := 76) dX9_gusts_124 (by decide) ?_
          have e : hvN (m + 1) (a, b) = hvN m (a / 2, b / 2) := if_pos ⟨(lg0 (by omega)).mp h91, (lg0 (by omega)).mp h102⟩
          rw [e, bn_add1]
          exact ih (i + 1) (a / 2) (b / 2) (by omega) (by omega) (by omega)
  have rest : bc_W (d + 2) LC mX9_gusts 63 [.ref 0, .int (nI n), .int (nI k), .int (nI q), .int (nI w), .null, .null, .null, .null, .null] [.long (lN (gsU n k q))] μ (fun r ν => r = some (.long (lN (gusN n k q w))) ∧ ν = μ) := by
    refine bc_lstore dX9_gusts_63 (by decide) rfl ?_
    refine bc_bipush (v := 16) dX9_gusts_65 (by decide) ?_
    refine bc_iload_n dX9_gusts_67 rfl ?_
    refine bc_callS (z := mX9_power) dX9_gusts_68 lX9_314 qX9_power (by rfl) (by rfl) (Nat.le_of_ble_eq_true rfl) (s_power (b := 16) (by omega) hn) (fun r68 μ68 e68 => ?_)
    obtain ⟨rfl, q68⟩ := e68
    obtain rfl := q68.symm
    refine bc_lstore dX9_gusts_71 (by decide) rfl ?_
    refine bc_iconst (v := 0) dX9_gusts_73 (by decide) ?_
    refine bc_istore dX9_gusts_74 (by decide) rfl ?_
    exact loop 48 0 _ _ (by omega) (gs_b n (by omega) k (by omega) q (by omega)) (p16_b n (by omega))
  refine bc_aload_n dX9_gusts_0 rfl ?_
  refine bc_iload_n dX9_gusts_1 rfl ?_
  refine bc_iconst (v := 0) dX9_gusts_2 (by decide) ?_
  refine bc_bipush (v := 12) dX9_gusts_3 (by decide) ?_
  refine bc_callV (z := mX9_needWithin) (ci := 9) dX9_gusts_5 lX9_172 qX9_needWithin (by rfl) (by rfl) (by rfl) (by rfl) (Nat.le_of_ble_eq_true rfl) (s_needW (bn_nn (by omega)) (nle (b := 12) hn (by omega))) (fun r5 μ5 e5 => ?_)
  obtain ⟨rfl, q5⟩ := e5
  obtain rfl := q5.symm
  refine bc_aload_n dX9_gusts_8 rfl ?_
  refine bc_iload_n dX9_gusts_9 rfl ?_
  refine bc_iconst (v := 0) dX9_gusts_10 (by decide) ?_
  refine bc_bipush (v := 12) dX9_gusts_11 (by decide) ?_
  refine bc_callV (z := mX9_needWithin) (ci := 9) dX9_gusts_13 lX9_172 qX9_needWithin (by rfl) (by rfl) (by rfl) (by rfl) (Nat.le_of_ble_eq_true rfl) (s_needW (bn_nn (by omega)) (nle (b := 12) hk (by omega))) (fun r13 μ13 e13 => ?_)
  obtain ⟨rfl, q13⟩ := e13
  obtain rfl := q13.symm
  refine bc_aload_n dX9_gusts_16 rfl ?_
  refine bc_iload_n dX9_gusts_17 rfl ?_
  refine bc_iconst (v := 0) dX9_gusts_18 (by decide) ?_
  refine bc_bipush (v := 16) dX9_gusts_19 (by decide) ?_
  refine bc_callV (z := mX9_needWithin) (ci := 9) dX9_gusts_21 lX9_172 qX9_needWithin (by rfl) (by rfl) (by rfl) (by rfl) (Nat.le_of_ble_eq_true rfl) (s_needW (bn_nn (by omega)) (nle (b := 16) hq (by omega))) (fun r21 μ21 e21 => ?_)
  obtain ⟨rfl, q21⟩ := e21
  obtain rfl := q21.symm
  refine bc_aload_n dX9_gusts_24 rfl ?_
  refine bc_iload dX9_gusts_25 rfl ?_
  refine bc_iconst (v := 0) dX9_gusts_27 (by decide) ?_
  refine bc_iconst (v := 1) dX9_gusts_28 (by decide) ?_
  refine bc_callV (z := mX9_needWithin) (ci := 9) dX9_gusts_29 lX9_172 qX9_needWithin (by rfl) (by rfl) (by rfl) (by rfl) (Nat.le_of_ble_eq_true rfl) (s_needW (bn_nn (by omega)) (nle (b := 1) hw (by omega))) (fun r29 μ29 e29 => ?_)
  obtain ⟨rfl, q29⟩ := e29
  obtain rfl := q29.symm
  refine bc_iload_n dX9_gusts_32 rfl ?_
  refine bc_iload_n dX9_gusts_33 rfl ?_
  refine bc_icmp_le (tgt := 41) dX9_gusts_34 (by decide) (fun h34 => ?_) (fun h34 => ?_)
  · have hkn : k ≤ n := (bn_leN (by omega) (by omega)).mp h34
    refine bc_iload_n dX9_gusts_41 rfl ?_
    refine bc_iload_n dX9_gusts_42 rfl ?_
    refine bc_callS (z := mX9_ways) dX9_gusts_43 lX9_310 qX9_ways (by rfl) (by rfl) (Nat.le_of_ble_eq_true rfl) (s_ways (by omega) hkn) (fun r43 μ43 e43 => ?_)
    obtain ⟨rfl, q43⟩ := e43
    obtain rfl := q43.symm
    refine bc_iload_n dX9_gusts_46 rfl ?_
    refine bc_iload_n dX9_gusts_47 rfl ?_
    refine bc_callS (z := mX9_power) dX9_gusts_48 lX9_314 qX9_power (by rfl) (by rfl) (Nat.le_of_ble_eq_true rfl) (s_power hq hk) (fun r48 μ48 e48 => ?_)
    obtain ⟨rfl, q48⟩ := e48
    obtain rfl := q48.symm
    refine bc_lmul dX9_gusts_51 ?_
    rw [lN_mul]
    refine bc_bipush (v := 16) dX9_gusts_52 (by decide) ?_
    refine bc_iload_n dX9_gusts_54 rfl ?_
    refine bc_isub dX9_gusts_55 ?_
    rw [show (16 : Int32) = nI 16 from rfl, pk_sub hq]
    refine bc_iload_n dX9_gusts_56 rfl ?_
    refine bc_iload_n dX9_gusts_57 rfl ?_
    refine bc_isub dX9_gusts_58 ?_
    rw [pk_sub hkn]
    refine bc_callS (z := mX9_power) dX9_gusts_59 lX9_314 qX9_power (by rfl) (by rfl) (Nat.le_of_ble_eq_true rfl) (s_power (by omega) (by omega)) (fun r59 μ59 e59 => ?_)
    obtain ⟨rfl, q59⟩ := e59
    obtain rfl := q59.symm
    refine bc_lmul dX9_gusts_62 ?_
    rw [lN_mul]
    have h2 := rest
    rw [gsU, if_neg (by omega)] at h2
    exact h2
  · refine bc_lconst (v := 0) dX9_gusts_37 (by decide) ?_
    refine bc_goto (tgt := 63) dX9_gusts_38 (by decide) ?_
    have h2 := rest
    rw [gsU, if_pos ((bn_ltN (by omega) (by omega)).mp (bn_nle h34))] at h2
    exact h2
/-! bakers -/
def gnI (a b v : Int32) : Int32 := if b < a then v - a else if a < b then -a else v / 2 - a
theorem s_gain {L : bc_L} (a b v : Int32) : bc_C d L mX9_gain [.int a, .int b, .int v] μ (fun r ν => r = some (.int (gnI a b v)) ∧ ν = μ) := by
  refine bc_enter (by decide) (Nat.le_of_ble_eq_true rfl) rfl ?_
  refine bc_iload_n dX9_gain_0 rfl ?_
  refine bc_iload_n dX9_gain_1 rfl ?_
  refine bc_icmp_le (tgt := 9) dX9_gain_2 (by decide) (fun h2 => ?_) (fun h2 => ?_)
  · refine bc_iload_n dX9_gain_9 rfl ?_
    refine bc_iload_n dX9_gain_10 rfl ?_
    refine bc_icmp_ge (tgt := 19) dX9_gain_11 (by decide) (fun h11 => ?_) (fun h11 => ?_)
    · refine bc_iload_n dX9_gain_19 rfl ?_
      refine bc_iconst (v := 2) dX9_gain_20 (by decide) ?_
      refine bc_idiv dX9_gain_21 (by decide) ?_
      refine bc_iload_n dX9_gain_22 rfl ?_
      refine bc_isub dX9_gain_23 ?_
      exact bc_ireturn dX9_gain_24 rfl rfl (⟨by rw [gnI, if_neg (Int32.not_lt.mpr h2), if_neg (Int32.not_lt.mpr h11)], rfl⟩)
    · refine bc_iload_n dX9_gain_14 rfl ?_
      refine bc_ineg dX9_gain_15 ?_
      refine bc_goto (tgt := 24) dX9_gain_16 (by decide) ?_
      exact bc_ireturn dX9_gain_24 rfl rfl (⟨by rw [gnI, if_neg (Int32.not_lt.mpr h2), if_pos (bn_nle h11)], rfl⟩)
  · refine bc_iload_n dX9_gain_5 rfl ?_
    refine bc_iload_n dX9_gain_6 rfl ?_
    refine bc_isub dX9_gain_7 ?_
    exact bc_ireturn dX9_gain_8 rfl rfl (⟨by rw [gnI, if_pos (bn_nle h2)], rfl⟩)
def bsB (a b v : Int32) : Nat → Nat → Bool
  | 0, _ => true
  | m + 1, i => decide (gnI (nI i) b v ≤ gnI a b v) && bsB a b v m (i + 1)
theorem s_isBest {L : bc_L} {K : Nat} (a b v : Int32) (hK : K ≤ 9) : bc_C (d + 1) L mX9_isBest [.int a, .int b, .int (nI K), .int v] μ (fun r ν => r = some (.int (if bsB a b v (K + 1) 0 = true then 1 else 0)) ∧ ν = μ) := by
  refine bc_enter (by decide) (Nat.le_of_ble_eq_true rfl) rfl ?_
  have loop : ∀ m i, i + m = K + 1 → bc_W (d + 1) L mX9_isBest 3 [.int a, .int b, .int (nI K), .int v, .int (nI i)] [] μ (fun r ν => r = some (.int (if bsB a b v m i = true then 1 else 0)) ∧ ν = μ) := by
    intro m
    induction m with
    | zero =>
      intro i hi
      have hi : i = K + 1 := by omega
      subst hi
      refine bc_iload dX9_isBest_3 rfl ?_
      refine bc_iload_n dX9_isBest_5 rfl ?_
      refine bc_icmp_gt (tgt := 33) dX9_isBest_6 (by decide) (fun h6 => ?_) (fun h6 => absurd h6 (fun q => q (nlt (by omega) (by omega))))
      refine bc_iconst (v := 1) dX9_isBest_33 (by decide) ?_
      exact bc_ireturn dX9_isBest_34 rfl rfl (⟨rfl, rfl⟩)
    | succ m ih =>
      intro i hi
      refine bc_iload dX9_isBest_3 rfl ?_
      refine bc_iload_n dX9_isBest_5 rfl ?_
      refine bc_icmp_gt (tgt := 33) dX9_isBest_6 (by decide) (fun h6 => absurd h6 (Int32.not_lt.mpr (nle (by omega) (by omega)))) (fun h6 => ?_)
      refine bc_iload dX9_isBest_9 rfl ?_
      refine bc_iload_n dX9_isBest_11 rfl ?_
      refine bc_iload_n dX9_isBest_12 rfl ?_
      refine bc_callS (z := mX9_gain) dX9_isBest_13 lX9_323 qX9_gain (by rfl) (by rfl) (Nat.le_of_ble_eq_true rfl) (s_gain _ _ _) (fun r13 μ13 e13 => ?_)
      obtain ⟨rfl, q13⟩ := e13
      obtain rfl := q13.symm
      refine bc_iload_n dX9_isBest_16 rfl ?_
      refine bc_iload_n dX9_isBest_17 rfl ?_
      refine bc_iload_n dX9_isBest_18 rfl ?_
      refine bc_callS (z := mX9_gain) dX9_isBest_19 lX9_323 qX9_gain (by rfl) (by rfl) (Nat.le_of_ble_eq_true rfl) (s_gain _ _ _) (fun r19 μ19 e19 => ?_)
      obtain ⟨rfl, q19⟩ := e19
      obtain rfl := q19.symm
      refine bc_icmp_le (tgt := 27) dX9_isBest_22 (by decide) (fun h22 => ?_) (fun h22 => ?_)
      · refine bc_iinc1 dX9_isBest_27 rfl (by decide) rfl ?_
        refine bc_goto (tgt := 3) dX9_isBest_30 (by decide) ?_
        rw [bn_add1, bsB, decide_eq_true h22, Bool.true_and]
        exact ih (i + 1) (by omega)
      · refine bc_iconst (v := 0) dX9_isBest_25 (by decide) ?_
        exact bc_ireturn dX9_isBest_26 rfl rfl (⟨by rw [bsB, decide_eq_false h22]; rfl, rfl⟩)
  refine bc_iconst (v := 0) dX9_isBest_0 (by decide) ?_
  refine bc_istore dX9_isBest_1 (by decide) rfl ?_
  exact loop (K + 1) 0 (by omega)
def bkB (K : Nat) (v : Int32) (i : Nat) : Bool := bsB (nI (i / (K + 1))) (nI (i % (K + 1))) v (K + 1) 0 && bsB (nI (i % (K + 1))) (nI (i / (K + 1))) v (K + 1) 0
def bkF (K : Nat) (v : Int32) : Nat → Nat × Int32 × Int32
  | 0 => (0, -1, 0)
  | i + 1 => if bkB K v i = true then ((bkF K v i).1 + 1, if (bkF K v i).2.1 = -1 then (10 * nI (i / (K + 1)) + nI (i % (K + 1)), gnI (nI (i / (K + 1))) (nI (i % (K + 1))) v + gnI (nI (i % (K + 1))) (nI (i / (K + 1))) v) else (bkF K v i).2) else bkF K v i
def bkvM (z : Nat × Int32 × Int32) : Nat → Int32
  | 0 => nI z.1 | 1 => z.2.1
  | _ => z.2.2
theorem s_bakers {K w : Nat} {v : Int32} (hK : K ≤ 9) (hv0 : ¬ v < 0) (hv : v ≤ 99) (hw : w ≤ 2) : bc_C (d + 3) LC mX9_bakers [.ref 0, .int (nI K), .int v, .int (nI w)] μ (fun r ν => r = some (.int (bkvM (bkF K v ((K + 1) * (K + 1))) w)) ∧ ν = μ) := by
  refine bc_enter (by decide) (Nat.le_of_ble_eq_true rfl) rfl ?_
  have outer : ∀ (m a : Nat) (v8 : Value), v8.category = 1 → a + m = K + 1 → bc_W (d + 3) LC mX9_bakers 35 [.ref 0, .int (nI K), .int v, .int (nI w), .int (nI (bkF K v ((K + 1) * a)).1), .int (bkF K v ((K + 1) * a)).2.1, .int (bkF K v ((K + 1) * a)).2.2, .int (nI a), v8] [] μ (fun r ν => r = some (.int (bkvM (bkF K v ((K + 1) * (K + 1))) w)) ∧ ν = μ) := by
    intro m
    induction m with
    | zero =>
      intro a v8 hv8 ha
      have ha : a = K + 1 := by omega
      subst ha
      have hc : w = 0 ∨ w = 1 ∨ w = 2 := by omega
      rcases hc with rfl | rfl | rfl
      · skip
        refine bc_iload dX9_bakers_35 rfl ?_
        refine bc_iload_n dX9_bakers_37 rfl ?_
        refine bc_icmp_gt (tgt := 124) dX9_bakers_38 (by decide) (fun h38 => ?_) (fun h38 => absurd h38 (fun q => q (nlt (by omega) (by omega))))
        refine bc_iload_n dX9_bakers_124 rfl ?_
        refine bc_if_ne (tgt := 133) dX9_bakers_125 (by decide) (fun h125 => absurd h125 (by decide)) (fun h125 => ?_)
        refine bc_iload dX9_bakers_128 rfl ?_
        refine bc_goto (tgt := 145) dX9_bakers_130 (by decide) ?_
        exact bc_ireturn dX9_bakers_145 rfl rfl (⟨rfl, rfl⟩)
      · skip
        refine bc_iload dX9_bakers_35 rfl ?_
        refine bc_iload_n dX9_bakers_37 rfl ?_
        refine bc_icmp_gt (tgt := 124) dX9_bakers_38 (by decide) (fun h38 => ?_) (fun h38 => absurd h38 (fun q => q (nlt (by omega) (by omega))))
        refine bc_iload_n dX9_bakers_124 rfl ?_
        refine bc_if_ne (tgt := 133) dX9_bakers_125 (by decide) (fun h125 => ?_) (fun h125 => absurd h125 (by decide))
        refine bc_iload_n dX9_bakers_133 rfl ?_
        refine bc_iconst (v := 1) dX9_bakers_134 (by decide) ?_
        refine bc_icmp_ne (tgt := 143) dX9_bakers_135 (by decide) (fun h135 => absurd h135 (by decide)) (fun h135 => ?_)
        refine bc_iload dX9_bakers_138 rfl ?_
        refine bc_goto (tgt := 145) dX9_bakers_140 (by decide) ?_
        exact bc_ireturn dX9_bakers_145 rfl rfl (⟨rfl, rfl⟩)
      · skip
        refine bc_iload dX9_bakers_35 rfl ?_
        refine bc_iload_n dX9_bakers_37 rfl ?_
        refine bc_icmp_gt (tgt := 124) dX9_bakers_38 (by decide) (fun h38 => ?_) (fun h38 => absurd h38 (fun q => q (nlt (by omega) (by omega))))
        refine bc_iload_n dX9_bakers_124 rfl ?_
        refine bc_if_ne (tgt := 133) dX9_bakers_125 (by decide) (fun h125 => ?_) (fun h125 => absurd h125 (by decide))
        refine bc_iload_n dX9_bakers_133 rfl ?_
        refine bc_iconst (v := 1) dX9_bakers_134 (by decide) ?_
        refine bc_icmp_ne (tgt := 143) dX9_bakers_135 (by decide) (fun h135 => ?_) (fun h135 => absurd h135 (by decide))
        refine bc_iload dX9_bakers_143 rfl ?_
        exact bc_ireturn dX9_bakers_145 rfl rfl (⟨rfl, rfl⟩)
    | succ m ih =>
      intro a v8 hv8 ha
      have inner : ∀ (m2 b : Nat), b + m2 = K + 1 → bc_W (d + 3) LC mX9_bakers 44 [.ref 0, .int (nI K), .int v, .int (nI w), .int (nI (bkF K v ((K + 1) * a + b)).1), .int (bkF K v ((K + 1) * a + b)).2.1, .int (bkF K v ((K + 1) * a + b)).2.2, .int (nI a), .int (nI b)] [] μ (fun r ν => r = some (.int (bkvM (bkF K v ((K + 1) * (K + 1))) w)) ∧ ν = μ) := by
        intro m2
        induction m2 with
        | zero =>
          intro b hb
          have hb : b = K + 1 := by omega
          subst hb
          refine bc_iload dX9_bakers_44 rfl ?_
          refine bc_iload_n dX9_bakers_46 rfl ?_
          refine bc_icmp_gt (tgt := 118) dX9_bakers_47 (by decide) (fun h47 => ?_) (fun h47 => absurd h47 (fun q => q (nlt (by omega) (by omega))))
          refine bc_iinc1 dX9_bakers_118 rfl (by decide) rfl ?_
          refine bc_goto (tgt := 35) dX9_bakers_121 (by decide) ?_
          have h2 := ih (a + 1) (.int (nI (K + 1))) rfl (by omega)
          rw [bn_add1]
          rw [show (K + 1) * (a + 1) = (K + 1) * a + (K + 1) by rw [Nat.mul_add, Nat.mul_one]] at h2
          exact h2
        | succ m2 ih2 =>
          intro b hb
          have ed : ((K + 1) * a + b) / (K + 1) = a := by rw [Nat.mul_add_div (by omega), Nat.div_eq_of_lt (by omega), Nat.add_zero]
          have em : ((K + 1) * a + b) % (K + 1) = b := by rw [Nat.mul_add_mod, Nat.mod_eq_of_lt (by omega)]
          have h2 := ih2 (b + 1) (by omega)
          rw [← Nat.add_assoc, bkF, bkB, ed, em] at h2
          have skip : ¬ ((bsB (nI a) (nI b) v (K + 1) 0 && bsB (nI b) (nI a) v (K + 1) 0) = true) → bc_W (d + 3) LC mX9_bakers 112 [.ref 0, .int (nI K), .int v, .int (nI w), .int (nI (bkF K v ((K + 1) * a + b)).1), .int (bkF K v ((K + 1) * a + b)).2.1, .int (bkF K v ((K + 1) * a + b)).2.2, .int (nI a), .int (nI b)] [] μ (fun r ν => r = some (.int (bkvM (bkF K v ((K + 1) * (K + 1))) w)) ∧ ν = μ) := by
            intro hz
            rw [if_neg hz] at h2
            refine bc_iinc1 dX9_bakers_112 rfl (by decide) rfl ?_
            refine bc_goto (tgt := 44) dX9_bakers_115 (by decide) ?_
            rw [bn_add1]
            exact h2
          refine bc_iload dX9_bakers_44 rfl ?_
          refine bc_iload_n dX9_bakers_46 rfl ?_
          refine bc_icmp_gt (tgt := 118) dX9_bakers_47 (by decide) (fun h47 => absurd h47 (Int32.not_lt.mpr (nle (by omega) (by omega)))) (fun h47 => ?_)
          refine bc_iload dX9_bakers_50 rfl ?_
          refine bc_iload dX9_bakers_52 rfl ?_
          refine bc_iload_n dX9_bakers_54 rfl ?_
          refine bc_iload_n dX9_bakers_55 rfl ?_
          refine bc_callS (z := mX9_isBest) dX9_bakers_56 lX9_319 qX9_isBest (by rfl) (by rfl) (Nat.le_of_ble_eq_true rfl) (s_isBest _ _ _ hK) (fun r56 μ56 e56 => ?_)
          obtain ⟨rfl, q56⟩ := e56
          obtain rfl := q56.symm
          refine bc_if_eq (tgt := 112) dX9_bakers_59 (by decide) (fun h59 => ?_) (fun h59 => ?_)
          · exact skip (fun z => i10 h59 (Bool.and_eq_true_iff.mp z).1)
          · refine bc_iload dX9_bakers_62 rfl ?_
            refine bc_iload dX9_bakers_64 rfl ?_
            refine bc_iload_n dX9_bakers_66 rfl ?_
            refine bc_iload_n dX9_bakers_67 rfl ?_
            refine bc_callS (z := mX9_isBest) dX9_bakers_68 lX9_319 qX9_isBest (by rfl) (by rfl) (Nat.le_of_ble_eq_true rfl) (s_isBest _ _ _ hK) (fun r68 μ68 e68 => ?_)
            obtain ⟨rfl, q68⟩ := e68
            obtain rfl := q68.symm
            refine bc_if_eq (tgt := 112) dX9_bakers_71 (by decide) (fun h71 => ?_) (fun h71 => ?_)
            · exact skip (fun z => i10 h71 (Bool.and_eq_true_iff.mp z).2)
            · rw [if_pos (Bool.and_eq_true_iff.mpr ⟨i11 h59, i11 h71⟩)] at h2
              refine bc_iinc1 dX9_bakers_74 rfl (by decide) rfl ?_
              rw [bn_add1]
              refine bc_iload dX9_bakers_77 rfl ?_
              refine bc_iconst (v := (-1)) dX9_bakers_79 (by decide) ?_
              refine bc_icmp_ne (tgt := 112) dX9_bakers_80 (by decide) (fun h80 => ?_) (fun h80 => ?_)
              · rw [if_neg h80] at h2
                refine bc_iinc1 dX9_bakers_112 rfl (by decide) rfl ?_
                refine bc_goto (tgt := 44) dX9_bakers_115 (by decide) ?_
                rw [bn_add1]
                exact h2
              · refine bc_bipush (v := 10) dX9_bakers_83 (by decide) ?_
                refine bc_iload dX9_bakers_85 rfl ?_
                refine bc_imul dX9_bakers_87 ?_
                refine bc_iload dX9_bakers_88 rfl ?_
                refine bc_iadd dX9_bakers_90 ?_
                refine bc_istore dX9_bakers_91 (by decide) rfl ?_
                refine bc_iload dX9_bakers_93 rfl ?_
                refine bc_iload dX9_bakers_95 rfl ?_
                refine bc_iload_n dX9_bakers_97 rfl ?_
                refine bc_callS (z := mX9_gain) dX9_bakers_98 lX9_323 qX9_gain (by rfl) (by rfl) (Nat.le_of_ble_eq_true rfl) (s_gain _ _ _) (fun r98 μ98 e98 => ?_)
                obtain ⟨rfl, q98⟩ := e98
                obtain rfl := q98.symm
                refine bc_iload dX9_bakers_101 rfl ?_
                refine bc_iload dX9_bakers_103 rfl ?_
                refine bc_iload_n dX9_bakers_105 rfl ?_
                refine bc_callS (z := mX9_gain) dX9_bakers_106 lX9_323 qX9_gain (by rfl) (by rfl) (Nat.le_of_ble_eq_true rfl) (s_gain _ _ _) (fun r106 μ106 e106 => ?_)
                obtain ⟨rfl, q106⟩ := e106
                obtain rfl := q106.symm
                refine bc_iadd dX9_bakers_109 ?_
                refine bc_istore dX9_bakers_110 (by decide) rfl ?_
                rw [if_pos h80] at h2
                refine bc_iinc1 dX9_bakers_112 rfl (by decide) rfl ?_
                refine bc_goto (tgt := 44) dX9_bakers_115 (by decide) ?_
                rw [bn_add1]
                exact h2
      refine bc_iload dX9_bakers_35 rfl ?_
      refine bc_iload_n dX9_bakers_37 rfl ?_
      refine bc_icmp_gt (tgt := 124) dX9_bakers_38 (by decide) (fun h38 => absurd h38 (Int32.not_lt.mpr (nle (by omega) (by omega)))) (fun h38 => ?_)
      refine bc_iconst (v := 0) dX9_bakers_41 (by decide) ?_
      refine bc_istore dX9_bakers_42 (by decide) rfl ?_
      exact inner (K + 1) 0 (by omega)
  refine bc_aload_n dX9_bakers_0 rfl ?_
  refine bc_iload_n dX9_bakers_1 rfl ?_
  refine bc_iconst (v := 0) dX9_bakers_2 (by decide) ?_
  refine bc_bipush (v := 9) dX9_bakers_3 (by decide) ?_
  refine bc_callV (z := mX9_needWithin) (ci := 9) dX9_bakers_5 lX9_172 qX9_needWithin (by rfl) (by rfl) (by rfl) (by rfl) (Nat.le_of_ble_eq_true rfl) (s_needW (bn_nn (by omega)) (nle (b := 9) hK (by omega))) (fun r5 μ5 e5 => ?_)
  obtain ⟨rfl, q5⟩ := e5
  obtain rfl := q5.symm
  refine bc_aload_n dX9_bakers_8 rfl ?_
  refine bc_iload_n dX9_bakers_9 rfl ?_
  refine bc_iconst (v := 0) dX9_bakers_10 (by decide) ?_
  refine bc_bipush (v := 99) dX9_bakers_11 (by decide) ?_
  refine bc_callV (z := mX9_needWithin) (ci := 9) dX9_bakers_13 lX9_172 qX9_needWithin (by rfl) (by rfl) (by rfl) (by rfl) (Nat.le_of_ble_eq_true rfl) (s_needW hv0 hv) (fun r13 μ13 e13 => ?_)
  obtain ⟨rfl, q13⟩ := e13
  obtain rfl := q13.symm
  refine bc_aload_n dX9_bakers_16 rfl ?_
  refine bc_iload_n dX9_bakers_17 rfl ?_
  refine bc_iconst (v := 0) dX9_bakers_18 (by decide) ?_
  refine bc_iconst (v := 2) dX9_bakers_19 (by decide) ?_
  refine bc_callV (z := mX9_needWithin) (ci := 9) dX9_bakers_20 lX9_172 qX9_needWithin (by rfl) (by rfl) (by rfl) (by rfl) (Nat.le_of_ble_eq_true rfl) (s_needW (bn_nn (by omega)) (nle (b := 2) hw (by omega))) (fun r20 μ20 e20 => ?_)
  obtain ⟨rfl, q20⟩ := e20
  obtain rfl := q20.symm
  refine bc_iconst (v := 0) dX9_bakers_23 (by decide) ?_
  refine bc_istore dX9_bakers_24 (by decide) rfl ?_
  refine bc_iconst (v := (-1)) dX9_bakers_26 (by decide) ?_
  refine bc_istore dX9_bakers_27 (by decide) rfl ?_
  refine bc_iconst (v := 0) dX9_bakers_29 (by decide) ?_
  refine bc_istore dX9_bakers_30 (by decide) rfl ?_
  refine bc_iconst (v := 0) dX9_bakers_32 (by decide) ?_
  refine bc_istore dX9_bakers_33 (by decide) rfl ?_
  exact outer (K + 1) 0 .null rfl (by omega)
/-! sacks, leagues -/
def gvM (ns : Nat → Int32) (s b : Int32) : Nat → Int32
  | 0 => 0
  | k + 1 => if s >>> (nI k &&& 31) &&& 1 = 1 then gvM ns s b k + (if b < ns k then b else ns k) else gvM ns s b k
theorem s_givenBy (s b : Int32) (hnq : μ 3 0 = nI nq) (hnq6 : nq ≤ 6) : bc_C (d + 2) LC mX9_givenBy [.ref 0, .int s, .int b] μ (fun r ν => r = some (.int (gvM (μ 5) s b nq)) ∧ ν = μ) := by
  refine bc_enter (by decide) (Nat.le_of_ble_eq_true rfl) rfl ?_
  have loop : ∀ m k, k + m = nq → bc_W (d + 2) LC mX9_givenBy 5 [.ref 0, .int s, .int b, .int (gvM (μ 5) s b k), .int (nI k)] [] μ (fun r ν => r = some (.int (gvM (μ 5) s b nq)) ∧ ν = μ) := by
    intro m
    induction m with
    | zero =>
      intro k hk
      have hk : k = nq := by omega
      subst hk
      refine bc_iload dX9_givenBy_5 rfl ?_
      refine bc_aload_n dX9_givenBy_7 rfl ?_
      refine bc_getr dX9_givenBy_8 fX9_19 (rfl) rfl ?_
      refine bc_geti dX9_givenBy_11 fX9_176 (rfl) rfl ?_
      refine bc_icmp_ge (tgt := 49) dX9_givenBy_14 (by decide) (fun h14 => ?_) (fun h14 => absurd h14 (fun q => q (by rw [hnq]; exact Int32.le_refl _)))
      refine bc_iload_n dX9_givenBy_49 rfl ?_
      exact bc_ireturn dX9_givenBy_50 rfl rfl (⟨rfl, rfl⟩)
    | succ m ih =>
      intro k hk
      refine bc_iload dX9_givenBy_5 rfl ?_
      refine bc_aload_n dX9_givenBy_7 rfl ?_
      refine bc_getr dX9_givenBy_8 fX9_19 (rfl) rfl ?_
      refine bc_geti dX9_givenBy_11 fX9_176 (rfl) rfl ?_
      refine bc_icmp_ge (tgt := 49) dX9_givenBy_14 (by decide) (fun h14 => absurd h14 (by rw [hnq, bn_leN (by omega) (by omega)]; omega)) (fun h14 => ?_)
      refine bc_iload_n dX9_givenBy_17 rfl ?_
      refine bc_iload dX9_givenBy_18 rfl ?_
      refine bc_ishr dX9_givenBy_20 ?_
      refine bc_iconst (v := 1) dX9_givenBy_21 (by decide) ?_
      refine bc_iand dX9_givenBy_22 ?_
      refine bc_iconst (v := 1) dX9_givenBy_23 (by decide) ?_
      refine bc_icmp_ne (tgt := 43) dX9_givenBy_24 (by decide) (fun h24 => ?_) (fun h24 => ?_)
      · refine bc_iinc1 dX9_givenBy_43 rfl (by decide) rfl ?_
        refine bc_goto (tgt := 5) dX9_givenBy_46 (by decide) ?_
        have h2 := ih (k + 1) (by omega)
        rw [gvM, if_neg h24] at h2
        rw [bn_add1]
        exact h2
      · refine bc_iload_n dX9_givenBy_27 rfl ?_
        refine bc_aload_n dX9_givenBy_28 rfl ?_
        refine bc_getr dX9_givenBy_29 fX9_19 (rfl) rfl ?_
        refine bc_iload dX9_givenBy_32 rfl ?_
        refine bc_callV (z := mX0_nosesOf) (ci := 0) dX9_givenBy_34 lX9_213 qX0_nosesOf (by rfl) (by rfl) (by rfl) (by rfl) (Nat.le_of_ble_eq_true rfl) (s_nosB LC_b3 (by omega)) (fun r34 μ34 e34 => ?_)
        obtain ⟨rfl, q34⟩ := e34
        obtain rfl := q34.symm
        refine bc_iload_n dX9_givenBy_37 rfl ?_
        refine bc_min dX9_givenBy_38 wX9_333 (Nat.le_of_ble_eq_true rfl) ?_
        refine bc_iadd dX9_givenBy_41 ?_
        refine bc_istore_n dX9_givenBy_42 (by decide) rfl ?_
        refine bc_iinc1 dX9_givenBy_43 rfl (by decide) rfl ?_
        refine bc_goto (tgt := 5) dX9_givenBy_46 (by decide) ?_
        have h2 := ih (k + 1) (by omega)
        rw [gvM, if_pos h24] at h2
        rw [bn_add1]
        exact h2
  refine bc_iconst (v := 0) dX9_givenBy_0 (by decide) ?_
  refine bc_istore_n dX9_givenBy_1 (by decide) rfl ?_
  refine bc_iconst (v := 0) dX9_givenBy_2 (by decide) ?_
  refine bc_istore dX9_givenBy_3 (by decide) rfl ?_
  exact loop nq 0 (by omega)
def skF (G : Nat → Int32) (n : Int32) : Nat → Int32
  | 0 => 0
  | i + 1 => if n < G (i + 1) then skF G n i else nI (i + 1)
def sacM (μ : bc_M) (nq q : Nat) (s N : Int32) : Int32 := if s >>> (nI q &&& 31) &&& 1 = 0 then 0 else (if skF (fun i => gvM (μ 5) s (nI i) nq) N 99 < μ 5 q then skF (fun i => gvM (μ 5) s (nI i) nq) N 99 else μ 5 q)
theorem s_sacks {q : Nat} {s N : Int32} (hnq : μ 3 0 = nI nq) (hnq6 : nq ≤ 6) (hq : q < nq) (hs0 : ¬ s < 0) (hs : s ≤ 1 <<< (nI nq &&& 31) - 1) (hN0 : ¬ N < 0) (hN : N ≤ 999) : bc_C (d + 3) LC mX9_sacks [.ref 0, .int (nI q), .int s, .int N] μ (fun r ν => r = some (.int (sacM μ nq q s N)) ∧ ν = μ) := by
  refine bc_enter (by decide) (Nat.le_of_ble_eq_true rfl) rfl ?_
  have loop : s >>> (nI q &&& 31) &&& 1 ≠ 0 → ∀ m k, k + m = 99 → bc_W (d + 3) LC mX9_sacks 52 [.ref 0, .int (nI q), .int s, .int N, .int (skF (fun i => gvM (μ 5) s (nI i) nq) N k), .int (nI (k + 1))] [] μ (fun r ν => r = some (.int (sacM μ nq q s N)) ∧ ν = μ) := by
    intro hb m
    induction m with
    | zero =>
      intro k hk
      have hk : k = 99 := by omega
      subst hk
      refine bc_iload dX9_sacks_52 rfl ?_
      refine bc_bipush (v := 99) dX9_sacks_54 (by decide) ?_
      refine bc_icmp_gt (tgt := 80) dX9_sacks_56 (by decide) (fun h56 => ?_) (fun h56 => absurd h56 (fun q => q (by decide)))
      refine bc_aload_n dX9_sacks_80 rfl ?_
      refine bc_getr dX9_sacks_81 fX9_19 (rfl) rfl ?_
      refine bc_iload_n dX9_sacks_84 rfl ?_
      refine bc_callV (z := mX0_nosesOf) (ci := 0) dX9_sacks_85 lX9_213 qX0_nosesOf (by rfl) (by rfl) (by rfl) (by rfl) (Nat.le_of_ble_eq_true rfl) (s_nosB LC_b3 (by omega)) (fun r85 μ85 e85 => ?_)
      obtain ⟨rfl, q85⟩ := e85
      obtain rfl := q85.symm
      refine bc_iload dX9_sacks_88 rfl ?_
      refine bc_min dX9_sacks_90 wX9_333 (Nat.le_of_ble_eq_true rfl) ?_
      exact bc_ireturn dX9_sacks_93 rfl rfl (⟨by rw [sacM, if_neg hb], rfl⟩)
    | succ m ih =>
      intro k hk
      refine bc_iload dX9_sacks_52 rfl ?_
      refine bc_bipush (v := 99) dX9_sacks_54 (by decide) ?_
      refine bc_icmp_gt (tgt := 80) dX9_sacks_56 (by decide) (fun h56 => absurd h56 (Int32.not_lt.mpr (nle (b := 99) (by omega) (by omega)))) (fun h56 => ?_)
      refine bc_aload_n dX9_sacks_59 rfl ?_
      refine bc_iload_n dX9_sacks_60 rfl ?_
      refine bc_iload dX9_sacks_61 rfl ?_
      refine bc_callV (z := mX9_givenBy) (ci := 9) dX9_sacks_63 lX9_330 qX9_givenBy (by rfl) (by rfl) (by rfl) (by rfl) (Nat.le_of_ble_eq_true rfl) (s_givenBy _ _ hnq hnq6) (fun r63 μ63 e63 => ?_)
      obtain ⟨rfl, q63⟩ := e63
      obtain rfl := q63.symm
      refine bc_iload_n dX9_sacks_66 rfl ?_
      refine bc_icmp_gt (tgt := 74) dX9_sacks_67 (by decide) (fun h67 => ?_) (fun h67 => ?_)
      · refine bc_iinc1 dX9_sacks_74 rfl (by decide) rfl ?_
        refine bc_goto (tgt := 52) dX9_sacks_77 (by decide) ?_
        have h2 := ih (k + 1) (by omega)
        rw [skF, if_pos h67] at h2
        rw [bn_add1]
        exact h2
      · refine bc_iload dX9_sacks_70 rfl ?_
        refine bc_istore dX9_sacks_72 (by decide) rfl ?_
        refine bc_iinc1 dX9_sacks_74 rfl (by decide) rfl ?_
        refine bc_goto (tgt := 52) dX9_sacks_77 (by decide) ?_
        have h2 := ih (k + 1) (by omega)
        rw [skF, if_neg h67] at h2
        rw [bn_add1]
        exact h2
  refine bc_aload_n dX9_sacks_0 rfl ?_
  refine bc_iload_n dX9_sacks_1 rfl ?_
  refine bc_aload_n dX9_sacks_2 rfl ?_
  refine bc_getr dX9_sacks_3 fX9_19 (rfl) rfl ?_
  refine bc_geti dX9_sacks_6 fX9_176 (rfl) rfl ?_
  rw [hnq]
  refine bc_callV (z := mX9_needThere) (ci := 9) dX9_sacks_9 lX9_204 qX9_needThere (by rfl) (by rfl) (by rfl) (by rfl) (Nat.le_of_ble_eq_true rfl) (s_needT (bn_nn (by omega)) (nlt hq (by omega))) (fun r9 μ9 e9 => ?_)
  obtain ⟨rfl, q9⟩ := e9
  obtain rfl := q9.symm
  refine bc_aload_n dX9_sacks_12 rfl ?_
  refine bc_iload_n dX9_sacks_13 rfl ?_
  refine bc_iconst (v := 0) dX9_sacks_14 (by decide) ?_
  refine bc_aload_n dX9_sacks_15 rfl ?_
  refine bc_getr dX9_sacks_16 fX9_19 (rfl) rfl ?_
  refine bc_callV (z := mX0_quarterSets) (ci := 0) dX9_sacks_19 lX9_326 qX0_quarterSets (by rfl) (by rfl) (by rfl) (by rfl) (Nat.le_of_ble_eq_true rfl) (s_quarterSets LC_b3) (fun r19 μ19 e19 => ?_)
  obtain ⟨rfl, q19⟩ := e19
  obtain rfl := q19.symm
  rw [hnq]
  refine bc_iconst (v := 1) dX9_sacks_22 (by decide) ?_
  refine bc_isub dX9_sacks_23 ?_
  refine bc_callV (z := mX9_needWithin) (ci := 9) dX9_sacks_24 lX9_172 qX9_needWithin (by rfl) (by rfl) (by rfl) (by rfl) (Nat.le_of_ble_eq_true rfl) (s_needW hs0 hs) (fun r24 μ24 e24 => ?_)
  obtain ⟨rfl, q24⟩ := e24
  obtain rfl := q24.symm
  refine bc_aload_n dX9_sacks_27 rfl ?_
  refine bc_iload_n dX9_sacks_28 rfl ?_
  refine bc_iconst (v := 0) dX9_sacks_29 (by decide) ?_
  refine bc_sipush (v := 999) dX9_sacks_30 (by decide) ?_
  refine bc_callV (z := mX9_needWithin) (ci := 9) dX9_sacks_33 lX9_172 qX9_needWithin (by rfl) (by rfl) (by rfl) (by rfl) (Nat.le_of_ble_eq_true rfl) (s_needW hN0 hN) (fun r33 μ33 e33 => ?_)
  obtain ⟨rfl, q33⟩ := e33
  obtain rfl := q33.symm
  refine bc_iload_n dX9_sacks_36 rfl ?_
  refine bc_iload_n dX9_sacks_37 rfl ?_
  refine bc_ishr dX9_sacks_38 ?_
  refine bc_iconst (v := 1) dX9_sacks_39 (by decide) ?_
  refine bc_iand dX9_sacks_40 ?_
  refine bc_if_ne (tgt := 46) dX9_sacks_41 (by decide) (fun h41 => ?_) (fun h41 => ?_)
  · refine bc_iconst (v := 0) dX9_sacks_46 (by decide) ?_
    refine bc_istore dX9_sacks_47 (by decide) rfl ?_
    refine bc_iconst (v := 1) dX9_sacks_49 (by decide) ?_
    refine bc_istore dX9_sacks_50 (by decide) rfl ?_
    exact loop h41 99 0 (by omega)
  · refine bc_iconst (v := 0) dX9_sacks_44 (by decide) ?_
    exact bc_ireturn dX9_sacks_45 rfl rfl (⟨by rw [sacM, if_pos h41], rfl⟩)
def lgB (ns : Nat → Int32) (nq : Nat) (s : Int32) : Bool := decide (gvM ns (1 <<< (nI nq &&& 31) - 1) 99 nq < 2 * gvM ns s 99 nq)
theorem s_isLeague (s : Int32) (hnq : μ 3 0 = nI nq) (hnq6 : nq ≤ 6) : bc_C (d + 3) LC mX9_isLeague [.ref 0, .int s] μ (fun r ν => r = some (.int (if lgB (μ 5) nq s = true then 1 else 0)) ∧ ν = μ) := by
  refine bc_enter (by decide) (Nat.le_of_ble_eq_true rfl) rfl ?_
  refine bc_aload_n dX9_isLeague_0 rfl ?_
  refine bc_aload_n dX9_isLeague_1 rfl ?_
  refine bc_getr dX9_isLeague_2 fX9_19 (rfl) rfl ?_
  refine bc_callV (z := mX0_quarterSets) (ci := 0) dX9_isLeague_5 lX9_326 qX0_quarterSets (by rfl) (by rfl) (by rfl) (by rfl) (Nat.le_of_ble_eq_true rfl) (s_quarterSets LC_b3) (fun r5 μ5 e5 => ?_)
  obtain ⟨rfl, q5⟩ := e5
  obtain rfl := q5.symm
  rw [hnq]
  refine bc_iconst (v := 1) dX9_isLeague_8 (by decide) ?_
  refine bc_isub dX9_isLeague_9 ?_
  refine bc_bipush (v := 99) dX9_isLeague_10 (by decide) ?_
  refine bc_callV (z := mX9_givenBy) (ci := 9) dX9_isLeague_12 lX9_330 qX9_givenBy (by rfl) (by rfl) (by rfl) (by rfl) (Nat.le_of_ble_eq_true rfl) (s_givenBy _ _ hnq hnq6) (fun r12 μ12 e12 => ?_)
  obtain ⟨rfl, q12⟩ := e12
  obtain rfl := q12.symm
  refine bc_istore_n dX9_isLeague_15 (by decide) rfl ?_
  refine bc_iconst (v := 2) dX9_isLeague_16 (by decide) ?_
  refine bc_aload_n dX9_isLeague_17 rfl ?_
  refine bc_iload_n dX9_isLeague_18 rfl ?_
  refine bc_bipush (v := 99) dX9_isLeague_19 (by decide) ?_
  refine bc_callV (z := mX9_givenBy) (ci := 9) dX9_isLeague_21 lX9_330 qX9_givenBy (by rfl) (by rfl) (by rfl) (by rfl) (Nat.le_of_ble_eq_true rfl) (s_givenBy _ _ hnq hnq6) (fun r21 μ21 e21 => ?_)
  obtain ⟨rfl, q21⟩ := e21
  obtain rfl := q21.symm
  refine bc_imul dX9_isLeague_24 ?_
  refine bc_iload_n dX9_isLeague_25 rfl ?_
  refine bc_icmp_le (tgt := 33) dX9_isLeague_26 (by decide) (fun h26 => ?_) (fun h26 => ?_)
  · refine bc_iconst (v := 0) dX9_isLeague_33 (by decide) ?_
    exact bc_ireturn dX9_isLeague_34 rfl rfl (⟨by rw [lgB, decide_eq_false (Int32.not_lt.mpr h26)]; rfl, rfl⟩)
  · refine bc_iconst (v := 1) dX9_isLeague_29 (by decide) ?_
    refine bc_goto (tgt := 34) dX9_isLeague_30 (by decide) ?_
    exact bc_ireturn dX9_isLeague_34 rfl rfl (⟨by rw [lgB, decide_eq_true (bn_nle h26)]; rfl, rfl⟩)
theorem qss : ∀ n, n ≤ 6 → (1 : Int32) <<< (nI n &&& 31) = nI (2 ^ n) ∧ 2 ^ n ≤ 64 := by decide +kernel
theorem s_leagues (hnq : μ 3 0 = nI nq) (hnq6 : nq ≤ 6) : bc_C (d + 4) LC mX9_leagues [.ref 0] μ (fun r ν => r = some (.int (nI (ctM (fun s => lgB (μ 5) nq (nI s)) (2 ^ nq)))) ∧ ν = μ) := by
  have hqs := qss nq hnq6
  refine bc_enter (by decide) (Nat.le_of_ble_eq_true rfl) rfl ?_
  have loop : ∀ m k, k + m = 2 ^ nq → bc_W (d + 4) LC mX9_leagues 4 [.ref 0, .int (nI (ctM (fun s => lgB (μ 5) nq (nI s)) k)), .int (nI k)] [] μ (fun r ν => r = some (.int (nI (ctM (fun s => lgB (μ 5) nq (nI s)) (2 ^ nq)))) ∧ ν = μ) := by
    intro m
    induction m with
    | zero =>
      intro k hk
      have hk : k = 2 ^ nq := by omega
      subst hk
      refine bc_iload_n dX9_leagues_4 rfl ?_
      refine bc_aload_n dX9_leagues_5 rfl ?_
      refine bc_getr dX9_leagues_6 fX9_19 (rfl) rfl ?_
      refine bc_callV (z := mX0_quarterSets) (ci := 0) dX9_leagues_9 lX9_326 qX0_quarterSets (by rfl) (by rfl) (by rfl) (by rfl) (Nat.le_of_ble_eq_true rfl) (s_quarterSets LC_b3) (fun r9 μ9 e9 => ?_)
      obtain ⟨rfl, q9⟩ := e9
      obtain rfl := q9.symm
      refine bc_icmp_ge (tgt := 32) dX9_leagues_12 (by decide) (fun h12 => ?_) (fun h12 => absurd h12 (fun q => q (by rw [hnq, hqs.1]; exact Int32.le_refl _)))
      refine bc_iload_n dX9_leagues_32 rfl ?_
      exact bc_ireturn dX9_leagues_33 rfl rfl (⟨rfl, rfl⟩)
    | succ m ih =>
      intro k hk
      refine bc_iload_n dX9_leagues_4 rfl ?_
      refine bc_aload_n dX9_leagues_5 rfl ?_
      refine bc_getr dX9_leagues_6 fX9_19 (rfl) rfl ?_
      refine bc_callV (z := mX0_quarterSets) (ci := 0) dX9_leagues_9 lX9_326 qX0_quarterSets (by rfl) (by rfl) (by rfl) (by rfl) (Nat.le_of_ble_eq_true rfl) (s_quarterSets LC_b3) (fun r9 μ9 e9 => ?_)
      obtain ⟨rfl, q9⟩ := e9
      obtain rfl := q9.symm
      refine bc_icmp_ge (tgt := 32) dX9_leagues_12 (by decide) (fun h12 => absurd h12 (by rw [hnq, hqs.1, bn_leN (by omega) (by omega)]; omega)) (fun h12 => ?_)
      refine bc_aload_n dX9_leagues_15 rfl ?_
      refine bc_iload_n dX9_leagues_16 rfl ?_
      refine bc_callV (z := mX9_isLeague) (ci := 9) dX9_leagues_17 lX9_338 qX9_isLeague (by rfl) (by rfl) (by rfl) (by rfl) (Nat.le_of_ble_eq_true rfl) (s_isLeague _ hnq hnq6) (fun r17 μ17 e17 => ?_)
      obtain ⟨rfl, q17⟩ := e17
      obtain rfl := q17.symm
      refine bc_if_eq (tgt := 26) dX9_leagues_20 (by decide) (fun h20 => ?_) (fun h20 => ?_)
      · refine bc_iinc1 dX9_leagues_26 rfl (by decide) rfl ?_
        refine bc_goto (tgt := 4) dX9_leagues_29 (by decide) ?_
        have h2 := ih (k + 1) (by omega)
        rw [ctM, if_neg (i10 h20)] at h2
        rw [bn_add1]
        exact h2
      · refine bc_iinc1 dX9_leagues_23 rfl (by decide) rfl ?_
        refine bc_iinc1 dX9_leagues_26 rfl (by decide) rfl ?_
        refine bc_goto (tgt := 4) dX9_leagues_29 (by decide) ?_
        have h2 := ih (k + 1) (by omega)
        rw [ctM, if_pos (i11 h20)] at h2
        rw [bn_add1, bn_add1]
        exact h2
  refine bc_iconst (v := 0) dX9_leagues_0 (by decide) ?_
  refine bc_istore_n dX9_leagues_1 (by decide) rfl ?_
  refine bc_iconst (v := 0) dX9_leagues_2 (by decide) ?_
  refine bc_istore_n dX9_leagues_3 (by decide) rfl ?_
  exact loop (2 ^ nq) 0 (by omega)
def kyB (ns : Nat → Int32) (nq q : Nat) (s : Nat) : Bool := decide (¬ nI s &&& (1 <<< (nI q &&& 31)) = 0) && (lgB ns nq (nI s) && !(lgB ns nq (nI s &&& (1 <<< (nI q &&& 31) ^^^ -1))))
theorem s_key {q : Nat} (hnq : μ 3 0 = nI nq) (hnq6 : nq ≤ 6) (hq : q < nq) : bc_C (d + 4) LC mX9_key [.ref 0, .int (nI q)] μ (fun r ν => r = some (.int (nI (ctM (kyB (μ 5) nq q) (2 ^ nq)))) ∧ ν = μ) := by
  have hqs := qss nq hnq6
  refine bc_enter (by decide) (Nat.le_of_ble_eq_true rfl) rfl ?_
  have loop : ∀ m k, k + m = 2 ^ nq → bc_W (d + 4) LC mX9_key 21 [.ref 0, .int (nI q), .int (1 <<< (nI q &&& 31)), .int (nI (ctM (kyB (μ 5) nq q) k)), .int (nI k)] [] μ (fun r ν => r = some (.int (nI (ctM (kyB (μ 5) nq q) (2 ^ nq)))) ∧ ν = μ) := by
    intro m
    induction m with
    | zero =>
      intro k hk
      have hk : k = 2 ^ nq := by omega
      subst hk
      refine bc_iload dX9_key_21 rfl ?_
      refine bc_aload_n dX9_key_23 rfl ?_
      refine bc_getr dX9_key_24 fX9_19 (rfl) rfl ?_
      refine bc_callV (z := mX0_quarterSets) (ci := 0) dX9_key_27 lX9_326 qX0_quarterSets (by rfl) (by rfl) (by rfl) (by rfl) (Nat.le_of_ble_eq_true rfl) (s_quarterSets LC_b3) (fun r27 μ27 e27 => ?_)
      obtain ⟨rfl, q27⟩ := e27
      obtain rfl := q27.symm
      refine bc_icmp_ge (tgt := 71) dX9_key_30 (by decide) (fun h30 => ?_) (fun h30 => absurd h30 (fun q => q (by rw [hnq, hqs.1]; exact Int32.le_refl _)))
      refine bc_iload_n dX9_key_71 rfl ?_
      exact bc_ireturn dX9_key_72 rfl rfl (⟨rfl, rfl⟩)
    | succ m ih =>
      intro k hk
      have skip : ¬ kyB (μ 5) nq q k = true → bc_W (d + 4) LC mX9_key 21 [.ref 0, .int (nI q), .int (1 <<< (nI q &&& 31)), .int (nI (ctM (kyB (μ 5) nq q) k)), .int (nI k + 1)] [] μ (fun r ν => r = some (.int (nI (ctM (kyB (μ 5) nq q) (2 ^ nq)))) ∧ ν = μ) := by
        intro hz
        have h2 := ih (k + 1) (by omega)
        rw [ctM, if_neg hz] at h2
        rw [bn_add1]
        exact h2
      refine bc_iload dX9_key_21 rfl ?_
      refine bc_aload_n dX9_key_23 rfl ?_
      refine bc_getr dX9_key_24 fX9_19 (rfl) rfl ?_
      refine bc_callV (z := mX0_quarterSets) (ci := 0) dX9_key_27 lX9_326 qX0_quarterSets (by rfl) (by rfl) (by rfl) (by rfl) (Nat.le_of_ble_eq_true rfl) (s_quarterSets LC_b3) (fun r27 μ27 e27 => ?_)
      obtain ⟨rfl, q27⟩ := e27
      obtain rfl := q27.symm
      refine bc_icmp_ge (tgt := 71) dX9_key_30 (by decide) (fun h30 => absurd h30 (by rw [hnq, hqs.1, bn_leN (by omega) (by omega)]; omega)) (fun h30 => ?_)
      refine bc_iload dX9_key_33 rfl ?_
      refine bc_iload_n dX9_key_35 rfl ?_
      refine bc_iand dX9_key_36 ?_
      refine bc_if_eq (tgt := 65) dX9_key_37 (by decide) (fun h37 => ?_) (fun h37 => ?_)
      · refine bc_iinc1 dX9_key_65 rfl (by decide) rfl ?_
        refine bc_goto (tgt := 21) dX9_key_68 (by decide) ?_
        exact skip (fun z => by unfold kyB at z; rw [Bool.and_eq_true, decide_eq_true_iff] at z; exact z.1 h37)
      · refine bc_aload_n dX9_key_40 rfl ?_
        refine bc_iload dX9_key_41 rfl ?_
        refine bc_callV (z := mX9_isLeague) (ci := 9) dX9_key_43 lX9_338 qX9_isLeague (by rfl) (by rfl) (by rfl) (by rfl) (Nat.le_of_ble_eq_true rfl) (s_isLeague _ hnq hnq6) (fun r43 μ43 e43 => ?_)
        obtain ⟨rfl, q43⟩ := e43
        obtain rfl := q43.symm
        refine bc_if_eq (tgt := 65) dX9_key_46 (by decide) (fun h46 => ?_) (fun h46 => ?_)
        · refine bc_iinc1 dX9_key_65 rfl (by decide) rfl ?_
          refine bc_goto (tgt := 21) dX9_key_68 (by decide) ?_
          exact skip (fun z => by unfold kyB at z; rw [Bool.and_eq_true, Bool.and_eq_true] at z; exact i10 h46 z.2.1)
        · refine bc_aload_n dX9_key_49 rfl ?_
          refine bc_iload dX9_key_50 rfl ?_
          refine bc_iload_n dX9_key_52 rfl ?_
          refine bc_iconst (v := (-1)) dX9_key_53 (by decide) ?_
          refine bc_ixor dX9_key_54 ?_
          refine bc_iand dX9_key_55 ?_
          refine bc_callV (z := mX9_isLeague) (ci := 9) dX9_key_56 lX9_338 qX9_isLeague (by rfl) (by rfl) (by rfl) (by rfl) (Nat.le_of_ble_eq_true rfl) (s_isLeague _ hnq hnq6) (fun r56 μ56 e56 => ?_)
          obtain ⟨rfl, q56⟩ := e56
          obtain rfl := q56.symm
          refine bc_if_ne (tgt := 65) dX9_key_59 (by decide) (fun h59 => ?_) (fun h59 => ?_)
          · refine bc_iinc1 dX9_key_65 rfl (by decide) rfl ?_
            refine bc_goto (tgt := 21) dX9_key_68 (by decide) ?_
            exact skip (fun z => by unfold kyB at z; rw [Bool.and_eq_true, Bool.and_eq_true, i11 h59] at z; exact absurd z.2.2 (by decide))
          · refine bc_iinc1 dX9_key_62 rfl (by decide) rfl ?_
            refine bc_iinc1 dX9_key_65 rfl (by decide) rfl ?_
            refine bc_goto (tgt := 21) dX9_key_68 (by decide) ?_
            have h2 := ih (k + 1) (by omega)
            have hz : kyB (μ 5) nq q k = true := by
              unfold kyB
              rw [decide_eq_true h37, i11 h46, show lgB (μ 5) nq (nI k &&& (1 <<< (nI q &&& 31) ^^^ -1)) = false by simpa using i10 h59]
              rfl
            rw [ctM, if_pos hz] at h2
            rw [bn_add1, bn_add1]
            exact h2
  refine bc_aload_n dX9_key_0 rfl ?_
  refine bc_iload_n dX9_key_1 rfl ?_
  refine bc_aload_n dX9_key_2 rfl ?_
  refine bc_getr dX9_key_3 fX9_19 (rfl) rfl ?_
  refine bc_geti dX9_key_6 fX9_176 (rfl) rfl ?_
  rw [hnq]
  refine bc_callV (z := mX9_needThere) (ci := 9) dX9_key_9 lX9_204 qX9_needThere (by rfl) (by rfl) (by rfl) (by rfl) (Nat.le_of_ble_eq_true rfl) (s_needT (bn_nn (by omega)) (nlt hq (by omega))) (fun r9 μ9 e9 => ?_)
  obtain ⟨rfl, q9⟩ := e9
  obtain rfl := q9.symm
  refine bc_iconst (v := 1) dX9_key_12 (by decide) ?_
  refine bc_iload_n dX9_key_13 rfl ?_
  refine bc_ishl dX9_key_14 ?_
  refine bc_istore_n dX9_key_15 (by decide) rfl ?_
  refine bc_iconst (v := 0) dX9_key_16 (by decide) ?_
  refine bc_istore_n dX9_key_17 (by decide) rfl ?_
  refine bc_iconst (v := 0) dX9_key_18 (by decide) ?_
  refine bc_istore dX9_key_19 (by decide) rfl ?_
  exact loop (2 ^ nq) 0 (by omega)
/-! nearest, heaviest -/
def nrM (F : Nat → Int32) : Nat → Int32 × Int32
  | 0 => (-1, -1)
  | k + 1 => if (nrM F k).1 = -1 ∨ F k < (nrM F k).2 then (nI k, F k) else nrM F k
theorem s_nearest {w : Nat} (hnm : μ 3 3 = nI nm) (hnm6 : nm ≤ 6) (hw : w ≤ 1) : bc_C (d + 3) LC mX9_nearest [.ref 0, .int (nI w)] μ (fun r ν => r = some (.int (if w = 0 then (nrM (farM μ) nm).1 else (nrM (farM μ) nm).2)) ∧ ν = μ) := by
  refine bc_enter (by decide) (Nat.le_of_ble_eq_true rfl) rfl ?_
  have loop : ∀ (m k : Nat) (v : Value), v.category = 1 → k + m = nm → bc_W (d + 3) LC mX9_nearest 14 [.ref 0, .int (nI w), .int (nrM (farM μ) k).1, .int (nrM (farM μ) k).2, .int (nI k), v] [] μ (fun r ν => r = some (.int (if w = 0 then (nrM (farM μ) nm).1 else (nrM (farM μ) nm).2)) ∧ ν = μ) := by
    intro m
    induction m with
    | zero =>
      intro k v hv hk
      have hk : k = nm := by omega
      subst hk
      have hc : w = 0 ∨ w = 1 := by omega
      rcases hc with rfl | rfl
      · skip
        refine bc_iload dX9_nearest_14 rfl ?_
        refine bc_aload_n dX9_nearest_16 rfl ?_
        refine bc_getr dX9_nearest_17 fX9_19 (rfl) rfl ?_
        refine bc_geti dX9_nearest_20 fX9_182 (rfl) rfl ?_
        refine bc_icmp_ge (tgt := 57) dX9_nearest_23 (by decide) (fun h23 => ?_) (fun h23 => absurd h23 (fun q => q (by rw [hnm]; exact Int32.le_refl _)))
        refine bc_iload_n dX9_nearest_57 rfl ?_
        refine bc_if_ne (tgt := 65) dX9_nearest_58 (by decide) (fun h58 => absurd h58 (by decide)) (fun h58 => ?_)
        refine bc_iload_n dX9_nearest_61 rfl ?_
        refine bc_goto (tgt := 66) dX9_nearest_62 (by decide) ?_
        exact bc_ireturn dX9_nearest_66 rfl rfl (⟨rfl, rfl⟩)
      · skip
        refine bc_iload dX9_nearest_14 rfl ?_
        refine bc_aload_n dX9_nearest_16 rfl ?_
        refine bc_getr dX9_nearest_17 fX9_19 (rfl) rfl ?_
        refine bc_geti dX9_nearest_20 fX9_182 (rfl) rfl ?_
        refine bc_icmp_ge (tgt := 57) dX9_nearest_23 (by decide) (fun h23 => ?_) (fun h23 => absurd h23 (fun q => q (by rw [hnm]; exact Int32.le_refl _)))
        refine bc_iload_n dX9_nearest_57 rfl ?_
        refine bc_if_ne (tgt := 65) dX9_nearest_58 (by decide) (fun h58 => ?_) (fun h58 => absurd h58 (by decide))
        refine bc_iload_n dX9_nearest_65 rfl ?_
        exact bc_ireturn dX9_nearest_66 rfl rfl (⟨rfl, rfl⟩)
    | succ m ih =>
      intro k v hv hk
      have h2 := ih (k + 1) (.int (farM μ k)) rfl (by omega)
      refine bc_iload dX9_nearest_14 rfl ?_
      refine bc_aload_n dX9_nearest_16 rfl ?_
      refine bc_getr dX9_nearest_17 fX9_19 (rfl) rfl ?_
      refine bc_geti dX9_nearest_20 fX9_182 (rfl) rfl ?_
      refine bc_icmp_ge (tgt := 57) dX9_nearest_23 (by decide) (fun h23 => absurd h23 (by rw [hnm, bn_leN (by omega) (by omega)]; omega)) (fun h23 => ?_)
      refine bc_aload_n dX9_nearest_26 rfl ?_
      refine bc_iload dX9_nearest_27 rfl ?_
      refine bc_callV (z := mX9_farTo) (ci := 9) dX9_nearest_29 lX9_250 qX9_farTo (by rfl) (by rfl) (by rfl) (by rfl) (Nat.le_of_ble_eq_true rfl) (s_farTo (by omega)) (fun r29 μ29 e29 => ?_)
      obtain ⟨rfl, q29⟩ := e29
      obtain rfl := q29.symm
      refine bc_istore dX9_nearest_32 (by decide) rfl ?_
      refine bc_iload_n dX9_nearest_34 rfl ?_
      refine bc_iconst (v := (-1)) dX9_nearest_35 (by decide) ?_
      refine bc_icmp_eq (tgt := 45) dX9_nearest_36 (by decide) (fun h36 => ?_) (fun h36 => ?_)
      · refine bc_iload dX9_nearest_45 rfl ?_
        refine bc_istore_n dX9_nearest_47 (by decide) rfl ?_
        refine bc_iload dX9_nearest_48 rfl ?_
        refine bc_istore_n dX9_nearest_50 (by decide) rfl ?_
        refine bc_iinc1 dX9_nearest_51 rfl (by decide) rfl ?_
        refine bc_goto (tgt := 14) dX9_nearest_54 (by decide) ?_
        rw [nrM, if_pos (.inl h36)] at h2
        rw [bn_add1]
        exact h2
      · refine bc_iload dX9_nearest_39 rfl ?_
        refine bc_iload_n dX9_nearest_41 rfl ?_
        refine bc_icmp_ge (tgt := 51) dX9_nearest_42 (by decide) (fun h42 => ?_) (fun h42 => ?_)
        · refine bc_iinc1 dX9_nearest_51 rfl (by decide) rfl ?_
          refine bc_goto (tgt := 14) dX9_nearest_54 (by decide) ?_
          rw [nrM, if_neg (fun z => z.elim h36 (Int32.not_lt.mpr h42))] at h2
          rw [bn_add1]
          exact h2
        · refine bc_iload dX9_nearest_45 rfl ?_
          refine bc_istore_n dX9_nearest_47 (by decide) rfl ?_
          refine bc_iload dX9_nearest_48 rfl ?_
          refine bc_istore_n dX9_nearest_50 (by decide) rfl ?_
          refine bc_iinc1 dX9_nearest_51 rfl (by decide) rfl ?_
          refine bc_goto (tgt := 14) dX9_nearest_54 (by decide) ?_
          rw [nrM, if_pos (.inr (bn_nle h42))] at h2
          rw [bn_add1]
          exact h2
  refine bc_aload_n dX9_nearest_0 rfl ?_
  refine bc_iload_n dX9_nearest_1 rfl ?_
  refine bc_iconst (v := 0) dX9_nearest_2 (by decide) ?_
  refine bc_iconst (v := 1) dX9_nearest_3 (by decide) ?_
  refine bc_callV (z := mX9_needWithin) (ci := 9) dX9_nearest_4 lX9_172 qX9_needWithin (by rfl) (by rfl) (by rfl) (by rfl) (Nat.le_of_ble_eq_true rfl) (s_needW (bn_nn (by omega)) (nle (b := 1) hw (by omega))) (fun r4 μ4 e4 => ?_)
  obtain ⟨rfl, q4⟩ := e4
  obtain rfl := q4.symm
  refine bc_iconst (v := (-1)) dX9_nearest_7 (by decide) ?_
  refine bc_istore_n dX9_nearest_8 (by decide) rfl ?_
  refine bc_iconst (v := (-1)) dX9_nearest_9 (by decide) ?_
  refine bc_istore_n dX9_nearest_10 (by decide) rfl ?_
  refine bc_iconst (v := 0) dX9_nearest_11 (by decide) ?_
  refine bc_istore dX9_nearest_12 (by decide) rfl ?_
  exact loop nm 0 .null rfl (by omega)
def ntM (sd ns : Nat → Int32) (q : Int32) : Nat → Int32
  | 0 => 0
  | k + 1 => if sd k = q then ntM sd ns q k + ns k else ntM sd ns q k
theorem s_nosesTo (q : Int32) (hnq : μ 3 0 = nI nq) (hnq6 : nq ≤ 6) : bc_C (d + 2) LC mX9_nosesTo [.ref 0, .int q] μ (fun r ν => r = some (.int (ntM (μ 4) (μ 5) q nq)) ∧ ν = μ) := by
  refine bc_enter (by decide) (Nat.le_of_ble_eq_true rfl) rfl ?_
  have loop : ∀ m k, k + m = nq → bc_W (d + 2) LC mX9_nosesTo 4 [.ref 0, .int q, .int (ntM (μ 4) (μ 5) q k), .int (nI k)] [] μ (fun r ν => r = some (.int (ntM (μ 4) (μ 5) q nq)) ∧ ν = μ) := by
    intro m
    induction m with
    | zero =>
      intro k hk
      have hk : k = nq := by omega
      subst hk
      refine bc_iload_n dX9_nosesTo_4 rfl ?_
      refine bc_aload_n dX9_nosesTo_5 rfl ?_
      refine bc_getr dX9_nosesTo_6 fX9_19 (rfl) rfl ?_
      refine bc_geti dX9_nosesTo_9 fX9_176 (rfl) rfl ?_
      refine bc_icmp_ge (tgt := 44) dX9_nosesTo_12 (by decide) (fun h12 => ?_) (fun h12 => absurd h12 (fun q => q (by rw [hnq]; exact Int32.le_refl _)))
      refine bc_iload_n dX9_nosesTo_44 rfl ?_
      exact bc_ireturn dX9_nosesTo_45 rfl rfl (⟨rfl, rfl⟩)
    | succ m ih =>
      intro k hk
      have h2 := ih (k + 1) (by omega)
      refine bc_iload_n dX9_nosesTo_4 rfl ?_
      refine bc_aload_n dX9_nosesTo_5 rfl ?_
      refine bc_getr dX9_nosesTo_6 fX9_19 (rfl) rfl ?_
      refine bc_geti dX9_nosesTo_9 fX9_176 (rfl) rfl ?_
      refine bc_icmp_ge (tgt := 44) dX9_nosesTo_12 (by decide) (fun h12 => absurd h12 (by rw [hnq, bn_leN (by omega) (by omega)]; omega)) (fun h12 => ?_)
      refine bc_aload_n dX9_nosesTo_15 rfl ?_
      refine bc_getr dX9_nosesTo_16 fX9_19 (rfl) rfl ?_
      refine bc_iload_n dX9_nosesTo_19 rfl ?_
      refine bc_callV (z := mX0_sideOf) (ci := 0) dX9_nosesTo_20 lX9_210 qX0_sideOf (by rfl) (by rfl) (by rfl) (by rfl) (Nat.le_of_ble_eq_true rfl) (s_sidB LC_b3 (by omega)) (fun r20 μ20 e20 => ?_)
      obtain ⟨rfl, q20⟩ := e20
      obtain rfl := q20.symm
      refine bc_iload_n dX9_nosesTo_23 rfl ?_
      refine bc_icmp_ne (tgt := 38) dX9_nosesTo_24 (by decide) (fun h24 => ?_) (fun h24 => ?_)
      · refine bc_iinc1 dX9_nosesTo_38 rfl (by decide) rfl ?_
        refine bc_goto (tgt := 4) dX9_nosesTo_41 (by decide) ?_
        rw [ntM, if_neg h24] at h2
        rw [bn_add1]
        exact h2
      · refine bc_iload_n dX9_nosesTo_27 rfl ?_
        refine bc_aload_n dX9_nosesTo_28 rfl ?_
        refine bc_getr dX9_nosesTo_29 fX9_19 (rfl) rfl ?_
        refine bc_iload_n dX9_nosesTo_32 rfl ?_
        refine bc_callV (z := mX0_nosesOf) (ci := 0) dX9_nosesTo_33 lX9_213 qX0_nosesOf (by rfl) (by rfl) (by rfl) (by rfl) (Nat.le_of_ble_eq_true rfl) (s_nosB LC_b3 (by omega)) (fun r33 μ33 e33 => ?_)
        obtain ⟨rfl, q33⟩ := e33
        obtain rfl := q33.symm
        refine bc_iadd dX9_nosesTo_36 ?_
        refine bc_istore_n dX9_nosesTo_37 (by decide) rfl ?_
        refine bc_iinc1 dX9_nosesTo_38 rfl (by decide) rfl ?_
        refine bc_goto (tgt := 4) dX9_nosesTo_41 (by decide) ?_
        rw [ntM, if_pos h24] at h2
        rw [bn_add1]
        exact h2
  refine bc_iconst (v := 0) dX9_nosesTo_0 (by decide) ?_
  refine bc_istore_n dX9_nosesTo_1 (by decide) rfl ?_
  refine bc_iconst (v := 0) dX9_nosesTo_2 (by decide) ?_
  refine bc_istore_n dX9_nosesTo_3 (by decide) rfl ?_
  exact loop nq 0 (by omega)
def hvM (N : Nat → Int32) : Nat → Int32 × Int32
  | 0 => (0, N 0)
  | k + 1 => if (hvM N k).2 < N (k + 1) then (nI (k + 1), N (k + 1)) else hvM N k
theorem s_heaviest {w : Nat} (hnq : μ 3 0 = nI nq) (hnq6 : nq ≤ 6) (hw : w ≤ 1) : bc_C (d + 3) LC mX9_heaviest [.ref 0, .int (nI w)] μ (fun r ν => r = some (.int (if w = 0 then (hvM (fun j => ntM (μ 4) (μ 5) (nI j) nq) 3).1 else (hvM (fun j => ntM (μ 4) (μ 5) (nI j) nq) 3).2)) ∧ ν = μ) := by
  refine bc_enter (by decide) (Nat.le_of_ble_eq_true rfl) rfl ?_
  obtain ⟨N, hN⟩ : ∃ N : Nat → Int32, N = fun j => ntM (μ 4) (μ 5) (nI j) nq := ⟨_, rfl⟩
  rw [← hN]
  have hNj : ∀ j, ntM (μ 4) (μ 5) (nI j) nq = N j := fun j => by rw [hN]
  have loop : ∀ (m k : Nat) (v : Value), v.category = 1 → k + m = 3 → bc_W (d + 3) LC mX9_heaviest 18 [.ref 0, .int (nI w), .int (hvM N k).1, .int (hvM N k).2, .int (nI (k + 1)), v] [] μ (fun r ν => r = some (.int (if w = 0 then (hvM N 3).1 else (hvM N 3).2)) ∧ ν = μ) := by
    intro m
    induction m with
    | zero =>
      intro k v hv hk
      have hk : k = 3 := by omega
      subst hk
      have hc : w = 0 ∨ w = 1 := by omega
      rcases hc with rfl | rfl
      · skip
        refine bc_iload dX9_heaviest_18 rfl ?_
        refine bc_iconst (v := 4) dX9_heaviest_20 (by decide) ?_
        refine bc_icmp_ge (tgt := 50) dX9_heaviest_21 (by decide) (fun h21 => ?_) (fun h21 => absurd h21 (fun q => q (by decide)))
        refine bc_iload_n dX9_heaviest_50 rfl ?_
        refine bc_if_ne (tgt := 58) dX9_heaviest_51 (by decide) (fun h51 => absurd h51 (by decide)) (fun h51 => ?_)
        refine bc_iload_n dX9_heaviest_54 rfl ?_
        refine bc_goto (tgt := 59) dX9_heaviest_55 (by decide) ?_
        exact bc_ireturn dX9_heaviest_59 rfl rfl (⟨rfl, rfl⟩)
      · skip
        refine bc_iload dX9_heaviest_18 rfl ?_
        refine bc_iconst (v := 4) dX9_heaviest_20 (by decide) ?_
        refine bc_icmp_ge (tgt := 50) dX9_heaviest_21 (by decide) (fun h21 => ?_) (fun h21 => absurd h21 (fun q => q (by decide)))
        refine bc_iload_n dX9_heaviest_50 rfl ?_
        refine bc_if_ne (tgt := 58) dX9_heaviest_51 (by decide) (fun h51 => ?_) (fun h51 => absurd h51 (by decide))
        refine bc_iload_n dX9_heaviest_58 rfl ?_
        exact bc_ireturn dX9_heaviest_59 rfl rfl (⟨rfl, rfl⟩)
    | succ m ih =>
      intro k v hv hk
      have h2 := ih (k + 1) (.int (N (k + 1))) rfl (by omega)
      refine bc_iload dX9_heaviest_18 rfl ?_
      refine bc_iconst (v := 4) dX9_heaviest_20 (by decide) ?_
      refine bc_icmp_ge (tgt := 50) dX9_heaviest_21 (by decide) (fun h21 => absurd h21 (by rw [show (4 : Int32) = nI 4 from rfl, bn_leN (by omega) (by omega)]; omega)) (fun h21 => ?_)
      refine bc_aload_n dX9_heaviest_24 rfl ?_
      refine bc_iload dX9_heaviest_25 rfl ?_
      refine bc_callV (z := mX9_nosesTo) (ci := 9) dX9_heaviest_27 lX9_345 qX9_nosesTo (by rfl) (by rfl) (by rfl) (by rfl) (Nat.le_of_ble_eq_true rfl) (s_nosesTo _ hnq hnq6) (fun r27 μ27 e27 => ?_)
      obtain ⟨rfl, q27⟩ := e27
      obtain rfl := q27.symm
      rw [hNj]
      refine bc_istore dX9_heaviest_30 (by decide) rfl ?_
      refine bc_iload dX9_heaviest_32 rfl ?_
      refine bc_iload_n dX9_heaviest_34 rfl ?_
      refine bc_icmp_le (tgt := 44) dX9_heaviest_35 (by decide) (fun h35 => ?_) (fun h35 => ?_)
      · refine bc_iinc1 dX9_heaviest_44 rfl (by decide) rfl ?_
        refine bc_goto (tgt := 18) dX9_heaviest_47 (by decide) ?_
        rw [hvM, if_neg (Int32.not_lt.mpr h35)] at h2
        rw [bn_add1]
        exact h2
      · refine bc_iload dX9_heaviest_38 rfl ?_
        refine bc_istore_n dX9_heaviest_40 (by decide) rfl ?_
        refine bc_iload dX9_heaviest_41 rfl ?_
        refine bc_istore_n dX9_heaviest_43 (by decide) rfl ?_
        refine bc_iinc1 dX9_heaviest_44 rfl (by decide) rfl ?_
        refine bc_goto (tgt := 18) dX9_heaviest_47 (by decide) ?_
        rw [hvM, if_pos (bn_nle h35)] at h2
        rw [bn_add1]
        exact h2
  refine bc_aload_n dX9_heaviest_0 rfl ?_
  refine bc_iload_n dX9_heaviest_1 rfl ?_
  refine bc_iconst (v := 0) dX9_heaviest_2 (by decide) ?_
  refine bc_iconst (v := 1) dX9_heaviest_3 (by decide) ?_
  refine bc_callV (z := mX9_needWithin) (ci := 9) dX9_heaviest_4 lX9_172 qX9_needWithin (by rfl) (by rfl) (by rfl) (by rfl) (Nat.le_of_ble_eq_true rfl) (s_needW (bn_nn (by omega)) (nle (b := 1) hw (by omega))) (fun r4 μ4 e4 => ?_)
  obtain ⟨rfl, q4⟩ := e4
  obtain rfl := q4.symm
  refine bc_iconst (v := 0) dX9_heaviest_7 (by decide) ?_
  refine bc_istore_n dX9_heaviest_8 (by decide) rfl ?_
  refine bc_aload_n dX9_heaviest_9 rfl ?_
  refine bc_iconst (v := 0) dX9_heaviest_10 (by decide) ?_
  refine bc_callV (z := mX9_nosesTo) (ci := 9) dX9_heaviest_11 lX9_345 qX9_nosesTo (by rfl) (by rfl) (by rfl) (by rfl) (Nat.le_of_ble_eq_true rfl) (s_nosesTo _ hnq hnq6) (fun r11 μ11 e11 => ?_)
  obtain ⟨rfl, q11⟩ := e11
  obtain rfl := q11.symm
  rw [show ntM (μ 4) (μ 5) 0 nq = N 0 from hNj 0]
  refine bc_istore_n dX9_heaviest_14 (by decide) rfl ?_
  refine bc_iconst (v := 1) dX9_heaviest_15 (by decide) ?_
  refine bc_istore dX9_heaviest_16 (by decide) rfl ?_
  exact loop 3 0 .null rfl (by omega)
/-! room, cool, safe -/
theorem s_isOpenB {b : Nat} (hb : bc_isB LC b) (hb3 : b = 3) (x y : Int32) : bc_C (d + 1) LC mX0_isOpen [.ref b, .int x, .int y] μ (fun r ν => r = some (.int (if opB μ x y = true then 1 else 0)) ∧ ν = μ) := by
  subst hb3
  refine (s_isOpen hb x y).weaken (fun r ν e => ⟨?_, e.2⟩)
  rcases e.1 with ⟨h, rfl⟩ | ⟨h, rfl⟩
  · rw [if_pos (opB_opn.mp h)]
  · rw [if_neg (fun z => h (opB_opn.mpr z))]
def wxM (j : Nat) : Int32 := if j = 1 then 1 else if j = 3 then -1 else 0
def wyM (j : Nat) : Int32 := if j = 0 then 1 else if j = 2 then -1 else 0
def rmM (B : Nat → Bool) : Nat → Nat → Int32
  | 0, i => nI i
  | m + 1, i => if B (i + 1) = true then rmM B m (i + 1) else nI i
theorem s_roomL {j : Nat} {wx wy : Int32} : ∀ m k, k + m = 30 → bc_W (d + 2) LC mX9_room 52 [.ref 0, .int (nI j), .int wx, .int wy, .int (nI k), .int (nI (k + 1))] [] μ (fun r ν => r = some (.int (rmM (fun i => opB μ (μ 31 2 + nI i * wx) (μ 31 3 + nI i * wy)) m k)) ∧ ν = μ) := by
  intro m
  induction m with
  | zero =>
    intro k hk
    have hk : k = 30 := by omega
    subst hk
    refine bc_iload dX9_room_52 rfl ?_
    refine bc_bipush (v := 30) dX9_room_54 (by decide) ?_
    refine bc_icmp_gt (tgt := 105) dX9_room_56 (by decide) (fun h56 => ?_) (fun h56 => absurd h56 (fun q => q (by decide)))
    refine bc_iload dX9_room_105 rfl ?_
    exact bc_ireturn dX9_room_107 rfl rfl (⟨rfl, rfl⟩)
  | succ m ih =>
    intro k hk
    have h2 := ih (k + 1) (by omega)
    refine bc_iload dX9_room_52 rfl ?_
    refine bc_bipush (v := 30) dX9_room_54 (by decide) ?_
    refine bc_icmp_gt (tgt := 105) dX9_room_56 (by decide) (fun h56 => absurd h56 (Int32.not_lt.mpr (nle (b := 30) (by omega) (by omega)))) (fun h56 => ?_)
    refine bc_aload_n dX9_room_59 rfl ?_
    refine bc_getr dX9_room_60 fX9_19 (rfl) rfl ?_
    refine bc_aload_n dX9_room_63 rfl ?_
    refine bc_getr dX9_room_64 fX9_52 (rfl) rfl ?_
    refine bc_geti dX9_room_67 fX9_188 (rfl) rfl ?_
    refine bc_iload dX9_room_70 rfl ?_
    refine bc_iload_n dX9_room_72 rfl ?_
    refine bc_imul dX9_room_73 ?_
    refine bc_iadd dX9_room_74 ?_
    refine bc_aload_n dX9_room_75 rfl ?_
    refine bc_getr dX9_room_76 fX9_52 (rfl) rfl ?_
    refine bc_geti dX9_room_79 fX9_191 (rfl) rfl ?_
    refine bc_iload dX9_room_82 rfl ?_
    refine bc_iload_n dX9_room_84 rfl ?_
    refine bc_imul dX9_room_85 ?_
    refine bc_iadd dX9_room_86 ?_
    refine bc_callV (z := mX0_isOpen) (ci := 0) dX9_room_87 lX9_351 qX0_isOpen (by rfl) (by rfl) (by rfl) (by rfl) (Nat.le_of_ble_eq_true rfl) (s_isOpenB LC_b3 rfl _ _) (fun r87 μ87 e87 => ?_)
    obtain ⟨rfl, q87⟩ := e87
    obtain rfl := q87.symm
    refine bc_if_ne (tgt := 96) dX9_room_90 (by decide) (fun h90 => ?_) (fun h90 => ?_)
    · refine bc_iinc1 dX9_room_96 rfl (by decide) rfl ?_
      refine bc_iinc1 dX9_room_99 rfl (by decide) rfl ?_
      refine bc_goto (tgt := 52) dX9_room_102 (by decide) ?_
      rw [rmM, if_pos (i11 h90), bn_add1, bn_add1]
      exact h2
    · refine bc_iload dX9_room_93 rfl ?_
      exact bc_ireturn dX9_room_95 rfl rfl (⟨by rw [rmM, if_neg (i10 h90)], rfl⟩)
theorem s_room {j : Nat} (hj : j ≤ 3) : bc_C (d + 2) LC mX9_room [.ref 0, .int (nI j)] μ (fun r ν => r = some (.int (rmM (fun i => opB μ (μ 31 2 + nI i * wxM j) (μ 31 3 + nI i * wyM j)) 30 0)) ∧ ν = μ) := by
  refine bc_enter (by decide) (Nat.le_of_ble_eq_true rfl) rfl ?_
  have hc : j = 0 ∨ j = 1 ∨ j = 2 ∨ j = 3 := by omega
  rcases hc with rfl | rfl | rfl | rfl
  · skip
    refine bc_aload_n dX9_room_0 rfl ?_
    refine bc_iload_n dX9_room_1 rfl ?_
    refine bc_iconst (v := 0) dX9_room_2 (by decide) ?_
    refine bc_iconst (v := 3) dX9_room_3 (by decide) ?_
    refine bc_callV (z := mX9_needWithin) (ci := 9) dX9_room_4 lX9_172 qX9_needWithin (by rfl) (by rfl) (by rfl) (by rfl) (Nat.le_of_ble_eq_true rfl) (s_needW (by decide) (by decide)) (fun r4 μ4 e4 => ?_)
    obtain ⟨rfl, q4⟩ := e4
    obtain rfl := q4.symm
    refine bc_iload_n dX9_room_7 rfl ?_
    refine bc_iconst (v := 1) dX9_room_8 (by decide) ?_
    refine bc_icmp_ne (tgt := 16) dX9_room_9 (by decide) (fun h9 => ?_) (fun h9 => absurd h9 (by decide))
    refine bc_iload_n dX9_room_16 rfl ?_
    refine bc_iconst (v := 3) dX9_room_17 (by decide) ?_
    refine bc_icmp_ne (tgt := 25) dX9_room_18 (by decide) (fun h18 => ?_) (fun h18 => absurd h18 (by decide))
    refine bc_iconst (v := 0) dX9_room_25 (by decide) ?_
    refine bc_istore_n dX9_room_26 (by decide) rfl ?_
    refine bc_iload_n dX9_room_27 rfl ?_
    refine bc_if_ne (tgt := 35) dX9_room_28 (by decide) (fun h28 => absurd h28 (by decide)) (fun h28 => ?_)
    refine bc_iconst (v := 1) dX9_room_31 (by decide) ?_
    refine bc_goto (tgt := 45) dX9_room_32 (by decide) ?_
    refine bc_istore_n dX9_room_45 (by decide) rfl ?_
    refine bc_iconst (v := 0) dX9_room_46 (by decide) ?_
    refine bc_istore dX9_room_47 (by decide) rfl ?_
    refine bc_iconst (v := 1) dX9_room_49 (by decide) ?_
    refine bc_istore dX9_room_50 (by decide) rfl ?_
    exact s_roomL 30 0 (by omega)
  · skip
    refine bc_aload_n dX9_room_0 rfl ?_
    refine bc_iload_n dX9_room_1 rfl ?_
    refine bc_iconst (v := 0) dX9_room_2 (by decide) ?_
    refine bc_iconst (v := 3) dX9_room_3 (by decide) ?_
    refine bc_callV (z := mX9_needWithin) (ci := 9) dX9_room_4 lX9_172 qX9_needWithin (by rfl) (by rfl) (by rfl) (by rfl) (Nat.le_of_ble_eq_true rfl) (s_needW (by decide) (by decide)) (fun r4 μ4 e4 => ?_)
    obtain ⟨rfl, q4⟩ := e4
    obtain rfl := q4.symm
    refine bc_iload_n dX9_room_7 rfl ?_
    refine bc_iconst (v := 1) dX9_room_8 (by decide) ?_
    refine bc_icmp_ne (tgt := 16) dX9_room_9 (by decide) (fun h9 => absurd h9 (by decide)) (fun h9 => ?_)
    refine bc_iconst (v := 1) dX9_room_12 (by decide) ?_
    refine bc_goto (tgt := 26) dX9_room_13 (by decide) ?_
    refine bc_istore_n dX9_room_26 (by decide) rfl ?_
    refine bc_iload_n dX9_room_27 rfl ?_
    refine bc_if_ne (tgt := 35) dX9_room_28 (by decide) (fun h28 => ?_) (fun h28 => absurd h28 (by decide))
    refine bc_iload_n dX9_room_35 rfl ?_
    refine bc_iconst (v := 2) dX9_room_36 (by decide) ?_
    refine bc_icmp_ne (tgt := 44) dX9_room_37 (by decide) (fun h37 => ?_) (fun h37 => absurd h37 (by decide))
    refine bc_iconst (v := 0) dX9_room_44 (by decide) ?_
    refine bc_istore_n dX9_room_45 (by decide) rfl ?_
    refine bc_iconst (v := 0) dX9_room_46 (by decide) ?_
    refine bc_istore dX9_room_47 (by decide) rfl ?_
    refine bc_iconst (v := 1) dX9_room_49 (by decide) ?_
    refine bc_istore dX9_room_50 (by decide) rfl ?_
    exact s_roomL 30 0 (by omega)
  · skip
    refine bc_aload_n dX9_room_0 rfl ?_
    refine bc_iload_n dX9_room_1 rfl ?_
    refine bc_iconst (v := 0) dX9_room_2 (by decide) ?_
    refine bc_iconst (v := 3) dX9_room_3 (by decide) ?_
    refine bc_callV (z := mX9_needWithin) (ci := 9) dX9_room_4 lX9_172 qX9_needWithin (by rfl) (by rfl) (by rfl) (by rfl) (Nat.le_of_ble_eq_true rfl) (s_needW (by decide) (by decide)) (fun r4 μ4 e4 => ?_)
    obtain ⟨rfl, q4⟩ := e4
    obtain rfl := q4.symm
    refine bc_iload_n dX9_room_7 rfl ?_
    refine bc_iconst (v := 1) dX9_room_8 (by decide) ?_
    refine bc_icmp_ne (tgt := 16) dX9_room_9 (by decide) (fun h9 => ?_) (fun h9 => absurd h9 (by decide))
    refine bc_iload_n dX9_room_16 rfl ?_
    refine bc_iconst (v := 3) dX9_room_17 (by decide) ?_
    refine bc_icmp_ne (tgt := 25) dX9_room_18 (by decide) (fun h18 => ?_) (fun h18 => absurd h18 (by decide))
    refine bc_iconst (v := 0) dX9_room_25 (by decide) ?_
    refine bc_istore_n dX9_room_26 (by decide) rfl ?_
    refine bc_iload_n dX9_room_27 rfl ?_
    refine bc_if_ne (tgt := 35) dX9_room_28 (by decide) (fun h28 => ?_) (fun h28 => absurd h28 (by decide))
    refine bc_iload_n dX9_room_35 rfl ?_
    refine bc_iconst (v := 2) dX9_room_36 (by decide) ?_
    refine bc_icmp_ne (tgt := 44) dX9_room_37 (by decide) (fun h37 => absurd h37 (by decide)) (fun h37 => ?_)
    refine bc_iconst (v := (-1)) dX9_room_40 (by decide) ?_
    refine bc_goto (tgt := 45) dX9_room_41 (by decide) ?_
    refine bc_istore_n dX9_room_45 (by decide) rfl ?_
    refine bc_iconst (v := 0) dX9_room_46 (by decide) ?_
    refine bc_istore dX9_room_47 (by decide) rfl ?_
    refine bc_iconst (v := 1) dX9_room_49 (by decide) ?_
    refine bc_istore dX9_room_50 (by decide) rfl ?_
    exact s_roomL 30 0 (by omega)
  · skip
    refine bc_aload_n dX9_room_0 rfl ?_
    refine bc_iload_n dX9_room_1 rfl ?_
    refine bc_iconst (v := 0) dX9_room_2 (by decide) ?_
    refine bc_iconst (v := 3) dX9_room_3 (by decide) ?_
    refine bc_callV (z := mX9_needWithin) (ci := 9) dX9_room_4 lX9_172 qX9_needWithin (by rfl) (by rfl) (by rfl) (by rfl) (Nat.le_of_ble_eq_true rfl) (s_needW (by decide) (by decide)) (fun r4 μ4 e4 => ?_)
    obtain ⟨rfl, q4⟩ := e4
    obtain rfl := q4.symm
    refine bc_iload_n dX9_room_7 rfl ?_
    refine bc_iconst (v := 1) dX9_room_8 (by decide) ?_
    refine bc_icmp_ne (tgt := 16) dX9_room_9 (by decide) (fun h9 => ?_) (fun h9 => absurd h9 (by decide))
    refine bc_iload_n dX9_room_16 rfl ?_
    refine bc_iconst (v := 3) dX9_room_17 (by decide) ?_
    refine bc_icmp_ne (tgt := 25) dX9_room_18 (by decide) (fun h18 => absurd h18 (by decide)) (fun h18 => ?_)
    refine bc_iconst (v := (-1)) dX9_room_21 (by decide) ?_
    refine bc_goto (tgt := 26) dX9_room_22 (by decide) ?_
    refine bc_istore_n dX9_room_26 (by decide) rfl ?_
    refine bc_iload_n dX9_room_27 rfl ?_
    refine bc_if_ne (tgt := 35) dX9_room_28 (by decide) (fun h28 => ?_) (fun h28 => absurd h28 (by decide))
    refine bc_iload_n dX9_room_35 rfl ?_
    refine bc_iconst (v := 2) dX9_room_36 (by decide) ?_
    refine bc_icmp_ne (tgt := 44) dX9_room_37 (by decide) (fun h37 => ?_) (fun h37 => absurd h37 (by decide))
    refine bc_iconst (v := 0) dX9_room_44 (by decide) ?_
    refine bc_istore_n dX9_room_45 (by decide) rfl ?_
    refine bc_iconst (v := 0) dX9_room_46 (by decide) ?_
    refine bc_istore dX9_room_47 (by decide) rfl ?_
    refine bc_iconst (v := 1) dX9_room_49 (by decide) ?_
    refine bc_istore dX9_room_50 (by decide) rfl ?_
    exact s_roomL 30 0 (by omega)
def clM (c : Int32) (sg : Nat → Int32) : Nat → Int32 × Int32
  | 0 => (-1, 0)
  | k + 1 => if c >>> (nI k &&& 31) &&& 1 = 1 ∧ (clM c sg k).2 < sg k then (nI k, sg k) else clM c sg k
theorem s_cool {w : Nat} (hno : μ 3 1 = nI no) (hno8 : no ≤ 8) (hw : w ≤ 1) : bc_C (d + 4) LC mX9_cool [.ref 0, .int (nI w)] μ (fun r ν => r = some (.int (if w = 0 then coolv μ no else (clM (coolv μ no) (μ 7) no).1)) ∧ ν = μ) := by
  refine bc_enter (by decide) (Nat.le_of_ble_eq_true rfl) rfl ?_
  have loop : ∀ m k, k + m = no → bc_W (d + 4) LC mX9_cool 29 [.ref 0, .int 1, .int (coolv μ no), .int (clM (coolv μ no) (μ 7) k).1, .int (clM (coolv μ no) (μ 7) k).2, .int (nI k)] [] μ (fun r ν => r = some (.int (clM (coolv μ no) (μ 7) no).1) ∧ ν = μ) := by
    intro m
    induction m with
    | zero =>
      intro k hk
      have hk : k = no := by omega
      subst hk
      refine bc_iload dX9_cool_29 rfl ?_
      refine bc_aload_n dX9_cool_31 rfl ?_
      refine bc_getr dX9_cool_32 fX9_19 (rfl) rfl ?_
      refine bc_geti dX9_cool_35 fX9_126 (rfl) rfl ?_
      refine bc_icmp_ge (tgt := 85) dX9_cool_38 (by decide) (fun h38 => ?_) (fun h38 => absurd h38 (fun q => q (by rw [hno]; exact Int32.le_refl _)))
      refine bc_iload_n dX9_cool_85 rfl ?_
      exact bc_ireturn dX9_cool_86 rfl rfl (⟨rfl, rfl⟩)
    | succ m ih =>
      intro k hk
      have h2 := ih (k + 1) (by omega)
      refine bc_iload dX9_cool_29 rfl ?_
      refine bc_aload_n dX9_cool_31 rfl ?_
      refine bc_getr dX9_cool_32 fX9_19 (rfl) rfl ?_
      refine bc_geti dX9_cool_35 fX9_126 (rfl) rfl ?_
      refine bc_icmp_ge (tgt := 85) dX9_cool_38 (by decide) (fun h38 => absurd h38 (by rw [hno, bn_leN (by omega) (by omega)]; omega)) (fun h38 => ?_)
      refine bc_iload_n dX9_cool_41 rfl ?_
      refine bc_iload dX9_cool_42 rfl ?_
      refine bc_ishr dX9_cool_44 ?_
      refine bc_iconst (v := 1) dX9_cool_45 (by decide) ?_
      refine bc_iand dX9_cool_46 ?_
      refine bc_iconst (v := 1) dX9_cool_47 (by decide) ?_
      refine bc_icmp_ne (tgt := 79) dX9_cool_48 (by decide) (fun h48 => ?_) (fun h48 => ?_)
      · refine bc_iinc1 dX9_cool_79 rfl (by decide) rfl ?_
        refine bc_goto (tgt := 29) dX9_cool_82 (by decide) ?_
        rw [clM, if_neg (fun z => h48 z.1)] at h2
        rw [bn_add1]
        exact h2
      · refine bc_aload_n dX9_cool_51 rfl ?_
        refine bc_getr dX9_cool_52 fX9_19 (rfl) rfl ?_
        refine bc_iload dX9_cool_55 rfl ?_
        refine bc_callV (z := mX0_strongOf) (ci := 0) dX9_cool_57 lX9_235 qX0_strongOf (by rfl) (by rfl) (by rfl) (by rfl) (Nat.le_of_ble_eq_true rfl) (s_strB LC_b3 (by omega)) (fun r57 μ57 e57 => ?_)
        obtain ⟨rfl, q57⟩ := e57
        obtain rfl := q57.symm
        refine bc_iload dX9_cool_60 rfl ?_
        refine bc_icmp_le (tgt := 79) dX9_cool_62 (by decide) (fun h62 => ?_) (fun h62 => ?_)
        · refine bc_iinc1 dX9_cool_79 rfl (by decide) rfl ?_
          refine bc_goto (tgt := 29) dX9_cool_82 (by decide) ?_
          rw [clM, if_neg (fun z => absurd z.2 (Int32.not_lt.mpr h62))] at h2
          rw [bn_add1]
          exact h2
        · refine bc_iload dX9_cool_65 rfl ?_
          refine bc_istore_n dX9_cool_67 (by decide) rfl ?_
          refine bc_aload_n dX9_cool_68 rfl ?_
          refine bc_getr dX9_cool_69 fX9_19 (rfl) rfl ?_
          refine bc_iload dX9_cool_72 rfl ?_
          refine bc_callV (z := mX0_strongOf) (ci := 0) dX9_cool_74 lX9_235 qX0_strongOf (by rfl) (by rfl) (by rfl) (by rfl) (Nat.le_of_ble_eq_true rfl) (s_strB LC_b3 (by omega)) (fun r74 μ74 e74 => ?_)
          obtain ⟨rfl, q74⟩ := e74
          obtain rfl := q74.symm
          refine bc_istore dX9_cool_77 (by decide) rfl ?_
          refine bc_iinc1 dX9_cool_79 rfl (by decide) rfl ?_
          refine bc_goto (tgt := 29) dX9_cool_82 (by decide) ?_
          rw [clM, if_pos ⟨h48, bn_nle h62⟩] at h2
          rw [bn_add1]
          exact h2
  have hc : w = 0 ∨ w = 1 := by omega
  rcases hc with rfl | rfl
  · skip
    refine bc_aload_n dX9_cool_0 rfl ?_
    refine bc_iload_n dX9_cool_1 rfl ?_
    refine bc_iconst (v := 0) dX9_cool_2 (by decide) ?_
    refine bc_iconst (v := 1) dX9_cool_3 (by decide) ?_
    refine bc_callV (z := mX9_needWithin) (ci := 9) dX9_cool_4 lX9_172 qX9_needWithin (by rfl) (by rfl) (by rfl) (by rfl) (Nat.le_of_ble_eq_true rfl) (s_needW (by decide) (by decide)) (fun r4 μ4 e4 => ?_)
    obtain ⟨rfl, q4⟩ := e4
    obtain rfl := q4.symm
    refine bc_aload_n dX9_cool_7 rfl ?_
    refine bc_getr dX9_cool_8 fX9_52 (rfl) rfl ?_
    refine bc_callV (z := mX1_coolBits) (ci := 1) dX9_cool_11 lX9_354 qX1_coolBits (by rfl) (by rfl) (by rfl) (by rfl) (Nat.le_of_ble_eq_true rfl) (s_coolBits (.inl rfl) hno hno8) (fun r11 μ11 e11 => ?_)
    obtain ⟨rfl, q11⟩ := e11
    obtain rfl := q11.symm
    refine bc_istore_n dX9_cool_14 (by decide) rfl ?_
    refine bc_iload_n dX9_cool_15 rfl ?_
    refine bc_if_ne (tgt := 21) dX9_cool_16 (by decide) (fun h16 => absurd h16 (by decide)) (fun h16 => ?_)
    refine bc_iload_n dX9_cool_19 rfl ?_
    exact bc_ireturn dX9_cool_20 rfl rfl (⟨rfl, rfl⟩)
  · skip
    refine bc_aload_n dX9_cool_0 rfl ?_
    refine bc_iload_n dX9_cool_1 rfl ?_
    refine bc_iconst (v := 0) dX9_cool_2 (by decide) ?_
    refine bc_iconst (v := 1) dX9_cool_3 (by decide) ?_
    refine bc_callV (z := mX9_needWithin) (ci := 9) dX9_cool_4 lX9_172 qX9_needWithin (by rfl) (by rfl) (by rfl) (by rfl) (Nat.le_of_ble_eq_true rfl) (s_needW (by decide) (by decide)) (fun r4 μ4 e4 => ?_)
    obtain ⟨rfl, q4⟩ := e4
    obtain rfl := q4.symm
    refine bc_aload_n dX9_cool_7 rfl ?_
    refine bc_getr dX9_cool_8 fX9_52 (rfl) rfl ?_
    refine bc_callV (z := mX1_coolBits) (ci := 1) dX9_cool_11 lX9_354 qX1_coolBits (by rfl) (by rfl) (by rfl) (by rfl) (Nat.le_of_ble_eq_true rfl) (s_coolBits (.inl rfl) hno hno8) (fun r11 μ11 e11 => ?_)
    obtain ⟨rfl, q11⟩ := e11
    obtain rfl := q11.symm
    refine bc_istore_n dX9_cool_14 (by decide) rfl ?_
    refine bc_iload_n dX9_cool_15 rfl ?_
    refine bc_if_ne (tgt := 21) dX9_cool_16 (by decide) (fun h16 => ?_) (fun h16 => absurd h16 (by decide))
    refine bc_iconst (v := (-1)) dX9_cool_21 (by decide) ?_
    refine bc_istore_n dX9_cool_22 (by decide) rfl ?_
    refine bc_iconst (v := 0) dX9_cool_23 (by decide) ?_
    refine bc_istore dX9_cool_24 (by decide) rfl ?_
    refine bc_iconst (v := 0) dX9_cool_26 (by decide) ?_
    refine bc_istore dX9_cool_27 (by decide) rfl ?_
    exact loop no 0 (by omega)
def sfB (μ : bc_M) (k : Nat) : Bool := opB μ (μ 8 k + 1) (μ 9 k) && (opB μ (μ 8 k - 1) (μ 9 k) && (opB μ (μ 8 k) (μ 9 k + 1) && opB μ (μ 8 k) (μ 9 k - 1)))
def sfM (B : Nat → Bool) : Nat → Int32
  | 0 => 0
  | k + 1 => if B k = true then sfM B k ||| 1 <<< (nI k &&& 31) else sfM B k
theorem s_safe (hnm : μ 3 3 = nI nm) (hnm6 : nm ≤ 6) : bc_C (d + 2) LC mX9_safe [.ref 0] μ (fun r ν => r = some (.int (sfM (sfB μ) nm)) ∧ ν = μ) := by
  refine bc_enter (by decide) (Nat.le_of_ble_eq_true rfl) rfl ?_
  have loop : ∀ (m k : Nat) (v w : Value), v.category = 1 → w.category = 1 → k + m = nm → bc_W (d + 2) LC mX9_safe 4 [.ref 0, .int (sfM (sfB μ) k), .int (nI k), v, w] [] μ (fun r ν => r = some (.int (sfM (sfB μ) nm)) ∧ ν = μ) := by
    intro m
    induction m with
    | zero =>
      intro k v w hv hw hk
      have hk : k = nm := by omega
      subst hk
      refine bc_iload_n dX9_safe_4 rfl ?_
      refine bc_aload_n dX9_safe_5 rfl ?_
      refine bc_getr dX9_safe_6 fX9_19 (rfl) rfl ?_
      refine bc_geti dX9_safe_9 fX9_182 (rfl) rfl ?_
      refine bc_icmp_ge (tgt := 106) dX9_safe_12 (by decide) (fun h12 => ?_) (fun h12 => absurd h12 (fun q => q (by rw [hnm]; exact Int32.le_refl _)))
      refine bc_iload_n dX9_safe_106 rfl ?_
      exact bc_ireturn dX9_safe_107 rfl rfl (⟨rfl, rfl⟩)
    | succ m ih =>
      intro k v w hv hw hk
      have h2 := ih (k + 1) (.int (μ 8 k)) (.int (μ 9 k)) rfl rfl (by omega)
      have skip : ¬ sfB μ k = true → bc_W (d + 2) LC mX9_safe 4 [.ref 0, .int (sfM (sfB μ) k), .int (nI k + 1), .int (μ 8 k), .int (μ 9 k)] [] μ (fun r ν => r = some (.int (sfM (sfB μ) nm)) ∧ ν = μ) := by
        intro hz
        rw [sfM, if_neg hz] at h2
        rw [bn_add1]
        exact h2
      refine bc_iload_n dX9_safe_4 rfl ?_
      refine bc_aload_n dX9_safe_5 rfl ?_
      refine bc_getr dX9_safe_6 fX9_19 (rfl) rfl ?_
      refine bc_geti dX9_safe_9 fX9_182 (rfl) rfl ?_
      refine bc_icmp_ge (tgt := 106) dX9_safe_12 (by decide) (fun h12 => absurd h12 (by rw [hnm, bn_leN (by omega) (by omega)]; omega)) (fun h12 => ?_)
      refine bc_aload_n dX9_safe_15 rfl ?_
      refine bc_getr dX9_safe_16 fX9_19 (rfl) rfl ?_
      refine bc_iload_n dX9_safe_19 rfl ?_
      refine bc_callV (z := mX0_mooringX) (ci := 0) dX9_safe_20 lX9_244 qX0_mooringX (by rfl) (by rfl) (by rfl) (by rfl) (Nat.le_of_ble_eq_true rfl) (s_mxB LC_b3 (by omega)) (fun r20 μ20 e20 => ?_)
      obtain ⟨rfl, q20⟩ := e20
      obtain rfl := q20.symm
      refine bc_istore_n dX9_safe_23 (by decide) rfl ?_
      refine bc_aload_n dX9_safe_24 rfl ?_
      refine bc_getr dX9_safe_25 fX9_19 (rfl) rfl ?_
      refine bc_iload_n dX9_safe_28 rfl ?_
      refine bc_callV (z := mX0_mooringY) (ci := 0) dX9_safe_29 lX9_247 qX0_mooringY (by rfl) (by rfl) (by rfl) (by rfl) (Nat.le_of_ble_eq_true rfl) (s_myB LC_b3 (by omega)) (fun r29 μ29 e29 => ?_)
      obtain ⟨rfl, q29⟩ := e29
      obtain rfl := q29.symm
      refine bc_istore dX9_safe_32 (by decide) rfl ?_
      refine bc_aload_n dX9_safe_34 rfl ?_
      refine bc_getr dX9_safe_35 fX9_19 (rfl) rfl ?_
      refine bc_iload_n dX9_safe_38 rfl ?_
      refine bc_iconst (v := 1) dX9_safe_39 (by decide) ?_
      refine bc_iadd dX9_safe_40 ?_
      refine bc_iload dX9_safe_41 rfl ?_
      refine bc_callV (z := mX0_isOpen) (ci := 0) dX9_safe_43 lX9_351 qX0_isOpen (by rfl) (by rfl) (by rfl) (by rfl) (Nat.le_of_ble_eq_true rfl) (s_isOpenB LC_b3 rfl _ _) (fun r43 μ43 e43 => ?_)
      obtain ⟨rfl, q43⟩ := e43
      obtain rfl := q43.symm
      refine bc_if_eq (tgt := 100) dX9_safe_46 (by decide) (fun h46 => ?_) (fun h46 => ?_)
      · refine bc_iinc1 dX9_safe_100 rfl (by decide) rfl ?_
        refine bc_goto (tgt := 4) dX9_safe_103 (by decide) ?_
        exact skip (fun z => by unfold sfB at z; simp only [Bool.and_eq_true] at z; exact i10 h46 z.1)
      · refine bc_aload_n dX9_safe_49 rfl ?_
        refine bc_getr dX9_safe_50 fX9_19 (rfl) rfl ?_
        refine bc_iload_n dX9_safe_53 rfl ?_
        refine bc_iconst (v := 1) dX9_safe_54 (by decide) ?_
        refine bc_isub dX9_safe_55 ?_
        refine bc_iload dX9_safe_56 rfl ?_
        refine bc_callV (z := mX0_isOpen) (ci := 0) dX9_safe_58 lX9_351 qX0_isOpen (by rfl) (by rfl) (by rfl) (by rfl) (Nat.le_of_ble_eq_true rfl) (s_isOpenB LC_b3 rfl _ _) (fun r58 μ58 e58 => ?_)
        obtain ⟨rfl, q58⟩ := e58
        obtain rfl := q58.symm
        refine bc_if_eq (tgt := 100) dX9_safe_61 (by decide) (fun h61 => ?_) (fun h61 => ?_)
        · refine bc_iinc1 dX9_safe_100 rfl (by decide) rfl ?_
          refine bc_goto (tgt := 4) dX9_safe_103 (by decide) ?_
          exact skip (fun z => by unfold sfB at z; simp only [Bool.and_eq_true] at z; exact i10 h61 z.2.1)
        · refine bc_aload_n dX9_safe_64 rfl ?_
          refine bc_getr dX9_safe_65 fX9_19 (rfl) rfl ?_
          refine bc_iload_n dX9_safe_68 rfl ?_
          refine bc_iload dX9_safe_69 rfl ?_
          refine bc_iconst (v := 1) dX9_safe_71 (by decide) ?_
          refine bc_iadd dX9_safe_72 ?_
          refine bc_callV (z := mX0_isOpen) (ci := 0) dX9_safe_73 lX9_351 qX0_isOpen (by rfl) (by rfl) (by rfl) (by rfl) (Nat.le_of_ble_eq_true rfl) (s_isOpenB LC_b3 rfl _ _) (fun r73 μ73 e73 => ?_)
          obtain ⟨rfl, q73⟩ := e73
          obtain rfl := q73.symm
          refine bc_if_eq (tgt := 100) dX9_safe_76 (by decide) (fun h76 => ?_) (fun h76 => ?_)
          · refine bc_iinc1 dX9_safe_100 rfl (by decide) rfl ?_
            refine bc_goto (tgt := 4) dX9_safe_103 (by decide) ?_
            exact skip (fun z => by unfold sfB at z; simp only [Bool.and_eq_true] at z; exact i10 h76 z.2.2.1)
          · refine bc_aload_n dX9_safe_79 rfl ?_
            refine bc_getr dX9_safe_80 fX9_19 (rfl) rfl ?_
            refine bc_iload_n dX9_safe_83 rfl ?_
            refine bc_iload dX9_safe_84 rfl ?_
            refine bc_iconst (v := 1) dX9_safe_86 (by decide) ?_
            refine bc_isub dX9_safe_87 ?_
            refine bc_callV (z := mX0_isOpen) (ci := 0) dX9_safe_88 lX9_351 qX0_isOpen (by rfl) (by rfl) (by rfl) (by rfl) (Nat.le_of_ble_eq_true rfl) (s_isOpenB LC_b3 rfl _ _) (fun r88 μ88 e88 => ?_)
            obtain ⟨rfl, q88⟩ := e88
            obtain rfl := q88.symm
            refine bc_if_eq (tgt := 100) dX9_safe_91 (by decide) (fun h91 => ?_) (fun h91 => ?_)
            · refine bc_iinc1 dX9_safe_100 rfl (by decide) rfl ?_
              refine bc_goto (tgt := 4) dX9_safe_103 (by decide) ?_
              exact skip (fun z => by unfold sfB at z; simp only [Bool.and_eq_true] at z; exact i10 h91 z.2.2.2)
            · refine bc_iload_n dX9_safe_94 rfl ?_
              refine bc_iconst (v := 1) dX9_safe_95 (by decide) ?_
              refine bc_iload_n dX9_safe_96 rfl ?_
              refine bc_ishl dX9_safe_97 ?_
              refine bc_ior dX9_safe_98 ?_
              refine bc_istore_n dX9_safe_99 (by decide) rfl ?_
              refine bc_iinc1 dX9_safe_100 rfl (by decide) rfl ?_
              refine bc_goto (tgt := 4) dX9_safe_103 (by decide) ?_
              have hz : sfB μ k = true := by unfold sfB; simp only [Bool.and_eq_true]; exact ⟨i11 h46, i11 h61, i11 h76, i11 h91⟩
              rw [sfM, if_pos hz] at h2
              rw [bn_add1]
              exact h2
  refine bc_iconst (v := 0) dX9_safe_0 (by decide) ?_
  refine bc_istore_n dX9_safe_1 (by decide) rfl ?_
  refine bc_iconst (v := 0) dX9_safe_2 (by decide) ?_
  refine bc_istore_n dX9_safe_3 (by decide) rfl ?_
  exact loop nm 0 .null .null rfl rfl (by omega)
end OW4
