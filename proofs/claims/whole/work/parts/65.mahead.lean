/-! the reference: hours ahead, onions, seasons -/
section T65
variable {d : Nat} {m m1 ν M : bc_M} {n no nq nr nm : Nat} {A : Row}
theorem okA_it (hA : okA no A) : ∀ k, okA no (itH (hourR M n no nq) k A) := by
  intro k
  induction k with
  | zero => exact hA
  | succ k ih => exact okA_hour ih
/-- an hour more, in a loop -/
theorem t_pass {m1 : bc_M} (hE : mEnv M m1 n no nq nr nm) (hf : ∀ i, i ≠ 15 → i ≠ 16 → i ≠ 20 → m i = m1 i) (hs : sR A (m 20)) (hA : okA no A) : bc_C (d + 6) LM mX10_passes [.ref 0] m (fun r ν => r = none ∧ (∀ i, i ≠ 15 → i ≠ 16 → i ≠ 20 → ν i = m1 i) ∧ sR (hourR M n no nq A) (ν 20)) := by
  have hE' : mEnv M m n no nq nr nm := hE.mv (fun k _ _ => by rw [hf 0 (by decide) (by decide) (by decide)]) (fun i h1 h2 => hf i (by omega) (by omega) (by omega))
  exact (t_passes hE' hs hA).weaken (fun r ν h => ⟨h.1, fun i a b c => (h.2.1 i a b c).trans (hf i a b c), h.2.2⟩)
theorem fr_take : ∀ i, i ≠ 15 → i ≠ 16 → i ≠ 20 → bc_us (bc_u m 0 0 0) 20 (cpN (m 19) (m 20) 33) i = bc_u m 0 0 0 i := fun i _ _ h => by rw [bc_us_ne _ _ h]
theorem t_aheadB {h0 w : Int32} (h : ¬ ((0 ≤ h0 ∧ h0 ≤ 99) ∧ (0 ≤ w ∧ w ≤ 3))) : bc_C (d + 2) LM mX10_ahead [.ref 0, .int h0, .int w] m (fun r ν => r = some (.int 0) ∧ ν = refM m 1 1) := by
  refine bc_enter (by decide) (Nat.le_of_ble_eq_true rfl) rfl ?_
  have bad : bc_W (d + 2) LM mX10_ahead 29 ([.ref 0, .int h0, .int w] ++ List.replicate (mX10_ahead.2.2.1 - 3) .null) [.ref 0] (bc_u m 0 0 0) (fun r ν => r = some (.int 0) ∧ ν = refM m 1 1) := by
    refine bc_iconst (v := 0) dX10_ahead_29 (by decide) ?_
    refine bc_iconst (v := 1) dX10_ahead_30 (by decide) ?_
    refine bc_iconst (v := 1) dX10_ahead_31 (by decide) ?_
    refine bc_callV (z := mX10_may) (ci := 10) dX10_ahead_32 lX10_236 qX10_may (by rfl) (by rfl) (by rfl) (by rfl) (Nat.le_of_ble_eq_true rfl) (t_mayN (k := 1) False (fun x => x) _ (by decide) rfl (by decide)) (fun r32 μ32 e32 => ?_)
    obtain ⟨rfl, q32⟩ := e32
    obtain rfl := q32.symm
    refine bc_if_ne (tgt := 40) dX10_ahead_35 (by decide) (fun h35 => absurd h35 (fun q => q rfl)) (fun h35 => ?_)
    refine bc_iconst (v := 0) dX10_ahead_38 (by decide) ?_
    exact bc_ireturn dX10_ahead_39 rfl rfl (⟨rfl, rfl⟩)
  refine bc_aload_n dX10_ahead_0 rfl ?_
  refine bc_iconst (v := 0) dX10_ahead_1 (by decide) ?_
  refine bc_put dX10_ahead_2 fX10_3 ftX10 fpX10_0 rfl rfl (rfl) rfl ?_
  refine bc_aload_n dX10_ahead_5 rfl ?_
  refine bc_iload_n dX10_ahead_6 rfl ?_
  refine bc_iconst (v := 0) dX10_ahead_7 (by decide) ?_
  refine bc_bipush (v := 99) dX10_ahead_8 (by decide) ?_
  refine bc_callS (z := mX10_within) dX10_ahead_10 lX10_384 qX10_within (by rfl) (by rfl) (Nat.le_of_ble_eq_true rfl) (t_within _ _ _) (fun r10 μ10 e10 => ?_)
  obtain ⟨rfl, q10⟩ := e10
  obtain rfl := q10.symm
  refine bc_if_eq (tgt := 29) dX10_ahead_13 (by decide) (fun h13 => ?_) (fun h13 => ?_)
  · exact bad
  · refine bc_iload_n dX10_ahead_16 rfl ?_
    refine bc_iconst (v := 0) dX10_ahead_17 (by decide) ?_
    refine bc_iconst (v := 3) dX10_ahead_18 (by decide) ?_
    refine bc_callS (z := mX10_within) dX10_ahead_19 lX10_384 qX10_within (by rfl) (by rfl) (Nat.le_of_ble_eq_true rfl) (t_within _ _ _) (fun r19 μ19 e19 => ?_)
    obtain ⟨rfl, q19⟩ := e19
    obtain rfl := q19.symm
    refine bc_if_eq (tgt := 29) dX10_ahead_22 (by decide) (fun h22 => ?_) (fun h22 => ?_)
    · exact bad
    · exact absurd (⟨Decidable.not_not.mp (fun e => h13 (ite0.mpr e)), Decidable.not_not.mp (fun e => h22 (ite0.mpr e))⟩) h
theorem t_ahead {h w : Nat} (hE : mEnv M m n no nq nr nm) (hN : sR (row 31 M) (m 19)) (hA : okA no (row 31 M)) (hh : h ≤ 99) (hw : w ≤ 3) : bc_C (d + 7) LM mX10_ahead [.ref 0, .int (nI h), .int (nI w)] m (fun r ν => r = some (.int (ahdM M n no nq h w)) ∧ qS m ν) := by
  refine bc_enter (by decide) (Nat.le_of_ble_eq_true rfl) rfl ?_
  have loop : ∀ (c k : Nat) (ν : bc_M), k + c = h → (∀ i, i ≠ 15 → i ≠ 16 → i ≠ 20 → ν i = bc_u m 0 0 0 i) → sR (itH (hourR M n no nq) k (row 31 M)) (ν 20) → bc_W (d + 7) LM mX10_ahead 46 [.ref 0, .int (nI h), .int (nI w), .int (nI k)] [] ν (fun r ν => r = some (.int (ahdM M n no nq h w)) ∧ qS m ν) := by
    intro c
    induction c with
    | zero =>
      intro k ν hk hf hs
      have hk : k = h := by omega
      subst hk
      have hno : ν 0 26 = nI no := by rw [hf 0 (by decide) (by decide) (by decide)]; exact hE.2.1.2.1
      have hc : w = 0 ∨ w = 1 ∨ w = 2 ∨ w = 3 := by omega
      rcases hc with rfl | rfl | rfl | rfl
      · skip
        refine bc_iload_n dX10_ahead_46 rfl ?_
        refine bc_iload_n dX10_ahead_47 rfl ?_
        refine bc_icmp_ge (tgt := 61) dX10_ahead_48 (by decide) (fun h48 => ?_) (fun h48 => absurd h48 (fun q => q (Int32.le_refl _)))
        refine bc_iload_n dX10_ahead_61 rfl ?_
        refine bc_iconst (v := 3) dX10_ahead_62 (by decide) ?_
        refine bc_icmp_ne (tgt := 73) dX10_ahead_63 (by decide) (fun h63 => ?_) (fun h63 => absurd h63 (by decide))
        refine bc_aload_n dX10_ahead_73 rfl ?_
        refine bc_getr dX10_ahead_74 fX10_74 (rfl) rfl ?_
        refine bc_iload_n dX10_ahead_77 rfl ?_
        refine bc_if_ne (tgt := 86) dX10_ahead_78 (by decide) (fun h78 => absurd h78 (fun q => q rfl)) (fun h78 => ?_)
        refine bc_bipush (v := 28) dX10_ahead_81 (by decide) ?_
        refine bc_goto (tgt := 98) dX10_ahead_83 (by decide) ?_
        refine bc_ialdE (k := 28) dX10_ahead_98 (rfl) (rfl) (⟨by omega, by decide⟩) ?_
        exact bc_ireturn dX10_ahead_99 rfl rfl (⟨congrArg (fun z => some (Value.int z)) (hs.2.2.2.2.1), qS.of hf⟩)
      · skip
        refine bc_iload_n dX10_ahead_46 rfl ?_
        refine bc_iload_n dX10_ahead_47 rfl ?_
        refine bc_icmp_ge (tgt := 61) dX10_ahead_48 (by decide) (fun h48 => ?_) (fun h48 => absurd h48 (fun q => q (Int32.le_refl _)))
        refine bc_iload_n dX10_ahead_61 rfl ?_
        refine bc_iconst (v := 3) dX10_ahead_62 (by decide) ?_
        refine bc_icmp_ne (tgt := 73) dX10_ahead_63 (by decide) (fun h63 => ?_) (fun h63 => absurd h63 (by decide))
        refine bc_aload_n dX10_ahead_73 rfl ?_
        refine bc_getr dX10_ahead_74 fX10_74 (rfl) rfl ?_
        refine bc_iload_n dX10_ahead_77 rfl ?_
        refine bc_if_ne (tgt := 86) dX10_ahead_78 (by decide) (fun h78 => ?_) (fun h78 => absurd h78 (by decide))
        refine bc_iload_n dX10_ahead_86 rfl ?_
        refine bc_iconst (v := 1) dX10_ahead_87 (by decide) ?_
        refine bc_icmp_ne (tgt := 96) dX10_ahead_88 (by decide) (fun h88 => absurd h88 (fun q => q rfl)) (fun h88 => ?_)
        refine bc_bipush (v := 29) dX10_ahead_91 (by decide) ?_
        refine bc_goto (tgt := 98) dX10_ahead_93 (by decide) ?_
        refine bc_ialdE (k := 29) dX10_ahead_98 (rfl) (rfl) (⟨by omega, by decide⟩) ?_
        exact bc_ireturn dX10_ahead_99 rfl rfl (⟨congrArg (fun z => some (Value.int z)) (hs.2.2.2.2.2.1), qS.of hf⟩)
      · skip
        refine bc_iload_n dX10_ahead_46 rfl ?_
        refine bc_iload_n dX10_ahead_47 rfl ?_
        refine bc_icmp_ge (tgt := 61) dX10_ahead_48 (by decide) (fun h48 => ?_) (fun h48 => absurd h48 (fun q => q (Int32.le_refl _)))
        refine bc_iload_n dX10_ahead_61 rfl ?_
        refine bc_iconst (v := 3) dX10_ahead_62 (by decide) ?_
        refine bc_icmp_ne (tgt := 73) dX10_ahead_63 (by decide) (fun h63 => ?_) (fun h63 => absurd h63 (by decide))
        refine bc_aload_n dX10_ahead_73 rfl ?_
        refine bc_getr dX10_ahead_74 fX10_74 (rfl) rfl ?_
        refine bc_iload_n dX10_ahead_77 rfl ?_
        refine bc_if_ne (tgt := 86) dX10_ahead_78 (by decide) (fun h78 => ?_) (fun h78 => absurd h78 (by decide))
        refine bc_iload_n dX10_ahead_86 rfl ?_
        refine bc_iconst (v := 1) dX10_ahead_87 (by decide) ?_
        refine bc_icmp_ne (tgt := 96) dX10_ahead_88 (by decide) (fun h88 => ?_) (fun h88 => absurd h88 (by decide))
        refine bc_bipush (v := 31) dX10_ahead_96 (by decide) ?_
        refine bc_ialdE (k := 31) dX10_ahead_98 (rfl) (rfl) (⟨by omega, by decide⟩) ?_
        exact bc_ireturn dX10_ahead_99 rfl rfl (⟨congrArg (fun z => some (Value.int z)) (hs.2.2.2.2.2.2.2.1), qS.of hf⟩)
      · skip
        refine bc_iload_n dX10_ahead_46 rfl ?_
        refine bc_iload_n dX10_ahead_47 rfl ?_
        refine bc_icmp_ge (tgt := 61) dX10_ahead_48 (by decide) (fun h48 => ?_) (fun h48 => absurd h48 (fun q => q (Int32.le_refl _)))
        refine bc_iload_n dX10_ahead_61 rfl ?_
        refine bc_iconst (v := 3) dX10_ahead_62 (by decide) ?_
        refine bc_icmp_ne (tgt := 73) dX10_ahead_63 (by decide) (fun h63 => absurd h63 (fun q => q rfl)) (fun h63 => ?_)
        refine bc_aload_n dX10_ahead_66 rfl ?_
        refine bc_callV (z := mX10_litNow) (ci := 10) dX10_ahead_67 lX10_387 qX10_litNow (by rfl) (by rfl) (by rfl) (by rfl) (Nat.le_of_ble_eq_true rfl) (t_litNow hno hE.o8 hs) (fun r67 μ67 e67 => ?_)
        obtain ⟨rfl, q67⟩ := e67
        obtain rfl := q67.symm
        refine bc_goto (tgt := 99) dX10_ahead_70 (by decide) ?_
        exact bc_ireturn dX10_ahead_99 rfl rfl (⟨congrArg (fun z => some (Value.int z)) (rfl), qS.of hf⟩)
    | succ c ih =>
      intro k ν hk hf hs
      refine bc_iload_n dX10_ahead_46 rfl ?_
      refine bc_iload_n dX10_ahead_47 rfl ?_
      refine bc_icmp_ge (tgt := 61) dX10_ahead_48 (by decide) (fun h48 => absurd h48 (bx_in rfl (by omega) (by omega))) (fun h48 => ?_)
      refine bc_aload_n dX10_ahead_51 rfl ?_
      refine bc_callV (z := mX10_passes) (ci := 10) dX10_ahead_52 lX10_381 qX10_passes (by rfl) (by rfl) (by rfl) (by rfl) (Nat.le_of_ble_eq_true rfl) (t_pass hE.t0 hf hs (okA_it hA k)) (fun r52 μ52 e52 => ?_)
      obtain ⟨rfl, f52, s52⟩ := e52
      refine bc_iinc1 dX10_ahead_55 rfl (by decide) rfl ?_
      refine bc_goto (tgt := 46) dX10_ahead_58 (by decide) ?_
      rw [bn_add1]
      exact ih (k + 1) _ (by omega) f52 s52
  refine bc_aload_n dX10_ahead_0 rfl ?_
  refine bc_iconst (v := 0) dX10_ahead_1 (by decide) ?_
  refine bc_put dX10_ahead_2 fX10_3 ftX10 fpX10_0 rfl rfl (rfl) rfl ?_
  refine bc_aload_n dX10_ahead_5 rfl ?_
  refine bc_iload_n dX10_ahead_6 rfl ?_
  refine bc_iconst (v := 0) dX10_ahead_7 (by decide) ?_
  refine bc_bipush (v := 99) dX10_ahead_8 (by decide) ?_
  refine bc_callS (z := mX10_within) dX10_ahead_10 lX10_384 qX10_within (by rfl) (by rfl) (Nat.le_of_ble_eq_true rfl) (t_within _ _ _) (fun r10 μ10 e10 => ?_)
  obtain ⟨rfl, q10⟩ := e10
  obtain rfl := q10.symm
  refine bc_if_eq (tgt := 29) dX10_ahead_13 (by decide) (fun h13 => absurd h13 (fun e => ite0.mp e (wN (b := 99) hh (by omega)))) (fun h13 => ?_)
  refine bc_iload_n dX10_ahead_16 rfl ?_
  refine bc_iconst (v := 0) dX10_ahead_17 (by decide) ?_
  refine bc_iconst (v := 3) dX10_ahead_18 (by decide) ?_
  refine bc_callS (z := mX10_within) dX10_ahead_19 lX10_384 qX10_within (by rfl) (by rfl) (Nat.le_of_ble_eq_true rfl) (t_within _ _ _) (fun r19 μ19 e19 => ?_)
  obtain ⟨rfl, q19⟩ := e19
  obtain rfl := q19.symm
  refine bc_if_eq (tgt := 29) dX10_ahead_22 (by decide) (fun h22 => absurd h22 (fun e => ite0.mp e (wN (b := 3) hw (by omega)))) (fun h22 => ?_)
  refine bc_iconst (v := 1) dX10_ahead_25 (by decide) ?_
  refine bc_goto (tgt := 30) dX10_ahead_26 (by decide) ?_
  refine bc_iconst (v := 1) dX10_ahead_30 (by decide) ?_
  refine bc_iconst (v := 1) dX10_ahead_31 (by decide) ?_
  refine bc_callV (z := mX10_may) (ci := 10) dX10_ahead_32 lX10_236 qX10_may (by rfl) (by rfl) (by rfl) (by rfl) (Nat.le_of_ble_eq_true rfl) (t_mayY (k := 1) True trivial _ (by decide) rfl (by decide)) (fun r32 μ32 e32 => ?_)
  obtain ⟨rfl, q32⟩ := e32
  obtain rfl := q32.symm
  refine bc_if_ne (tgt := 40) dX10_ahead_35 (by decide) (fun h35 => ?_) (fun h35 => absurd h35 (by decide))
  refine bc_aload_n dX10_ahead_40 rfl ?_
  refine bc_callV (z := mX10_take) (ci := 10) dX10_ahead_41 lX10_333 qX10_take (by rfl) (by rfl) (by rfl) (by rfl) (Nat.le_of_ble_eq_true rfl) (t_take) (fun r41 μ41 e41 => ?_)
  obtain ⟨rfl, q41⟩ := e41
  obtain rfl := q41.symm
  refine bc_iconst (v := 0) dX10_ahead_44 (by decide) ?_
  refine bc_istore_n dX10_ahead_45 (by decide) rfl ?_
  exact loop h 0 _ (by omega) fr_take (sR_cp hN)
theorem t_wreck (hE : mEnv M m n no nq nr nm) (hN : sR (row 31 M) (m 19)) (hA : okA no (row 31 M)) : bc_C (d + 7) LM mX10_wreck [.ref 0] m (fun r ν => r = some (.int (wrkM (hourR M n no nq) (M 31 6) 200 1 (row 31 M))) ∧ qS m ν) := by
  refine bc_enter (by decide) (Nat.le_of_ble_eq_true rfl) rfl ?_
  have loop : ∀ (c k : Nat) (ν : bc_M) (B : Row), k + c = 201 → (∀ i, i ≠ 15 → i ≠ 16 → i ≠ 20 → ν i = bc_u m 0 0 0 i) → sR B (ν 20) → okA no B → bc_W (d + 7) LM mX10_wreck 11 [.ref 0, .int (nI k)] [] ν (fun r ν => r = some (.int (wrkM (hourR M n no nq) (M 31 6) c k B)) ∧ qS m ν) := by
    intro c
    induction c with
    | zero =>
      intro k ν B hk hf hs hB
      have hk : k = 201 := by omega
      subst hk
      refine bc_iload_n dX10_wreck_11 rfl ?_
      refine bc_sipush (v := 200) dX10_wreck_12 (by decide) ?_
      refine bc_icmp_gt (tgt := 47) dX10_wreck_15 (by decide) (fun h15 => ?_) (fun h15 => absurd h15 (by decide))
      refine bc_iconst (v := (-1)) dX10_wreck_47 (by decide) ?_
      exact bc_ireturn dX10_wreck_48 rfl rfl (⟨rfl, qS.of hf⟩)
    | succ c ih =>
      intro k ν B hk hf hs hB
      have hn : ν 19 = m 19 := hf 19 (by decide) (by decide) (by decide)
      refine bc_iload_n dX10_wreck_11 rfl ?_
      refine bc_sipush (v := 200) dX10_wreck_12 (by decide) ?_
      refine bc_icmp_gt (tgt := 47) dX10_wreck_15 (by decide) (fun h15 => absurd h15 (by rw [show (200 : Int32) = nI 200 from rfl, bn_ltN (by omega) (by omega)]; omega)) (fun h15 => ?_)
      refine bc_aload_n dX10_wreck_18 rfl ?_
      refine bc_callV (z := mX10_passes) (ci := 10) dX10_wreck_19 lX10_381 qX10_passes (by rfl) (by rfl) (by rfl) (by rfl) (Nat.le_of_ble_eq_true rfl) (t_pass hE.t0 hf hs hB) (fun r19 μ19 e19 => ?_)
      obtain ⟨rfl, f19, s19⟩ := e19
      refine bc_aload_n dX10_wreck_22 rfl ?_
      refine bc_getr dX10_wreck_23 fX10_74 (rfl) rfl ?_
      refine bc_bipush (v := 31) dX10_wreck_26 (by decide) ?_
      refine bc_ialdE (k := 31) dX10_wreck_28 (rfl) (rfl) (⟨by omega, by decide⟩) ?_
      refine bc_aload_n dX10_wreck_29 rfl ?_
      refine bc_getr dX10_wreck_30 fX10_71 (rfl) rfl ?_
      refine bc_bipush (v := 31) dX10_wreck_33 (by decide) ?_
      refine bc_ialdE (k := 31) dX10_wreck_35 (rfl) (rfl) (⟨by omega, by decide⟩) ?_
      rw [show μ19 20 31 = hourR M n no nq B 4 from s19.2.2.2.2.2.2.2.1, show μ19 19 31 = M 31 6 by rw [f19 19 (by decide) (by decide) (by decide)]; exact hN.2.2.2.2.2.2.2.1]
      refine bc_icmp_le (tgt := 41) dX10_wreck_36 (by decide) (fun h36 => ?_) (fun h36 => ?_)
      · refine bc_iinc1 dX10_wreck_41 rfl (by decide) rfl ?_
        refine bc_goto (tgt := 11) dX10_wreck_44 (by decide) ?_
        rw [bn_add1, wrkM, if_neg (Int32.not_lt.mpr h36)]
        exact ih (k + 1) _ _ (by omega) f19 s19 (okA_hour hB)
      · refine bc_iload_n dX10_wreck_39 rfl ?_
        exact bc_ireturn dX10_wreck_40 rfl rfl (⟨by rw [wrkM, if_pos (Int32.not_le.mp h36)], qS.of f19⟩)
  refine bc_aload_n dX10_wreck_0 rfl ?_
  refine bc_iconst (v := 0) dX10_wreck_1 (by decide) ?_
  refine bc_put dX10_wreck_2 fX10_3 ftX10 fpX10_0 rfl rfl (rfl) rfl ?_
  refine bc_aload_n dX10_wreck_5 rfl ?_
  refine bc_callV (z := mX10_take) (ci := 10) dX10_wreck_6 lX10_333 qX10_take (by rfl) (by rfl) (by rfl) (by rfl) (Nat.le_of_ble_eq_true rfl) (t_take) (fun r6 μ6 e6 => ?_)
  obtain ⟨rfl, q6⟩ := e6
  obtain rfl := q6.symm
  refine bc_iconst (v := 1) dX10_wreck_9 (by decide) ?_
  refine bc_istore_n dX10_wreck_10 (by decide) rfl ?_
  exact loop 200 1 _ _ (by omega) fr_take (sR_cp hN) hA
theorem t_trimB {q : Int32} (hE : mEnv M m n no nq nr nm) (h : ¬ (0 ≤ q ∧ q < nI nq)) : bc_C (d + 2) LM mX10_trim [.ref 0, .int q] m (fun r ν => r = some (.int 0) ∧ ν = refM m 1 0) := by
  refine bc_enter (by decide) (Nat.le_of_ble_eq_true rfl) rfl ?_
  refine bc_aload_n dX10_trim_0 rfl ?_
  refine bc_iconst (v := 0) dX10_trim_1 (by decide) ?_
  refine bc_put dX10_trim_2 fX10_3 ftX10 fpX10_0 rfl rfl (rfl) rfl ?_
  refine bc_aload_n dX10_trim_5 rfl ?_
  refine bc_iload_n dX10_trim_6 rfl ?_
  refine bc_iconst (v := 1) dX10_trim_7 (by decide) ?_
  refine bc_callV (z := mX10_isQuarter) (ci := 10) dX10_trim_8 lX10_390 qX10_isQuarter (by rfl) (by rfl) (by rfl) (by rfl) (Nat.le_of_ble_eq_true rfl) (t_isQuarterN hE.2.1.1 hE.q6 h rfl (by decide)) (fun r8 μ8 e8 => ?_)
  obtain ⟨rfl, q8⟩ := e8
  obtain rfl := q8.symm
  refine bc_if_ne (tgt := 16) dX10_trim_11 (by decide) (fun h11 => absurd h11 (fun q => q rfl)) (fun h11 => ?_)
  refine bc_iconst (v := 0) dX10_trim_14 (by decide) ?_
  exact bc_ireturn dX10_trim_15 rfl rfl (⟨rfl, rfl⟩)
theorem upd_uu {f : Row} {i : Nat} {a b : Int32} : upd (upd f i a) i b = upd f i b := by
  funext k
  by_cases h : k = i
  · simp [upd, h]
  · simp [upd, h]
theorem upd_sf {f : Row} {i : Nat} : upd f i (f i) = f := by
  funext k
  by_cases h : k = i
  · subst h; simp [upd]
  · simp [upd, h]
theorem okA_on {q : Nat} {v : Int32} (hA : okA no A) : okA no (upd A (q + 22) v) := by
  obtain ⟨a1, a2, a3, a4⟩ := hA
  have u2 : ∀ j, j ≠ q + 22 → upd A (q + 22) v j = A j := fun j hj => by simp [upd, hj]
  refine ⟨fun o ho => ?_, fun o h1 h2 => ?_, ?_, ?_⟩
  · rw [u2 _ (by omega)]; exact a1 o ho
  · rw [u2 _ (by omega)]; exact a2 o h1 h2
  · rw [u2 _ (by omega)]; exact a3
  · rw [u2 _ (by omega), u2 _ (by omega)]; exact a4
theorem okA_cold {v : Int32} (hA : okA no A) : okA no (upd A 5 v) := by
  obtain ⟨a1, a2, a3, a4⟩ := hA
  have u2 : ∀ j, j ≠ 5 → upd A 5 v j = A j := fun j hj => by simp [upd, hj]
  refine ⟨fun o ho => ?_, fun o h1 h2 => ?_, ?_, ?_⟩
  · rw [u2 _ (by omega)]; exact a1 o ho
  · rw [u2 _ (by omega)]; exact a2 o h1 h2
  · rw [u2 _ (by omega)]; exact a3
  · rw [u2 _ (by omega), u2 _ (by omega)]; exact a4
theorem trm_v {q k : Nat} (h8 : no ≤ 8) : trmB M n no nq q k = decide (pc3 ((msA M n no (upd (row 31 M) (q + 22) (nI k)) 1 nq - msA M n no (upd (row 31 M) (q + 22) (nI k)) (1 + 2) nq) / 10) = 0 ∧ pc3 ((msA M n no (upd (row 31 M) (q + 22) (nI k)) 0 nq - msA M n no (upd (row 31 M) (q + 22) (nI k)) (0 + 2) nq) / 10) = 0) := by
  have e1 : litA no (upd (row 31 M) (q + 22) (nI k)) = lbM (M 32) 0 no := by
    rw [← lit_now h8]
    exact lbM_cg no (fun i hi => by simp only [upd]; rw [if_neg (by omega)])
  have e2 : upd (row 31 M) (q + 22) (nI k) 2 = M 31 4 := by simp only [upd]; rw [if_neg (by omega)]; rfl
  unfold trmB eaM noM msA
  rw [e1, e2]
theorem t_trim {q : Nat} (hE : mEnv M m n no nq nr nm) (hN : sR (row 31 M) (m 19)) (hA : okA no (row 31 M)) (hq : q < nq) : bc_C (d + 6) LM mX10_trim [.ref 0, .int (nI q)] m (fun r ν => r = some (.int (srB (trmB M n no nq q) 100 0)) ∧ qS m ν) := by
  refine bc_enter (by decide) (Nat.le_of_ble_eq_true rfl) rfl ?_
  have h6 := hE.q6
  have h8 := hE.o8
  have loop : ∀ (c k : Nat) (ν : bc_M) (v : Int32), k + c = 100 → (∀ i, i ≠ 15 → i ≠ 16 → i ≠ 20 → ν i = bc_u m 0 0 0 i) → sR (upd (row 31 M) (q + 22) v) (ν 20) → bc_W (d + 6) LM mX10_trim 22 [.ref 0, .int (nI q), .int (nI k)] [] ν (fun r ν => r = some (.int (srB (trmB M n no nq q) c k)) ∧ qS m ν) := by
    intro c
    induction c with
    | zero =>
      intro k ν v hk hf hs
      have hk : k = 100 := by omega
      subst hk
      refine bc_iload_n dX10_trim_22 rfl ?_
      refine bc_bipush (v := 99) dX10_trim_23 (by decide) ?_
      refine bc_icmp_gt (tgt := 62) dX10_trim_25 (by decide) (fun h25 => ?_) (fun h25 => absurd h25 (by decide))
      refine bc_iconst (v := (-1)) dX10_trim_62 (by decide) ?_
      exact bc_ireturn dX10_trim_63 rfl rfl (⟨rfl, qS.of hf⟩)
    | succ c ih =>
      intro k ν v hk hf hs
      have hs2 := sR_on (o := q) (v := nI k) hs (by omega)
      rw [upd_uu] at hs2
      have hf2 : ∀ i, i ≠ 15 → i ≠ 16 → i ≠ 20 → bc_us ν 20 (upd (ν 20) (16 + q) (nI k)) i = bc_u m 0 0 0 i := fun i a b e => by rw [bc_us_ne _ _ e]; exact hf i a b e
      have hE2 : mEnv M (bc_us ν 20 (upd (ν 20) (16 + q) (nI k))) n no nq nr nm := hE.t0.mv (fun i _ _ => by rw [hf2 0 (by decide) (by decide) (by decide)]) (fun i h1 h2 => hf2 i (by omega) (by omega) (by omega))
      have next : ∀ ν', (∀ i, i ≠ 15 → i ≠ 16 → ν' i = bc_us ν 20 (upd (ν 20) (16 + q) (nI k)) i) → trmB M n no nq q k = false → bc_W (d + 6) LM mX10_trim 56 [.ref 0, .int (nI q), .int (nI k)] [] ν' (fun r ν => r = some (.int (srB (trmB M n no nq q) (c + 1) k)) ∧ qS m ν) := by
        intro ν' h' hb
        have h2 := ih (k + 1) ν' (nI k) (by omega) (fun i a b e => (h' i a b).trans (hf2 i a b e)) (by rw [h' 20 (by decide) (by decide)]; exact hs2)
        rw [srB, hb, if_neg (by decide)]
        refine bc_iinc1 dX10_trim_56 rfl (by decide) rfl ?_
        refine bc_goto (tgt := 22) dX10_trim_59 (by decide) ?_
        rw [bn_add1]
        exact h2
      refine bc_iload_n dX10_trim_22 rfl ?_
      refine bc_bipush (v := 99) dX10_trim_23 (by decide) ?_
      refine bc_icmp_gt (tgt := 62) dX10_trim_25 (by decide) (fun h25 => absurd h25 (by rw [show (99 : Int32) = nI 99 from rfl, bn_ltN (by omega) (by omega)]; omega)) (fun h25 => ?_)
      refine bc_aload_n dX10_trim_28 rfl ?_
      refine bc_getr dX10_trim_29 fX10_74 (rfl) rfl ?_
      refine bc_bipush (v := 16) dX10_trim_32 (by decide) ?_
      refine bc_iload_n dX10_trim_34 rfl ?_
      refine bc_iadd dX10_trim_35 ?_
      refine bc_iload_n dX10_trim_36 rfl ?_
      refine bc_iastE (k := 16 + q) dX10_trim_37 (rfl) (ixA (a := 16) (b := q) (rfl) (rfl)) (⟨by omega, by decide⟩) ?_
      rw [bc_u_us]
      refine bc_aload_n dX10_trim_38 rfl ?_
      refine bc_iconst (v := 1) dX10_trim_39 (by decide) ?_
      refine bc_callV (z := mX10_driftTo) (ci := 10) dX10_trim_40 lX10_372 qX10_driftTo (by rfl) (by rfl) (by rfl) (by rfl) (Nat.le_of_ble_eq_true rfl) (t_driftTo (j := 1) hE2 hs2 (okA_on hA) (by omega)) (fun r40 μ40 e40 => ?_)
      obtain ⟨rfl, f40⟩ := e40
      refine bc_if_ne (tgt := 56) dX10_trim_43 (by decide) (fun h43 => ?_) (fun h43 => ?_)
      · exact next _ f40 (by rw [trm_v h8]; exact decide_eq_false (fun e => h43 e.1))
      · have hE40 : mEnv M μ40 n no nq nr nm := hE2.mv (fun i _ _ => by rw [f40 0 (by decide) (by decide)]) (fun i h1 h2 => f40 i (by omega) (by omega))
        have hs40 : sR (upd (row 31 M) (q + 22) (nI k)) (μ40 20) := by rw [f40 20 (by decide) (by decide)]; exact hs2
        refine bc_aload_n dX10_trim_46 rfl ?_
        refine bc_iconst (v := 0) dX10_trim_47 (by decide) ?_
        refine bc_callV (z := mX10_driftTo) (ci := 10) dX10_trim_48 lX10_372 qX10_driftTo (by rfl) (by rfl) (by rfl) (by rfl) (Nat.le_of_ble_eq_true rfl) (t_driftTo (j := 0) hE40 hs40 (okA_on hA) (by omega)) (fun r48 μ48 e48 => ?_)
        obtain ⟨rfl, f48⟩ := e48
        refine bc_if_ne (tgt := 56) dX10_trim_51 (by decide) (fun h51 => ?_) (fun h51 => ?_)
        · exact next _ (fun i a b => (f48 i a b).trans (f40 i a b)) (by rw [trm_v h8]; exact decide_eq_false (fun e => h51 e.2))
        · refine bc_iload_n dX10_trim_54 rfl ?_
          exact bc_ireturn dX10_trim_55 rfl rfl (⟨by rw [srB, trm_v h8, if_pos (decide_eq_true ⟨h43, h51⟩)], qS.of (fun i a b e => ((f48 i a b).trans (f40 i a b)).trans (hf2 i a b e))⟩)
  refine bc_aload_n dX10_trim_0 rfl ?_
  refine bc_iconst (v := 0) dX10_trim_1 (by decide) ?_
  refine bc_put dX10_trim_2 fX10_3 ftX10 fpX10_0 rfl rfl (rfl) rfl ?_
  refine bc_aload_n dX10_trim_5 rfl ?_
  refine bc_iload_n dX10_trim_6 rfl ?_
  refine bc_iconst (v := 1) dX10_trim_7 (by decide) ?_
  refine bc_callV (z := mX10_isQuarter) (ci := 10) dX10_trim_8 lX10_390 qX10_isQuarter (by rfl) (by rfl) (by rfl) (by rfl) (Nat.le_of_ble_eq_true rfl) (t_isQuarterY hE.2.1.1 h6 (gq hq (by omega)) rfl (by decide)) (fun r8 μ8 e8 => ?_)
  obtain ⟨rfl, q8⟩ := e8
  obtain rfl := q8.symm
  refine bc_if_ne (tgt := 16) dX10_trim_11 (by decide) (fun h11 => ?_) (fun h11 => absurd h11 (by decide))
  refine bc_aload_n dX10_trim_16 rfl ?_
  refine bc_callV (z := mX10_take) (ci := 10) dX10_trim_17 lX10_333 qX10_take (by rfl) (by rfl) (by rfl) (by rfl) (Nat.le_of_ble_eq_true rfl) (t_take) (fun r17 μ17 e17 => ?_)
  obtain ⟨rfl, q17⟩ := e17
  obtain rfl := q17.symm
  refine bc_iconst (v := 0) dX10_trim_20 (by decide) ?_
  refine bc_istore_n dX10_trim_21 (by decide) rfl ?_
  exact loop 100 0 _ (row 31 M (q + 22)) (by omega) fr_take (by rw [upd_sf]; exact sR_cp hN)
/-! seasons -/
theorem t_draws {b : Nat} (hn : 0 < b) (hn2 : b < 100) : bc_C d LM mX10_draws [.ref 0, .int (nI b)] m (fun r ν => r = some (.int (nI (drw (m 0 57) b))) ∧ ν = bc_u m 0 57 (rnd (m 0 57))) := by
  refine bc_enter (by decide) (Nat.le_of_ble_eq_true rfl) rfl ?_
  refine bc_aload_n dX10_draws_0 rfl ?_
  refine bc_aload_n dX10_draws_1 rfl ?_
  refine bc_geti dX10_draws_2 fX10_437 (rfl) rfl ?_
  refine bc_ldc_w dX10_draws_5 nX10_440 ?_
  refine bc_imul dX10_draws_8 ?_
  refine bc_sipush (v := 12345) dX10_draws_9 (by decide) ?_
  refine bc_iadd dX10_draws_12 ?_
  refine bc_put dX10_draws_13 fX10_437 ftX10 fpX10_57 rfl rfl (rfl) rfl ?_
  refine bc_aload_n dX10_draws_16 rfl ?_
  refine bc_geti dX10_draws_17 fX10_437 (rfl) rfl ?_
  refine bc_bipush (v := 16) dX10_draws_20 (by decide) ?_
  refine bc_ishr dX10_draws_22 ?_
  refine bc_sipush (v := 32767) dX10_draws_23 (by decide) ?_
  refine bc_iand dX10_draws_26 ?_
  refine bc_iload_n dX10_draws_27 rfl ?_
  refine bc_irem dX10_draws_28 (nI_ne0 hn (by omega)) ?_
  exact bc_ireturn dX10_draws_29 rfl rfl (⟨by rw [← drw_eq (m 0 57) hn (by omega)]; rw [show bc_u m 0 57 (m 0 57 * 1103515245 + 12345) 0 57 = rnd (m 0 57) by rw [bc_u_r, if_pos ⟨rfl, rfl⟩]; rfl], rfl⟩)
theorem sea_ok (hoq : 0 < no → 0 < nq) {C : Int32} : ∀ k z, okA no z.1 → okA no (seaM M n no nq C k z).1 := by
  intro k
  induction k with
  | zero => intro z h; exact h
  | succ k ih =>
    intro z h
    have h1 := ih z h
    refine okA_hour ?_
    unfold chR
    by_cases h0 : no = 0
    · rw [if_pos h0]; exact h1
    · rw [if_neg h0]
      have h2 := okA_li h1 (drw_lt (seaM M n no nq C k z).2 (Nat.pos_of_ne_zero h0))
      by_cases h3 : nI (drw (rnd (rnd (seaM M n no nq C k z).2)) 16) < C
      · rw [if_pos h3]; exact okA_cold h2
      · rw [if_neg h3]; exact h2
def sgS (m ν : bc_M) : Prop := (∀ i, i ≠ 0 → i ≠ 15 → i ≠ 16 → i ≠ 20 → ν i = m i) ∧ ∀ k, k ≠ 57 → ν 0 k = m 0 k
theorem sgS.env (h : sgS m1 m) (hE : mEnv M m1 n no nq nr nm) : mEnv M m n no nq nr nm := hE.mv (fun k _ _ => h.2 k (by omega)) (fun i h1 h2 => h.1 i (by omega) (by omega) (by omega) (by omega))
theorem t_seasonGoes {h : Nat} {sd C : Int32} (hE : mEnv M m1 n no nq nr nm) (hf0 : sgS m1 m) (hN : sR (row 31 M) (m1 19)) (hA : okA no (row 31 M)) (hoq : 0 < no → 0 < nq) (hh : h ≤ 96) : bc_C (d + 7) LM mX10_seasonGoes [.ref 0, .int sd, .int C, .int (nI h)] m (fun r ν => r = none ∧ sgS m1 ν ∧ sR (seaM M n no nq C h (row 31 M, sd)).1 (ν 20)) := by
  refine bc_enter (by decide) (Nat.le_of_ble_eq_true rfl) rfl ?_
  have h6 := hE.q6
  have h8 := hE.o8
  have loop : ∀ (c k : Nat) (ν : bc_M) (v5 : Value), v5.category = 1 → k + c = h → sgS m1 ν → ν 0 57 = (seaM M n no nq C k (row 31 M, sd)).2 → sR (seaM M n no nq C k (row 31 M, sd)).1 (ν 20) → bc_W (d + 7) LM mX10_seasonGoes 12 [.ref 0, .int sd, .int C, .int (nI h), .int (nI k), v5] [] ν (fun r ν => r = none ∧ sgS m1 ν ∧ sR (seaM M n no nq C h (row 31 M, sd)).1 (ν 20)) := by
    intro c
    induction c with
    | zero =>
      intro k ν v5 c5 hk hf hsd hs
      have hk : k = h := by omega
      subst hk
      refine bc_iload dX10_seasonGoes_12 rfl ?_
      refine bc_iload_n dX10_seasonGoes_14 rfl ?_
      refine bc_icmp_ge (tgt := 90) dX10_seasonGoes_15 (by decide) (fun h15 => ?_) (fun h15 => absurd h15 (fun q => q (Int32.le_refl _)))
      exact bc_return dX10_seasonGoes_90 rfl (⟨rfl, hf, hs⟩)
    | succ c ih =>
      intro k ν v5 c5 hk hf hsd hs
      have hAk := sea_ok (M := M) (n := n) hoq (C := C) k (row 31 M, sd) hA
      obtain ⟨z, hz⟩ : ∃ z, z = seaM M n no nq C k (row 31 M, sd) := ⟨_, rfl⟩
      rw [← hz] at hsd hs hAk
      have hno : ν 0 26 = nI no := by rw [hf.2 26 (by decide)]; exact hE.2.1.2.1
      have hnq : ν 0 25 = nI nq := by rw [hf.2 25 (by decide)]; exact hE.2.1.1
      have next : ∀ (ν' : bc_M) (v5 : Value), v5.category = 1 → sgS m1 ν' → ν' 0 57 = (chR no nq C z).2 → sR (chR no nq C z).1 (ν' 20) → okA no (chR no nq C z).1 → bc_W (d + 7) LM mX10_seasonGoes 80 [.ref 0, .int sd, .int C, .int (nI h), .int (nI k), v5] [] ν' (fun r ν => r = none ∧ sgS m1 ν ∧ sR (seaM M n no nq C h (row 31 M, sd)).1 (ν 20)) := by
        intro ν' v5 c5 hf' h57 hs' hA'
        refine bc_aload_n dX10_seasonGoes_80 rfl ?_
        refine bc_callV (z := mX10_passes) (ci := 10) dX10_seasonGoes_81 lX10_381 qX10_passes (by rfl) (by rfl) (by rfl) (by rfl) (Nat.le_of_ble_eq_true rfl) (t_passes (hf'.env hE) hs' hA') (fun r81 μ81 e81 => ?_)
        obtain ⟨rfl, f81, s81⟩ := e81
        refine bc_iinc1 dX10_seasonGoes_84 rfl (by decide) rfl ?_
        refine bc_goto (tgt := 12) dX10_seasonGoes_87 (by decide) ?_
        rw [bn_add1]
        refine ih (k + 1) _ v5 c5 (by omega) ⟨fun i a b e g => (f81 i b e g).trans (hf'.1 i a b e g), fun j hj => by rw [f81 0 (by decide) (by decide) (by decide)]; exact hf'.2 j hj⟩ ?_ ?_
        · rw [f81 0 (by decide) (by decide) (by decide), h57, hz]; rfl
        · rw [hz] at s81; exact s81
      by_cases h0 : no = 0
      · have hch : chR no nq C z = z := by rw [chR, if_pos h0]
        rw [hch] at next
        refine bc_iload dX10_seasonGoes_12 rfl ?_
        refine bc_iload_n dX10_seasonGoes_14 rfl ?_
        refine bc_icmp_ge (tgt := 90) dX10_seasonGoes_15 (by decide) (fun h15 => absurd h15 (bx_in rfl (by omega) (by omega))) (fun h15 => ?_)
        refine bc_aload_n dX10_seasonGoes_18 rfl ?_
        refine bc_geti dX10_seasonGoes_19 fX10_185 (rfl) rfl ?_
        refine bc_if_le (tgt := 80) dX10_seasonGoes_22 (by decide) (fun h22 => ?_) (fun h22 => absurd h22 (fun q => q (by rw [hno, h0]; decide)))
        exact next _ _ c5 hf hsd hs hAk
      · have hn0 : 0 < no := Nat.pos_of_ne_zero h0
        have hch : chR no nq C z = (if nI (drw (rnd (rnd z.2)) 16) < C then upd (liR z.1 (drw z.2 no)) 5 (liR z.1 (drw z.2 no) 5 ^^^ 1 <<< (nI (drw (rnd z.2) nq) &&& 31)) else liR z.1 (drw z.2 no), rnd (rnd (rnd z.2))) := by rw [chR, if_neg h0]
        have hdl := Nat.lt_of_lt_of_le (drw_lt z.2 hn0) h8
        have hdq := drw_lt (rnd z.2) (hoq hn0)
        have hAl := okA_li hAk (drw_lt z.2 hn0)
        refine bc_iload dX10_seasonGoes_12 rfl ?_
        refine bc_iload_n dX10_seasonGoes_14 rfl ?_
        refine bc_icmp_ge (tgt := 90) dX10_seasonGoes_15 (by decide) (fun h15 => absurd h15 (bx_in rfl (by omega) (by omega))) (fun h15 => ?_)
        refine bc_aload_n dX10_seasonGoes_18 rfl ?_
        refine bc_geti dX10_seasonGoes_19 fX10_185 (rfl) rfl ?_
        refine bc_if_le (tgt := 80) dX10_seasonGoes_22 (by decide) (fun h22 => absurd h22 (by rw [hno, show (0 : Int32) = nI 0 from rfl, bn_leN (by omega) (by omega)]; omega)) (fun h22 => ?_)
        refine bc_aload_n dX10_seasonGoes_25 rfl ?_
        refine bc_aload_n dX10_seasonGoes_26 rfl ?_
        refine bc_aload_n dX10_seasonGoes_27 rfl ?_
        refine bc_geti dX10_seasonGoes_28 fX10_185 (rfl) rfl ?_
        rw [hno]
        refine bc_callV (z := mX10_draws) (ci := 10) dX10_seasonGoes_31 lX10_441 qX10_draws (by rfl) (by rfl) (by rfl) (by rfl) (Nat.le_of_ble_eq_true rfl) (t_draws hn0 (by omega)) (fun r31 μ31 e31 => ?_)
        obtain ⟨rfl, q31⟩ := e31
        obtain rfl := q31.symm
        rw [hsd]
        refine bc_callV (z := mX10_lights) (ci := 10) dX10_seasonGoes_34 lX10_378 qX10_lights (by rfl) (by rfl) (by rfl) (by rfl) (Nat.le_of_ble_eq_true rfl) (t_lights (A := z.1) (no := no) (by show sR z.1 (ν 20); exact hs) hAk hdl) (fun r34 μ34 e34 => ?_)
        obtain ⟨rfl, f34, rfl, s34⟩ := e34
        refine bc_pop dX10_seasonGoes_37 rfl ?_
        refine bc_aload_n dX10_seasonGoes_38 rfl ?_
        refine bc_aload_n dX10_seasonGoes_39 rfl ?_
        refine bc_geti dX10_seasonGoes_40 fX10_182 (rfl) rfl ?_
        rw [show bc_us (bc_u ν 0 57 (rnd z.2)) 20 f34 0 25 = nI nq from hnq]
        refine bc_callV (z := mX10_draws) (ci := 10) dX10_seasonGoes_43 lX10_441 qX10_draws (by rfl) (by rfl) (by rfl) (by rfl) (Nat.le_of_ble_eq_true rfl) (t_draws (hoq hn0) (by omega)) (fun r43 μ43 e43 => ?_)
        obtain ⟨rfl, q43⟩ := e43
        obtain rfl := q43.symm
        rw [show bc_us (bc_u ν 0 57 (rnd z.2)) 20 f34 0 57 = rnd z.2 by rw [bc_us_ne _ _ (by decide), bc_u_r, if_pos ⟨rfl, rfl⟩]]
        refine bc_istore dX10_seasonGoes_46 (by decide) rfl ?_
        refine bc_aload_n dX10_seasonGoes_48 rfl ?_
        refine bc_bipush (v := 16) dX10_seasonGoes_49 (by decide) ?_
        refine bc_callV (z := mX10_draws) (ci := 10) dX10_seasonGoes_51 lX10_441 qX10_draws (by rfl) (by rfl) (by rfl) (by rfl) (Nat.le_of_ble_eq_true rfl) (t_draws (b := 16) (by decide) (by decide)) (fun r51 μ51 e51 => ?_)
        obtain ⟨rfl, q51⟩ := e51
        obtain rfl := q51.symm
        rw [show bc_u (bc_us (bc_u ν 0 57 (rnd z.2)) 20 f34) 0 57 (rnd (rnd z.2)) 0 57 = rnd (rnd z.2) by rw [bc_u_r, if_pos ⟨rfl, rfl⟩]]
        obtain ⟨μ9, hμ9⟩ : ∃ μ9, μ9 = bc_u (bc_u (bc_us (bc_u ν 0 57 (rnd z.2)) 20 f34) 0 57 (rnd (rnd z.2))) 0 57 (rnd (rnd (rnd z.2))) := ⟨_, rfl⟩
        have q57 : μ9 0 57 = rnd (rnd (rnd z.2)) := by rw [hμ9, bc_u_r, if_pos ⟨rfl, rfl⟩]
        have q20 : μ9 20 = f34 := by rw [hμ9]; rfl
        have qf : sgS m1 μ9 := by
          refine ⟨fun i a b e g => ?_, fun j hj => ?_⟩
          · rw [hμ9, bc_u_ne _ _ _ a, bc_u_ne _ _ _ a, bc_us_ne _ _ g, bc_u_ne _ _ _ a]; exact hf.1 i a b e g
          · rw [hμ9, bc_u_r, if_neg (by omega), bc_u_r, if_neg (by omega), bc_us_ne _ _ (by decide), bc_u_r, if_neg (by omega)]; exact hf.2 j hj
        rw [← hμ9]
        refine bc_iload_n dX10_seasonGoes_54 rfl ?_
        refine bc_icmp_ge (tgt := 80) dX10_seasonGoes_55 (by decide) (fun h55 => ?_) (fun h55 => ?_)
        · rw [hch, if_neg (Int32.not_lt.mpr h55)] at next
          exact next _ _ rfl qf q57 (by rw [q20]; exact s34) hAl
        · rw [hch, if_pos (Int32.not_le.mp h55)] at next
          have hcold : sR (upd (liR z.1 (drw z.2 no)) 5 (liR z.1 (drw z.2 no) 5 ^^^ 1 <<< (nI (drw (rnd z.2) nq) &&& 31))) (upd f34 (22 + drw (rnd z.2) nq) (1 - f34 (22 + drw (rnd z.2) nq))) := sR_cold s34 (by omega)
          refine bc_aload_n dX10_seasonGoes_58 rfl ?_
          refine bc_getr dX10_seasonGoes_59 fX10_74 (rfl) rfl ?_
          refine bc_bipush (v := 22) dX10_seasonGoes_62 (by decide) ?_
          refine bc_iload dX10_seasonGoes_64 rfl ?_
          refine bc_iadd dX10_seasonGoes_66 ?_
          refine bc_iconst (v := 1) dX10_seasonGoes_67 (by decide) ?_
          refine bc_aload_n dX10_seasonGoes_68 rfl ?_
          refine bc_getr dX10_seasonGoes_69 fX10_74 (rfl) rfl ?_
          refine bc_bipush (v := 22) dX10_seasonGoes_72 (by decide) ?_
          refine bc_iload dX10_seasonGoes_74 rfl ?_
          refine bc_iadd dX10_seasonGoes_76 ?_
          refine bc_ialdE (k := 22 + (drw (rnd z.2) nq)) dX10_seasonGoes_77 (rfl) (ixA (a := 22) (b := drw (rnd z.2) nq) (rfl) (rfl)) (⟨by omega, by decide⟩) ?_
          refine bc_isub dX10_seasonGoes_78 ?_
          refine bc_iastE (k := 22 + (drw (rnd z.2) nq)) dX10_seasonGoes_79 (rfl) (ixA (a := 22) (b := drw (rnd z.2) nq) (rfl) (rfl)) (⟨by omega, by decide⟩) ?_
          refine next _ _ rfl ⟨fun i a b e g => by rw [bc_u_ne _ _ _ g]; exact qf.1 i a b e g, fun j hj => by rw [bc_u_ne _ _ _ (by decide)]; exact qf.2 j hj⟩ (by rw [bc_u_ne _ _ _ (by decide)]; exact q57) ?_ (okA_cold hAl)
          rw [bc_u_at, q20]
          exact hcold
  refine bc_aload_n dX10_seasonGoes_0 rfl ?_
  refine bc_callV (z := mX10_take) (ci := 10) dX10_seasonGoes_1 lX10_333 qX10_take (by rfl) (by rfl) (by rfl) (by rfl) (Nat.le_of_ble_eq_true rfl) (t_take) (fun r1 μ1 e1 => ?_)
  obtain ⟨rfl, q1⟩ := e1
  obtain rfl := q1.symm
  refine bc_aload_n dX10_seasonGoes_4 rfl ?_
  refine bc_iload_n dX10_seasonGoes_5 rfl ?_
  refine bc_put dX10_seasonGoes_6 fX10_437 ftX10 fpX10_57 rfl rfl (rfl) rfl ?_
  refine bc_iconst (v := 0) dX10_seasonGoes_9 (by decide) ?_
  refine bc_istore dX10_seasonGoes_10 (by decide) rfl ?_
  have h19 : m 19 = m1 19 := hf0.1 19 (by decide) (by decide) (by decide) (by decide)
  refine loop h 0 _ .null rfl (by omega) ⟨fun i a b e g => ?_, fun j hj => ?_⟩ ?_ ?_
  · rw [bc_u_ne _ _ _ a, bc_us_ne _ _ g]; exact hf0.1 i a b e g
  · rw [bc_u_r, if_neg (by omega), bc_us_ne _ _ (by decide)]; exact hf0.2 j hj
  · rw [bc_u_r, if_pos ⟨rfl, rfl⟩]; rfl
  · rw [bc_u_ne _ _ _ (by decide), bc_us_at, h19]; exact sR_cp hN
theorem t_isSeason {L : bc_L} (c h : Int32) : bc_C d L mX10_isSeason [.int c, .int h] m (fun r ν => r = some (.int (if (0 ≤ c ∧ c ≤ 16) ∧ 1 ≤ h ∧ h ≤ 96 then 1 else 0)) ∧ ν = m) := by
  refine bc_enter (by decide) (Nat.le_of_ble_eq_true rfl) rfl ?_
  refine bc_iload_n dX10_isSeason_0 rfl ?_
  refine bc_if_lt (tgt := 25) dX10_isSeason_1 (by decide) (fun h1 => ?_) (fun h1 => ?_)
  · refine bc_iconst (v := 0) dX10_isSeason_25 (by decide) ?_
    exact bc_ireturn dX10_isSeason_26 rfl rfl (⟨by rw [if_neg (fun q => absurd q.1.1 (Int32.not_le.mpr h1))], rfl⟩)
  · refine bc_iload_n dX10_isSeason_4 rfl ?_
    refine bc_bipush (v := 16) dX10_isSeason_5 (by decide) ?_
    refine bc_icmp_gt (tgt := 25) dX10_isSeason_7 (by decide) (fun h7 => ?_) (fun h7 => ?_)
    · refine bc_iconst (v := 0) dX10_isSeason_25 (by decide) ?_
      exact bc_ireturn dX10_isSeason_26 rfl rfl (⟨by rw [if_neg (fun q => absurd q.1.2 (Int32.not_le.mpr h7))], rfl⟩)
    · refine bc_iload_n dX10_isSeason_10 rfl ?_
      refine bc_iconst (v := 1) dX10_isSeason_11 (by decide) ?_
      refine bc_icmp_lt (tgt := 25) dX10_isSeason_12 (by decide) (fun h12 => ?_) (fun h12 => ?_)
      · refine bc_iconst (v := 0) dX10_isSeason_25 (by decide) ?_
        exact bc_ireturn dX10_isSeason_26 rfl rfl (⟨by rw [if_neg (fun q => absurd q.2.1 (Int32.not_le.mpr h12))], rfl⟩)
      · refine bc_iload_n dX10_isSeason_15 rfl ?_
        refine bc_bipush (v := 96) dX10_isSeason_16 (by decide) ?_
        refine bc_icmp_gt (tgt := 25) dX10_isSeason_18 (by decide) (fun h18 => ?_) (fun h18 => ?_)
        · refine bc_iconst (v := 0) dX10_isSeason_25 (by decide) ?_
          exact bc_ireturn dX10_isSeason_26 rfl rfl (⟨by rw [if_neg (fun q => absurd q.2.2 (Int32.not_le.mpr h18))], rfl⟩)
        · refine bc_iconst (v := 1) dX10_isSeason_21 (by decide) ?_
          refine bc_goto (tgt := 26) dX10_isSeason_22 (by decide) ?_
          exact bc_ireturn dX10_isSeason_26 rfl rfl (⟨by rw [if_pos ⟨⟨Int32.not_lt.mp h1, Int32.not_lt.mp h7⟩, Int32.not_lt.mp h12, Int32.not_lt.mp h18⟩], rfl⟩)
theorem qS_sg (h : sgS (bc_u m 0 0 0) ν) : qS m ν := ⟨fun i a b e g _ => by rw [h.1 i a b e g, bc_u_ne _ _ _ a], fun k h1 h2 => by rw [h.2 k h2, bc_u_r, if_neg (by omega)], by rw [h.2 0 (by decide)]; rfl⟩
theorem w1N {w b : Nat} (h1 : 1 ≤ w) (h : w ≤ b) (hb : b < 1000) : (1 : Int32) ≤ nI w ∧ nI w ≤ nI b := ⟨by rw [show (1 : Int32) = nI 1 from rfl, bn_leN (by omega) (by omega)]; exact h1, by rw [bn_leN (by omega) (by omega)]; exact h⟩
theorem t_seasonB {sd c h0 w : Int32} (h : ¬ (((0 ≤ c ∧ c ≤ 16) ∧ 1 ≤ h0 ∧ h0 ≤ 96) ∧ (0 ≤ w ∧ w ≤ 3))) : bc_C (d + 2) LM mX10_season [.ref 0, .int sd, .int c, .int h0, .int w] m (fun r ν => r = some (.int 0) ∧ ν = refM m 1 1) := by
  refine bc_enter (by decide) (Nat.le_of_ble_eq_true rfl) rfl ?_
  have bad : bc_W (d + 2) LM mX10_season 28 ([.ref 0, .int sd, .int c, .int h0, .int w] ++ List.replicate (mX10_season.2.2.1 - 5) .null) [.ref 0] (bc_u m 0 0 0) (fun r ν => r = some (.int 0) ∧ ν = refM m 1 1) := by
    refine bc_iconst (v := 0) dX10_season_28 (by decide) ?_
    refine bc_iconst (v := 1) dX10_season_29 (by decide) ?_
    refine bc_iconst (v := 1) dX10_season_30 (by decide) ?_
    refine bc_callV (z := mX10_may) (ci := 10) dX10_season_31 lX10_236 qX10_may (by rfl) (by rfl) (by rfl) (by rfl) (Nat.le_of_ble_eq_true rfl) (t_mayN (k := 1) False (fun x => x) _ (by decide) rfl (by decide)) (fun r31 μ31 e31 => ?_)
    obtain ⟨rfl, q31⟩ := e31
    obtain rfl := q31.symm
    refine bc_if_ne (tgt := 39) dX10_season_34 (by decide) (fun h34 => absurd h34 (fun q => q rfl)) (fun h34 => ?_)
    refine bc_iconst (v := 0) dX10_season_37 (by decide) ?_
    exact bc_ireturn dX10_season_38 rfl rfl (⟨rfl, rfl⟩)
  refine bc_aload_n dX10_season_0 rfl ?_
  refine bc_iconst (v := 0) dX10_season_1 (by decide) ?_
  refine bc_put dX10_season_2 fX10_3 ftX10 fpX10_0 rfl rfl (rfl) rfl ?_
  refine bc_aload_n dX10_season_5 rfl ?_
  refine bc_iload_n dX10_season_6 rfl ?_
  refine bc_iload_n dX10_season_7 rfl ?_
  refine bc_callS (z := mX10_isSeason) dX10_season_8 lX10_444 qX10_isSeason (by rfl) (by rfl) (Nat.le_of_ble_eq_true rfl) (t_isSeason _ _) (fun r8 μ8 e8 => ?_)
  obtain ⟨rfl, q8⟩ := e8
  obtain rfl := q8.symm
  refine bc_if_eq (tgt := 28) dX10_season_11 (by decide) (fun h11 => ?_) (fun h11 => ?_)
  · exact bad
  · refine bc_iload dX10_season_14 rfl ?_
    refine bc_iconst (v := 0) dX10_season_16 (by decide) ?_
    refine bc_iconst (v := 3) dX10_season_17 (by decide) ?_
    refine bc_callS (z := mX10_within) dX10_season_18 lX10_384 qX10_within (by rfl) (by rfl) (Nat.le_of_ble_eq_true rfl) (t_within _ _ _) (fun r18 μ18 e18 => ?_)
    obtain ⟨rfl, q18⟩ := e18
    obtain rfl := q18.symm
    refine bc_if_eq (tgt := 28) dX10_season_21 (by decide) (fun h21 => ?_) (fun h21 => ?_)
    · exact bad
    · exact absurd (⟨Decidable.not_not.mp (fun e => h11 (ite0.mpr e)), Decidable.not_not.mp (fun e => h21 (ite0.mpr e))⟩) h
theorem t_season {h w : Nat} {C sd : Int32} (hE : mEnv M m n no nq nr nm) (hN : sR (row 31 M) (m 19)) (hA : okA no (row 31 M)) (hoq : 0 < no → 0 < nq) (hC : 0 ≤ C ∧ C ≤ 16) (hh1 : 1 ≤ h) (hh : h ≤ 96) (hw : w ≤ 3) : bc_C (d + 8) LM mX10_season [.ref 0, .int sd, .int C, .int (nI h), .int (nI w)] m (fun r ν => r = some (.int (sesM (seaM M n no nq C h (row 31 M, sd)).1 w)) ∧ qS m ν) := by
  refine bc_enter (by decide) (Nat.le_of_ble_eq_true rfl) rfl ?_
  have hc : w = 0 ∨ w = 1 ∨ w = 2 ∨ w = 3 := by omega
  rcases hc with rfl | rfl | rfl | rfl
  · skip
    refine bc_aload_n dX10_season_0 rfl ?_
    refine bc_iconst (v := 0) dX10_season_1 (by decide) ?_
    refine bc_put dX10_season_2 fX10_3 ftX10 fpX10_0 rfl rfl (rfl) rfl ?_
    refine bc_aload_n dX10_season_5 rfl ?_
    refine bc_iload_n dX10_season_6 rfl ?_
    refine bc_iload_n dX10_season_7 rfl ?_
    refine bc_callS (z := mX10_isSeason) dX10_season_8 lX10_444 qX10_isSeason (by rfl) (by rfl) (Nat.le_of_ble_eq_true rfl) (t_isSeason _ _) (fun r8 μ8 e8 => ?_)
    obtain ⟨rfl, q8⟩ := e8
    obtain rfl := q8.symm
    refine bc_if_eq (tgt := 28) dX10_season_11 (by decide) (fun h11 => absurd h11 (fun e => ite0.mp e (⟨hC, w1N (b := 96) hh1 hh (by omega)⟩))) (fun h11 => ?_)
    refine bc_iload dX10_season_14 rfl ?_
    refine bc_iconst (v := 0) dX10_season_16 (by decide) ?_
    refine bc_iconst (v := 3) dX10_season_17 (by decide) ?_
    refine bc_callS (z := mX10_within) dX10_season_18 lX10_384 qX10_within (by rfl) (by rfl) (Nat.le_of_ble_eq_true rfl) (t_within _ _ _) (fun r18 μ18 e18 => ?_)
    obtain ⟨rfl, q18⟩ := e18
    obtain rfl := q18.symm
    refine bc_if_eq (tgt := 28) dX10_season_21 (by decide) (fun h21 => absurd h21 (fun e => ite0.mp e (by decide))) (fun h21 => ?_)
    refine bc_iconst (v := 1) dX10_season_24 (by decide) ?_
    refine bc_goto (tgt := 29) dX10_season_25 (by decide) ?_
    refine bc_iconst (v := 1) dX10_season_29 (by decide) ?_
    refine bc_iconst (v := 1) dX10_season_30 (by decide) ?_
    refine bc_callV (z := mX10_may) (ci := 10) dX10_season_31 lX10_236 qX10_may (by rfl) (by rfl) (by rfl) (by rfl) (Nat.le_of_ble_eq_true rfl) (t_mayY (k := 1) True trivial _ (by decide) rfl (by decide)) (fun r31 μ31 e31 => ?_)
    obtain ⟨rfl, q31⟩ := e31
    obtain rfl := q31.symm
    refine bc_if_ne (tgt := 39) dX10_season_34 (by decide) (fun h34 => ?_) (fun h34 => absurd h34 (by decide))
    refine bc_aload_n dX10_season_39 rfl ?_
    refine bc_iload_n dX10_season_40 rfl ?_
    refine bc_iload_n dX10_season_41 rfl ?_
    refine bc_iload_n dX10_season_42 rfl ?_
    refine bc_callV (z := mX10_seasonGoes) (ci := 10) dX10_season_43 lX10_447 qX10_seasonGoes (by rfl) (by rfl) (by rfl) (by rfl) (Nat.le_of_ble_eq_true rfl) (t_seasonGoes hE.t0 ⟨fun _ _ _ _ _ => rfl, fun _ _ => rfl⟩ hN hA hoq hh) (fun r43 μ43 e43 => ?_)
    obtain ⟨rfl, f43, s43⟩ := e43
    refine bc_aload_n dX10_season_46 rfl ?_
    refine bc_getr dX10_season_47 fX10_74 (rfl) rfl ?_
    refine bc_iload dX10_season_50 rfl ?_
    refine bc_if_ne (tgt := 60) dX10_season_52 (by decide) (fun h52 => absurd h52 (fun q => q rfl)) (fun h52 => ?_)
    refine bc_bipush (v := 28) dX10_season_55 (by decide) ?_
    refine bc_goto (tgt := 84) dX10_season_57 (by decide) ?_
    refine bc_ialdE (k := 28) dX10_season_84 (rfl) (rfl) (⟨by omega, by decide⟩) ?_
    exact bc_ireturn dX10_season_85 rfl rfl (⟨congrArg (fun z => some (Value.int z)) (s43.2.2.2.2.1), qS_sg f43⟩)
  · skip
    refine bc_aload_n dX10_season_0 rfl ?_
    refine bc_iconst (v := 0) dX10_season_1 (by decide) ?_
    refine bc_put dX10_season_2 fX10_3 ftX10 fpX10_0 rfl rfl (rfl) rfl ?_
    refine bc_aload_n dX10_season_5 rfl ?_
    refine bc_iload_n dX10_season_6 rfl ?_
    refine bc_iload_n dX10_season_7 rfl ?_
    refine bc_callS (z := mX10_isSeason) dX10_season_8 lX10_444 qX10_isSeason (by rfl) (by rfl) (Nat.le_of_ble_eq_true rfl) (t_isSeason _ _) (fun r8 μ8 e8 => ?_)
    obtain ⟨rfl, q8⟩ := e8
    obtain rfl := q8.symm
    refine bc_if_eq (tgt := 28) dX10_season_11 (by decide) (fun h11 => absurd h11 (fun e => ite0.mp e (⟨hC, w1N (b := 96) hh1 hh (by omega)⟩))) (fun h11 => ?_)
    refine bc_iload dX10_season_14 rfl ?_
    refine bc_iconst (v := 0) dX10_season_16 (by decide) ?_
    refine bc_iconst (v := 3) dX10_season_17 (by decide) ?_
    refine bc_callS (z := mX10_within) dX10_season_18 lX10_384 qX10_within (by rfl) (by rfl) (Nat.le_of_ble_eq_true rfl) (t_within _ _ _) (fun r18 μ18 e18 => ?_)
    obtain ⟨rfl, q18⟩ := e18
    obtain rfl := q18.symm
    refine bc_if_eq (tgt := 28) dX10_season_21 (by decide) (fun h21 => absurd h21 (fun e => ite0.mp e (by decide))) (fun h21 => ?_)
    refine bc_iconst (v := 1) dX10_season_24 (by decide) ?_
    refine bc_goto (tgt := 29) dX10_season_25 (by decide) ?_
    refine bc_iconst (v := 1) dX10_season_29 (by decide) ?_
    refine bc_iconst (v := 1) dX10_season_30 (by decide) ?_
    refine bc_callV (z := mX10_may) (ci := 10) dX10_season_31 lX10_236 qX10_may (by rfl) (by rfl) (by rfl) (by rfl) (Nat.le_of_ble_eq_true rfl) (t_mayY (k := 1) True trivial _ (by decide) rfl (by decide)) (fun r31 μ31 e31 => ?_)
    obtain ⟨rfl, q31⟩ := e31
    obtain rfl := q31.symm
    refine bc_if_ne (tgt := 39) dX10_season_34 (by decide) (fun h34 => ?_) (fun h34 => absurd h34 (by decide))
    refine bc_aload_n dX10_season_39 rfl ?_
    refine bc_iload_n dX10_season_40 rfl ?_
    refine bc_iload_n dX10_season_41 rfl ?_
    refine bc_iload_n dX10_season_42 rfl ?_
    refine bc_callV (z := mX10_seasonGoes) (ci := 10) dX10_season_43 lX10_447 qX10_seasonGoes (by rfl) (by rfl) (by rfl) (by rfl) (Nat.le_of_ble_eq_true rfl) (t_seasonGoes hE.t0 ⟨fun _ _ _ _ _ => rfl, fun _ _ => rfl⟩ hN hA hoq hh) (fun r43 μ43 e43 => ?_)
    obtain ⟨rfl, f43, s43⟩ := e43
    refine bc_aload_n dX10_season_46 rfl ?_
    refine bc_getr dX10_season_47 fX10_74 (rfl) rfl ?_
    refine bc_iload dX10_season_50 rfl ?_
    refine bc_if_ne (tgt := 60) dX10_season_52 (by decide) (fun h52 => ?_) (fun h52 => absurd h52 (by decide))
    refine bc_iload dX10_season_60 rfl ?_
    refine bc_iconst (v := 1) dX10_season_62 (by decide) ?_
    refine bc_icmp_ne (tgt := 71) dX10_season_63 (by decide) (fun h63 => absurd h63 (fun q => q rfl)) (fun h63 => ?_)
    refine bc_bipush (v := 29) dX10_season_66 (by decide) ?_
    refine bc_goto (tgt := 84) dX10_season_68 (by decide) ?_
    refine bc_ialdE (k := 29) dX10_season_84 (rfl) (rfl) (⟨by omega, by decide⟩) ?_
    exact bc_ireturn dX10_season_85 rfl rfl (⟨congrArg (fun z => some (Value.int z)) (s43.2.2.2.2.2.1), qS_sg f43⟩)
  · skip
    refine bc_aload_n dX10_season_0 rfl ?_
    refine bc_iconst (v := 0) dX10_season_1 (by decide) ?_
    refine bc_put dX10_season_2 fX10_3 ftX10 fpX10_0 rfl rfl (rfl) rfl ?_
    refine bc_aload_n dX10_season_5 rfl ?_
    refine bc_iload_n dX10_season_6 rfl ?_
    refine bc_iload_n dX10_season_7 rfl ?_
    refine bc_callS (z := mX10_isSeason) dX10_season_8 lX10_444 qX10_isSeason (by rfl) (by rfl) (Nat.le_of_ble_eq_true rfl) (t_isSeason _ _) (fun r8 μ8 e8 => ?_)
    obtain ⟨rfl, q8⟩ := e8
    obtain rfl := q8.symm
    refine bc_if_eq (tgt := 28) dX10_season_11 (by decide) (fun h11 => absurd h11 (fun e => ite0.mp e (⟨hC, w1N (b := 96) hh1 hh (by omega)⟩))) (fun h11 => ?_)
    refine bc_iload dX10_season_14 rfl ?_
    refine bc_iconst (v := 0) dX10_season_16 (by decide) ?_
    refine bc_iconst (v := 3) dX10_season_17 (by decide) ?_
    refine bc_callS (z := mX10_within) dX10_season_18 lX10_384 qX10_within (by rfl) (by rfl) (Nat.le_of_ble_eq_true rfl) (t_within _ _ _) (fun r18 μ18 e18 => ?_)
    obtain ⟨rfl, q18⟩ := e18
    obtain rfl := q18.symm
    refine bc_if_eq (tgt := 28) dX10_season_21 (by decide) (fun h21 => absurd h21 (fun e => ite0.mp e (by decide))) (fun h21 => ?_)
    refine bc_iconst (v := 1) dX10_season_24 (by decide) ?_
    refine bc_goto (tgt := 29) dX10_season_25 (by decide) ?_
    refine bc_iconst (v := 1) dX10_season_29 (by decide) ?_
    refine bc_iconst (v := 1) dX10_season_30 (by decide) ?_
    refine bc_callV (z := mX10_may) (ci := 10) dX10_season_31 lX10_236 qX10_may (by rfl) (by rfl) (by rfl) (by rfl) (Nat.le_of_ble_eq_true rfl) (t_mayY (k := 1) True trivial _ (by decide) rfl (by decide)) (fun r31 μ31 e31 => ?_)
    obtain ⟨rfl, q31⟩ := e31
    obtain rfl := q31.symm
    refine bc_if_ne (tgt := 39) dX10_season_34 (by decide) (fun h34 => ?_) (fun h34 => absurd h34 (by decide))
    refine bc_aload_n dX10_season_39 rfl ?_
    refine bc_iload_n dX10_season_40 rfl ?_
    refine bc_iload_n dX10_season_41 rfl ?_
    refine bc_iload_n dX10_season_42 rfl ?_
    refine bc_callV (z := mX10_seasonGoes) (ci := 10) dX10_season_43 lX10_447 qX10_seasonGoes (by rfl) (by rfl) (by rfl) (by rfl) (Nat.le_of_ble_eq_true rfl) (t_seasonGoes hE.t0 ⟨fun _ _ _ _ _ => rfl, fun _ _ => rfl⟩ hN hA hoq hh) (fun r43 μ43 e43 => ?_)
    obtain ⟨rfl, f43, s43⟩ := e43
    refine bc_aload_n dX10_season_46 rfl ?_
    refine bc_getr dX10_season_47 fX10_74 (rfl) rfl ?_
    refine bc_iload dX10_season_50 rfl ?_
    refine bc_if_ne (tgt := 60) dX10_season_52 (by decide) (fun h52 => ?_) (fun h52 => absurd h52 (by decide))
    refine bc_iload dX10_season_60 rfl ?_
    refine bc_iconst (v := 1) dX10_season_62 (by decide) ?_
    refine bc_icmp_ne (tgt := 71) dX10_season_63 (by decide) (fun h63 => ?_) (fun h63 => absurd h63 (by decide))
    refine bc_iload dX10_season_71 rfl ?_
    refine bc_iconst (v := 2) dX10_season_73 (by decide) ?_
    refine bc_icmp_ne (tgt := 82) dX10_season_74 (by decide) (fun h74 => absurd h74 (fun q => q rfl)) (fun h74 => ?_)
    refine bc_bipush (v := 30) dX10_season_77 (by decide) ?_
    refine bc_goto (tgt := 84) dX10_season_79 (by decide) ?_
    refine bc_ialdE (k := 30) dX10_season_84 (rfl) (rfl) (⟨by omega, by decide⟩) ?_
    exact bc_ireturn dX10_season_85 rfl rfl (⟨congrArg (fun z => some (Value.int z)) (s43.2.2.2.2.2.2.1), qS_sg f43⟩)
  · skip
    refine bc_aload_n dX10_season_0 rfl ?_
    refine bc_iconst (v := 0) dX10_season_1 (by decide) ?_
    refine bc_put dX10_season_2 fX10_3 ftX10 fpX10_0 rfl rfl (rfl) rfl ?_
    refine bc_aload_n dX10_season_5 rfl ?_
    refine bc_iload_n dX10_season_6 rfl ?_
    refine bc_iload_n dX10_season_7 rfl ?_
    refine bc_callS (z := mX10_isSeason) dX10_season_8 lX10_444 qX10_isSeason (by rfl) (by rfl) (Nat.le_of_ble_eq_true rfl) (t_isSeason _ _) (fun r8 μ8 e8 => ?_)
    obtain ⟨rfl, q8⟩ := e8
    obtain rfl := q8.symm
    refine bc_if_eq (tgt := 28) dX10_season_11 (by decide) (fun h11 => absurd h11 (fun e => ite0.mp e (⟨hC, w1N (b := 96) hh1 hh (by omega)⟩))) (fun h11 => ?_)
    refine bc_iload dX10_season_14 rfl ?_
    refine bc_iconst (v := 0) dX10_season_16 (by decide) ?_
    refine bc_iconst (v := 3) dX10_season_17 (by decide) ?_
    refine bc_callS (z := mX10_within) dX10_season_18 lX10_384 qX10_within (by rfl) (by rfl) (Nat.le_of_ble_eq_true rfl) (t_within _ _ _) (fun r18 μ18 e18 => ?_)
    obtain ⟨rfl, q18⟩ := e18
    obtain rfl := q18.symm
    refine bc_if_eq (tgt := 28) dX10_season_21 (by decide) (fun h21 => absurd h21 (fun e => ite0.mp e (by decide))) (fun h21 => ?_)
    refine bc_iconst (v := 1) dX10_season_24 (by decide) ?_
    refine bc_goto (tgt := 29) dX10_season_25 (by decide) ?_
    refine bc_iconst (v := 1) dX10_season_29 (by decide) ?_
    refine bc_iconst (v := 1) dX10_season_30 (by decide) ?_
    refine bc_callV (z := mX10_may) (ci := 10) dX10_season_31 lX10_236 qX10_may (by rfl) (by rfl) (by rfl) (by rfl) (Nat.le_of_ble_eq_true rfl) (t_mayY (k := 1) True trivial _ (by decide) rfl (by decide)) (fun r31 μ31 e31 => ?_)
    obtain ⟨rfl, q31⟩ := e31
    obtain rfl := q31.symm
    refine bc_if_ne (tgt := 39) dX10_season_34 (by decide) (fun h34 => ?_) (fun h34 => absurd h34 (by decide))
    refine bc_aload_n dX10_season_39 rfl ?_
    refine bc_iload_n dX10_season_40 rfl ?_
    refine bc_iload_n dX10_season_41 rfl ?_
    refine bc_iload_n dX10_season_42 rfl ?_
    refine bc_callV (z := mX10_seasonGoes) (ci := 10) dX10_season_43 lX10_447 qX10_seasonGoes (by rfl) (by rfl) (by rfl) (by rfl) (Nat.le_of_ble_eq_true rfl) (t_seasonGoes hE.t0 ⟨fun _ _ _ _ _ => rfl, fun _ _ => rfl⟩ hN hA hoq hh) (fun r43 μ43 e43 => ?_)
    obtain ⟨rfl, f43, s43⟩ := e43
    refine bc_aload_n dX10_season_46 rfl ?_
    refine bc_getr dX10_season_47 fX10_74 (rfl) rfl ?_
    refine bc_iload dX10_season_50 rfl ?_
    refine bc_if_ne (tgt := 60) dX10_season_52 (by decide) (fun h52 => ?_) (fun h52 => absurd h52 (by decide))
    refine bc_iload dX10_season_60 rfl ?_
    refine bc_iconst (v := 1) dX10_season_62 (by decide) ?_
    refine bc_icmp_ne (tgt := 71) dX10_season_63 (by decide) (fun h63 => ?_) (fun h63 => absurd h63 (by decide))
    refine bc_iload dX10_season_71 rfl ?_
    refine bc_iconst (v := 2) dX10_season_73 (by decide) ?_
    refine bc_icmp_ne (tgt := 82) dX10_season_74 (by decide) (fun h74 => ?_) (fun h74 => absurd h74 (by decide))
    refine bc_bipush (v := 31) dX10_season_82 (by decide) ?_
    refine bc_ialdE (k := 31) dX10_season_84 (rfl) (rfl) (⟨by omega, by decide⟩) ?_
    exact bc_ireturn dX10_season_85 rfl rfl (⟨congrArg (fun z => some (Value.int z)) (s43.2.2.2.2.2.2.2.1), qS_sg f43⟩)
theorem moB_cg {X Y X' Y' : Nat → Int32} {x y : Int32} : ∀ (c k : Nat), (∀ i, k ≤ i → i < k + c → X i = X' i ∧ Y i = Y' i) → moB X Y x y c k = moB X' Y' x y c k := by
  intro c
  induction c with
  | zero => intro k _; rfl
  | succ c ih =>
    intro k h
    rw [moB, moB, (h k (Nat.le_refl _) (by omega)).1, (h k (Nat.le_refl _) (by omega)).2, ih (k + 1) (fun i h1 h2 => h i (by omega) (by omega))]
theorem t_isMoored {x y : Int32} (hE : mEnv M m n no nq nr nm) (hx : m 20 28 = x) (hy : m 20 29 = y) : bc_C d LM mX10_isMoored [.ref 0] m (fun r ν => r = some (.int (if moB (M 8) (M 9) x y nm 0 = true then 1 else 0)) ∧ ν = m) := by
  refine bc_enter (by decide) (Nat.le_of_ble_eq_true rfl) rfl ?_
  have h6 := hE.2.2.1.2
  have hnm := hE.2.1.2.2.2
  have loop : ∀ (c k : Nat) (b : Bool), k + c = nm → bc_W d LM mX10_isMoored 4 [.ref 0, .int (if b = true then 1 else 0), .int (nI k)] [] m (fun r ν => r = some (.int (if (b || moB (M 8) (M 9) x y c k) = true then 1 else 0)) ∧ ν = m) := by
    intro c
    induction c with
    | zero =>
      intro k b hk
      have hk : k = nm := by omega
      subst hk
      refine bc_iload_n dX10_isMoored_4 rfl ?_
      refine bc_aload_n dX10_isMoored_5 rfl ?_
      refine bc_geti dX10_isMoored_6 fX10_191 (rfl) rfl ?_
      refine bc_icmp_ge (tgt := 66) dX10_isMoored_9 (by decide) (fun h9 => ?_) (fun h9 => absurd h9 (fun q => q (bx_out hnm (Nat.le_refl _) (by omega))))
      refine bc_iload_n dX10_isMoored_66 rfl ?_
      exact bc_ireturn dX10_isMoored_67 rfl (by cases b <;> rfl) (⟨by rw [moB, Bool.or_false], rfl⟩)
    | succ c ih =>
      intro k b hk
      have e := hE.2.2.2.2.2.2.1 k (by omega)
      have yes := ih (k + 1) true (by omega)
      have no' := ih (k + 1) false (by omega)
      have eY : (b || moB (M 8) (M 9) x y (c + 1) k) = (true || moB (M 8) (M 9) x y c (k + 1)) → bc_W d LM mX10_isMoored 60 [.ref 0, .int 1, .int (nI k)] [] m (fun r ν => r = some (.int (if (b || moB (M 8) (M 9) x y (c + 1) k) = true then 1 else 0)) ∧ ν = m) := by
        intro q
        rw [q]
        refine bc_iinc1 dX10_isMoored_60 rfl (by decide) rfl ?_
        refine bc_goto (tgt := 4) dX10_isMoored_63 (by decide) ?_
        rw [bn_add1]
        exact yes
      have eN : (b || moB (M 8) (M 9) x y (c + 1) k) = (false || moB (M 8) (M 9) x y c (k + 1)) → bc_W d LM mX10_isMoored 60 [.ref 0, .int 0, .int (nI k)] [] m (fun r ν => r = some (.int (if (b || moB (M 8) (M 9) x y (c + 1) k) = true then 1 else 0)) ∧ ν = m) := by
        intro q
        rw [q]
        refine bc_iinc1 dX10_isMoored_60 rfl (by decide) rfl ?_
        refine bc_goto (tgt := 4) dX10_isMoored_63 (by decide) ?_
        rw [bn_add1]
        exact no'
      refine bc_iload_n dX10_isMoored_4 rfl ?_
      refine bc_aload_n dX10_isMoored_5 rfl ?_
      refine bc_geti dX10_isMoored_6 fX10_191 (rfl) rfl ?_
      refine bc_icmp_ge (tgt := 66) dX10_isMoored_9 (by decide) (fun h9 => absurd h9 (bx_in hnm (by omega) (by omega))) (fun h9 => ?_)
      refine bc_iload_n dX10_isMoored_12 rfl ?_
      refine bc_if_ne (tgt := 54) dX10_isMoored_13 (by decide) (fun h13 => ?_) (fun h13 => ?_)
      · refine bc_iconst (v := 1) dX10_isMoored_54 (by decide) ?_
        refine bc_goto (tgt := 59) dX10_isMoored_55 (by decide) ?_
        refine bc_istore_n dX10_isMoored_59 (by decide) rfl ?_
        exact eY (by rw [show b = true from Decidable.not_not.mp (fun q => h13 (ite0.mpr q))]; rfl)
      · refine bc_aload_n dX10_isMoored_16 rfl ?_
        refine bc_getr dX10_isMoored_17 fX10_44 (rfl) rfl ?_
        refine bc_iconst (v := 2) dX10_isMoored_20 (by decide) ?_
        refine bc_iload_n dX10_isMoored_21 rfl ?_
        refine bc_imul dX10_isMoored_22 ?_
        refine bc_ialdE (k := 2 * k) dX10_isMoored_23 (rfl) (ixM (a := 2) (b := k) (rfl) (rfl)) (⟨by omega, by decide⟩) ?_
        refine bc_aload_n dX10_isMoored_24 rfl ?_
        refine bc_getr dX10_isMoored_25 fX10_74 (rfl) rfl ?_
        refine bc_bipush (v := 28) dX10_isMoored_28 (by decide) ?_
        refine bc_ialdE (k := 28) dX10_isMoored_30 (rfl) (rfl) (⟨by omega, by decide⟩) ?_
        refine bc_icmp_ne (tgt := 58) dX10_isMoored_31 (by decide) (fun h31 => ?_) (fun h31 => ?_)
        · refine bc_iconst (v := 0) dX10_isMoored_58 (by decide) ?_
          refine bc_istore_n dX10_isMoored_59 (by decide) rfl ?_
          exact eN (by rw [show b = false by simpa using ite0.mp h13, moB, decide_eq_false (fun q => h31 ((e.1.trans q).trans hx.symm))]; rfl)
        · refine bc_aload_n dX10_isMoored_34 rfl ?_
          refine bc_getr dX10_isMoored_35 fX10_44 (rfl) rfl ?_
          refine bc_iconst (v := 2) dX10_isMoored_38 (by decide) ?_
          refine bc_iload_n dX10_isMoored_39 rfl ?_
          refine bc_imul dX10_isMoored_40 ?_
          refine bc_iconst (v := 1) dX10_isMoored_41 (by decide) ?_
          refine bc_iadd dX10_isMoored_42 ?_
          refine bc_ialdE (k := (2 * k) + 1) dX10_isMoored_43 (rfl) (ixA (a := 2 * k) (b := 1) (ixM (a := 2) (b := k) (rfl) (rfl)) (rfl)) (⟨by omega, by decide⟩) ?_
          refine bc_aload_n dX10_isMoored_44 rfl ?_
          refine bc_getr dX10_isMoored_45 fX10_74 (rfl) rfl ?_
          refine bc_bipush (v := 29) dX10_isMoored_48 (by decide) ?_
          refine bc_ialdE (k := 29) dX10_isMoored_50 (rfl) (rfl) (⟨by omega, by decide⟩) ?_
          refine bc_icmp_ne (tgt := 58) dX10_isMoored_51 (by decide) (fun h51 => ?_) (fun h51 => ?_)
          · refine bc_iconst (v := 0) dX10_isMoored_58 (by decide) ?_
            refine bc_istore_n dX10_isMoored_59 (by decide) rfl ?_
            exact eN (by rw [show b = false by simpa using ite0.mp h13, moB, decide_eq_false (p := M 9 k = y) (fun q => h51 ((e.2.1.trans q).trans hy.symm)), Bool.and_false]; rfl)
          · refine bc_iconst (v := 1) dX10_isMoored_54 (by decide) ?_
            refine bc_goto (tgt := 59) dX10_isMoored_55 (by decide) ?_
            refine bc_istore_n dX10_isMoored_59 (by decide) rfl ?_
            exact eY (by rw [show b = false by simpa using ite0.mp h13, moB, decide_eq_true (e.1.symm.trans (h31.trans hx)), decide_eq_true (e.2.1.symm.trans (h51.trans hy))]; rfl)
  refine bc_iconst (v := 0) dX10_isMoored_0 (by decide) ?_
  refine bc_istore_n dX10_isMoored_1 (by decide) rfl ?_
  refine bc_iconst (v := 0) dX10_isMoored_2 (by decide) ?_
  refine bc_istore_n dX10_isMoored_3 (by decide) rfl ?_
  have h2 := loop nm 0 false (by omega)
  rw [Bool.false_or] at h2
  exact h2
theorem t_spanB {sd mn c h0 w : Int32} (h : ¬ ((1 ≤ mn ∧ mn ≤ 20) ∧ ((0 ≤ c ∧ c ≤ 16) ∧ 1 ≤ h0 ∧ h0 ≤ 96) ∧ (0 ≤ w ∧ w ≤ 2))) : bc_C (d + 2) LM mX10_span [.ref 0, .int sd, .int mn, .int c, .int h0, .int w] m (fun r ν => r = some (.int 0) ∧ ν = refM m 1 1) := by
  refine bc_enter (by decide) (Nat.le_of_ble_eq_true rfl) rfl ?_
  have bad : bc_W (d + 2) LM mX10_span 39 ([.ref 0, .int sd, .int mn, .int c, .int h0, .int w] ++ List.replicate (mX10_span.2.2.1 - 6) .null) [.ref 0] (bc_u m 0 0 0) (fun r ν => r = some (.int 0) ∧ ν = refM m 1 1) := by
    refine bc_iconst (v := 0) dX10_span_39 (by decide) ?_
    refine bc_iconst (v := 1) dX10_span_40 (by decide) ?_
    refine bc_iconst (v := 1) dX10_span_41 (by decide) ?_
    refine bc_callV (z := mX10_may) (ci := 10) dX10_span_42 lX10_236 qX10_may (by rfl) (by rfl) (by rfl) (by rfl) (Nat.le_of_ble_eq_true rfl) (t_mayN (k := 1) False (fun x => x) _ (by decide) rfl (by decide)) (fun r42 μ42 e42 => ?_)
    obtain ⟨rfl, q42⟩ := e42
    obtain rfl := q42.symm
    refine bc_if_ne (tgt := 50) dX10_span_45 (by decide) (fun h45 => absurd h45 (fun q => q rfl)) (fun h45 => ?_)
    refine bc_iconst (v := 0) dX10_span_48 (by decide) ?_
    exact bc_ireturn dX10_span_49 rfl rfl (⟨rfl, rfl⟩)
  refine bc_aload_n dX10_span_0 rfl ?_
  refine bc_iconst (v := 0) dX10_span_1 (by decide) ?_
  refine bc_put dX10_span_2 fX10_3 ftX10 fpX10_0 rfl rfl (rfl) rfl ?_
  refine bc_aload_n dX10_span_5 rfl ?_
  refine bc_iload_n dX10_span_6 rfl ?_
  refine bc_iconst (v := 1) dX10_span_7 (by decide) ?_
  refine bc_bipush (v := 20) dX10_span_8 (by decide) ?_
  refine bc_callS (z := mX10_within) dX10_span_10 lX10_384 qX10_within (by rfl) (by rfl) (Nat.le_of_ble_eq_true rfl) (t_within _ _ _) (fun r10 μ10 e10 => ?_)
  obtain ⟨rfl, q10⟩ := e10
  obtain rfl := q10.symm
  refine bc_if_eq (tgt := 39) dX10_span_13 (by decide) (fun h13 => ?_) (fun h13 => ?_)
  · exact bad
  · refine bc_iload_n dX10_span_16 rfl ?_
    refine bc_iload dX10_span_17 rfl ?_
    refine bc_callS (z := mX10_isSeason) dX10_span_19 lX10_444 qX10_isSeason (by rfl) (by rfl) (Nat.le_of_ble_eq_true rfl) (t_isSeason _ _) (fun r19 μ19 e19 => ?_)
    obtain ⟨rfl, q19⟩ := e19
    obtain rfl := q19.symm
    refine bc_if_eq (tgt := 39) dX10_span_22 (by decide) (fun h22 => ?_) (fun h22 => ?_)
    · exact bad
    · refine bc_iload dX10_span_25 rfl ?_
      refine bc_iconst (v := 0) dX10_span_27 (by decide) ?_
      refine bc_iconst (v := 2) dX10_span_28 (by decide) ?_
      refine bc_callS (z := mX10_within) dX10_span_29 lX10_384 qX10_within (by rfl) (by rfl) (Nat.le_of_ble_eq_true rfl) (t_within _ _ _) (fun r29 μ29 e29 => ?_)
      obtain ⟨rfl, q29⟩ := e29
      obtain rfl := q29.symm
      refine bc_if_eq (tgt := 39) dX10_span_32 (by decide) (fun h32 => ?_) (fun h32 => ?_)
      · exact bad
      · exact absurd (⟨Decidable.not_not.mp (fun e => h13 (ite0.mpr e)), Decidable.not_not.mp (fun e => h22 (ite0.mpr e)), Decidable.not_not.mp (fun e => h32 (ite0.mpr e))⟩) h
theorem spn_in {f : Nat → Row} {mo : Int32 → Int32 → Bool} (hx : ∀ i, 0 ≤ (f i 0).toInt ∧ (f i 0).toInt ≤ 30) : ∀ k, 0 ≤ (spnM f mo k).1.toInt ∧ (spnM f mo k).1.toInt ≤ 30 := by
  intro k
  induction k with
  | zero => show 0 ≤ (30 : Int32).toInt ∧ (30 : Int32).toInt ≤ 30; decide
  | succ k ih =>
    simp only [spnM]
    by_cases h : f k 0 < (spnM f mo k).1
    · rw [if_pos h]; exact hx k
    · rw [if_neg h]; exact ih
theorem t_span {mn h w : Nat} {C sd : Int32} (hE : mEnv M m n no nq nr nm) (hN : sR (row 31 M) (m 19)) (hA : okA no (row 31 M)) (hoq : 0 < no → 0 < nq) (hm1 : 1 ≤ mn) (hm : mn ≤ 20) (hC : 0 ≤ C ∧ C ≤ 16) (hh1 : 1 ≤ h) (hh : h ≤ 96) (hw : w ≤ 2) : bc_C (d + 8) LM mX10_span [.ref 0, .int sd, .int (nI mn), .int C, .int (nI h), .int (nI w)] m (fun r ν => r = some (.int (spvM (spnM (fun i => (seaM M n no nq C h (row 31 M, sd + nI i)).1) (fun x y => moB (M 8) (M 9) x y nm 0) mn) w)) ∧ qS m ν) := by
  refine bc_enter (by decide) (Nat.le_of_ble_eq_true rfl) rfl ?_
  obtain ⟨f, hf⟩ : ∃ f : Nat → Row, f = fun i => (seaM M n no nq C h (row 31 M, sd + nI i)).1 := ⟨_, rfl⟩
  obtain ⟨mo, hmo⟩ : ∃ mo : Int32 → Int32 → Bool, mo = fun x y => moB (M 8) (M 9) x y nm 0 := ⟨_, rfl⟩
  rw [← hf, ← hmo]
  have hx : ∀ i, 0 ≤ (f i 0).toInt ∧ (f i 0).toInt ≤ 30 := by
    intro i
    rw [hf]
    obtain ⟨a, b, ha, hb, e⟩ := (sea_ok (M := M) (n := n) hoq (C := C) h (row 31 M, sd + nI i) hA).2.2.2
    have e1 : (seaM M n no nq C h (row 31 M, sd + nI i)).1 0 = nI a := congrArg Prod.fst e
    show 0 ≤ ((seaM M n no nq C h (row 31 M, sd + nI i)).1 0).toInt ∧ ((seaM M n no nq C h (row 31 M, sd + nI i)).1 0).toInt ≤ 30
    rw [e1, bn_ti (by omega)]
    omega
  have loop : ∀ (c k : Nat) (ν : bc_M) (v10 : Value) (lo : Int32), v10.category = 1 → k + c = mn → sgS (bc_u m 0 0 0) ν → (k = 0 ∧ lo = -1 ∨ 0 < k ∧ lo = (spnM f mo k).1) → bc_W (d + 8) LM mX10_span 62 [.ref 0, .int sd, .int (nI mn), .int C, .int (nI h), .int (nI w), .int lo, .int (spnM f mo k).2.1, .int (spnM f mo k).2.2, .int (nI k), v10] [] ν (fun r ν => r = some (.int (spvM (spnM f mo mn) w)) ∧ qS m ν) := by
    intro c
    induction c with
    | zero =>
      intro k ν v10 lo c10 hk hS hlo
      have hk : k = mn := by omega
      subst hk
      have hlo : lo = (spnM f mo k).1 := by
        rcases hlo with ⟨h, -⟩ | ⟨-, h⟩
        · omega
        · exact h
      subst hlo
      have hc : w = 0 ∨ w = 1 ∨ w = 2 := by omega
      rcases hc with rfl | rfl | rfl
      · skip
        refine bc_iload dX10_span_62 rfl ?_
        refine bc_iload_n dX10_span_64 rfl ?_
        refine bc_icmp_ge (tgt := 149) dX10_span_65 (by decide) (fun h65 => ?_) (fun h65 => absurd h65 (fun q => q (Int32.le_refl _)))
        refine bc_iload dX10_span_149 rfl ?_
        refine bc_if_ne (tgt := 159) dX10_span_151 (by decide) (fun h151 => absurd h151 (fun q => q rfl)) (fun h151 => ?_)
        refine bc_iload dX10_span_154 rfl ?_
        refine bc_goto (tgt := 172) dX10_span_156 (by decide) ?_
        exact bc_ireturn dX10_span_172 rfl rfl (⟨rfl, qS_sg hS⟩)
      · skip
        refine bc_iload dX10_span_62 rfl ?_
        refine bc_iload_n dX10_span_64 rfl ?_
        refine bc_icmp_ge (tgt := 149) dX10_span_65 (by decide) (fun h65 => ?_) (fun h65 => absurd h65 (fun q => q (Int32.le_refl _)))
        refine bc_iload dX10_span_149 rfl ?_
        refine bc_if_ne (tgt := 159) dX10_span_151 (by decide) (fun h151 => ?_) (fun h151 => absurd h151 (by decide))
        refine bc_iload dX10_span_159 rfl ?_
        refine bc_iconst (v := 1) dX10_span_161 (by decide) ?_
        refine bc_icmp_ne (tgt := 170) dX10_span_162 (by decide) (fun h162 => absurd h162 (fun q => q rfl)) (fun h162 => ?_)
        refine bc_iload dX10_span_165 rfl ?_
        refine bc_goto (tgt := 172) dX10_span_167 (by decide) ?_
        exact bc_ireturn dX10_span_172 rfl rfl (⟨rfl, qS_sg hS⟩)
      · skip
        refine bc_iload dX10_span_62 rfl ?_
        refine bc_iload_n dX10_span_64 rfl ?_
        refine bc_icmp_ge (tgt := 149) dX10_span_65 (by decide) (fun h65 => ?_) (fun h65 => absurd h65 (fun q => q (Int32.le_refl _)))
        refine bc_iload dX10_span_149 rfl ?_
        refine bc_if_ne (tgt := 159) dX10_span_151 (by decide) (fun h151 => ?_) (fun h151 => absurd h151 (by decide))
        refine bc_iload dX10_span_159 rfl ?_
        refine bc_iconst (v := 1) dX10_span_161 (by decide) ?_
        refine bc_icmp_ne (tgt := 170) dX10_span_162 (by decide) (fun h162 => ?_) (fun h162 => absurd h162 (by decide))
        refine bc_iload dX10_span_170 rfl ?_
        exact bc_ireturn dX10_span_172 rfl rfl (⟨rfl, qS_sg hS⟩)
    | succ c ih =>
      intro k ν v10 lo c10 hk hS hlo
      obtain ⟨V, hV⟩ : ∃ V, V = f k 0 := ⟨_, rfl⟩
      have hxk := hx k
      have fin : ∀ (ν' : bc_M) (b : Int32), sgS (bc_u m 0 0 0) ν' → b = (if mo (f k 0) (f k 1) = true then 1 else 0) → bc_W (d + 8) LM mX10_span 143 [.ref 0, .int sd, .int (nI mn), .int C, .int (nI h), .int (nI w), .int (if f k 0 < (spnM f mo k).1 then f k 0 else (spnM f mo k).1), .int (if (spnM f mo k).2.1 < f k 0 then f k 0 else (spnM f mo k).2.1), .int ((spnM f mo k).2.2 + b), .int (nI k), .int (f k 0)] [] ν' (fun r ν => r = some (.int (spvM (spnM f mo mn) w)) ∧ qS m ν) := by
        intro ν' b hS' hb
        subst hb
        have h2 := ih (k + 1) ν' (.int (f k 0)) (spnM f mo (k + 1)).1 rfl (by omega) hS' (.inr ⟨by omega, rfl⟩)
        refine bc_iinc1 dX10_span_143 rfl (by decide) rfl ?_
        refine bc_goto (tgt := 62) dX10_span_146 (by decide) ?_
        rw [bn_add1]
        exact h2
      have fin1 : ∀ (ν' : bc_M) (lo' : Int32), lo' = (if f k 0 < (spnM f mo k).1 then f k 0 else (spnM f mo k).1) → sgS (bc_u m 0 0 0) ν' → ν' 20 28 = f k 0 → ν' 20 29 = f k 1 → bc_W (d + 8) LM mX10_span 108 [.ref 0, .int sd, .int (nI mn), .int C, .int (nI h), .int (nI w), .int lo, .int (spnM f mo k).2.1, .int (spnM f mo k).2.2, .int (nI k), .int (f k 0)] [.int lo'] ν' (fun r ν => r = some (.int (spvM (spnM f mo mn) w)) ∧ qS m ν) := by
        intro ν' lo' hl hS' e28 e29
        subst hl
        have hE' : mEnv M ν' n no nq nr nm := hS'.env hE.t0
        refine bc_istore dX10_span_108 (by decide) rfl ?_
        refine bc_iload dX10_span_110 rfl ?_
        refine bc_iload dX10_span_112 rfl ?_
        refine bc_icmp_le (tgt := 122) dX10_span_114 (by decide) (fun h114 => ?_) (fun h114 => ?_)
        · refine bc_iload dX10_span_122 rfl ?_
          refine bc_istore dX10_span_124 (by decide) rfl ?_
          refine bc_iload dX10_span_126 rfl ?_
          refine bc_aload_n dX10_span_128 rfl ?_
          refine bc_callV (z := mX10_isMoored) (ci := 10) dX10_span_129 lX10_450 qX10_isMoored (by rfl) (by rfl) (by rfl) (by rfl) (Nat.le_of_ble_eq_true rfl) (t_isMoored hE' e28 e29) (fun r129 μ129 e129 => ?_)
          obtain ⟨rfl, q129⟩ := e129
          obtain rfl := q129.symm
          refine bc_if_eq (tgt := 139) dX10_span_132 (by decide) (fun h132 => ?_) (fun h132 => ?_)
          · refine bc_iconst (v := 0) dX10_span_139 (by decide) ?_
            refine bc_iadd dX10_span_140 ?_
            refine bc_istore dX10_span_141 (by decide) rfl ?_
            have h2 := fin ν' 0 hS' (by rw [if_neg]; rw [hmo]; exact ite0.mp h132)
            rw [if_neg (c := (spnM f mo k).2.1 < f k 0) (Int32.not_lt.mpr h114)] at h2
            exact h2
          · refine bc_iconst (v := 1) dX10_span_135 (by decide) ?_
            refine bc_goto (tgt := 140) dX10_span_136 (by decide) ?_
            refine bc_iadd dX10_span_140 ?_
            refine bc_istore dX10_span_141 (by decide) rfl ?_
            have h2 := fin ν' 1 hS' (by rw [if_pos]; rw [hmo]; exact Decidable.not_not.mp (fun q => h132 (ite0.mpr q)))
            rw [if_neg (c := (spnM f mo k).2.1 < f k 0) (Int32.not_lt.mpr h114)] at h2
            exact h2
        · refine bc_iload dX10_span_117 rfl ?_
          refine bc_goto (tgt := 124) dX10_span_119 (by decide) ?_
          refine bc_istore dX10_span_124 (by decide) rfl ?_
          refine bc_iload dX10_span_126 rfl ?_
          refine bc_aload_n dX10_span_128 rfl ?_
          refine bc_callV (z := mX10_isMoored) (ci := 10) dX10_span_129 lX10_450 qX10_isMoored (by rfl) (by rfl) (by rfl) (by rfl) (Nat.le_of_ble_eq_true rfl) (t_isMoored hE' e28 e29) (fun r129 μ129 e129 => ?_)
          obtain ⟨rfl, q129⟩ := e129
          obtain rfl := q129.symm
          refine bc_if_eq (tgt := 139) dX10_span_132 (by decide) (fun h132 => ?_) (fun h132 => ?_)
          · refine bc_iconst (v := 0) dX10_span_139 (by decide) ?_
            refine bc_iadd dX10_span_140 ?_
            refine bc_istore dX10_span_141 (by decide) rfl ?_
            have h2 := fin ν' 0 hS' (by rw [if_neg]; rw [hmo]; exact ite0.mp h132)
            rw [if_pos (c := (spnM f mo k).2.1 < f k 0) (Int32.not_le.mp h114)] at h2
            exact h2
          · refine bc_iconst (v := 1) dX10_span_135 (by decide) ?_
            refine bc_goto (tgt := 140) dX10_span_136 (by decide) ?_
            refine bc_iadd dX10_span_140 ?_
            refine bc_istore dX10_span_141 (by decide) rfl ?_
            have h2 := fin ν' 1 hS' (by rw [if_pos]; rw [hmo]; exact Decidable.not_not.mp (fun q => h132 (ite0.mpr q)))
            rw [if_pos (c := (spnM f mo k).2.1 < f k 0) (Int32.not_le.mp h114)] at h2
            exact h2
      refine bc_iload dX10_span_62 rfl ?_
      refine bc_iload_n dX10_span_64 rfl ?_
      refine bc_icmp_ge (tgt := 149) dX10_span_65 (by decide) (fun h65 => absurd h65 (bx_in rfl (by omega) (by omega))) (fun h65 => ?_)
      refine bc_aload_n dX10_span_68 rfl ?_
      refine bc_iload_n dX10_span_69 rfl ?_
      refine bc_iload dX10_span_70 rfl ?_
      refine bc_iadd dX10_span_72 ?_
      refine bc_iload_n dX10_span_73 rfl ?_
      refine bc_iload dX10_span_74 rfl ?_
      refine bc_callV (z := mX10_seasonGoes) (ci := 10) dX10_span_76 lX10_447 qX10_seasonGoes (by rfl) (by rfl) (by rfl) (by rfl) (Nat.le_of_ble_eq_true rfl) (t_seasonGoes hE.t0 hS hN hA hoq hh) (fun r76 μ76 e76 => ?_)
      obtain ⟨rfl, f76, s76⟩ := e76
      have e28 : μ76 20 28 = f k 0 := by rw [hf]; exact s76.2.2.2.2.1
      have e29 : μ76 20 29 = f k 1 := by rw [hf]; exact s76.2.2.2.2.2.1
      have hlow : lo = -1 → k = 0 := by
        intro q
        rcases hlo with ⟨h, -⟩ | ⟨h, e⟩
        · exact h
        · have h9 := (spn_in (mo := mo) hx k).1
          rw [← e, q] at h9
          exact absurd h9 (by decide)
      refine bc_aload_n dX10_span_79 rfl ?_
      refine bc_getr dX10_span_80 fX10_74 (rfl) rfl ?_
      refine bc_bipush (v := 28) dX10_span_83 (by decide) ?_
      refine bc_ialdE (k := 28) dX10_span_85 (rfl) (rfl) (⟨by omega, by decide⟩) ?_
      rw [e28]
      refine bc_istore dX10_span_86 (by decide) rfl ?_
      refine bc_iload dX10_span_88 rfl ?_
      refine bc_iconst (v := (-1)) dX10_span_90 (by decide) ?_
      refine bc_icmp_eq (tgt := 101) dX10_span_91 (by decide) (fun h91 => ?_) (fun h91 => ?_)
      · refine bc_iload dX10_span_101 rfl ?_
        refine bc_goto (tgt := 108) dX10_span_103 (by decide) ?_
        refine fin1 μ76 _ ?_ f76 e28 e29
        rw [hlow h91]
        show f 0 0 = if f 0 0 < 30 then f 0 0 else 30
        have h9 := hx 0
        by_cases q : f 0 0 < 30
        · rw [if_pos q]
        · rw [if_neg q, bn_eq]
          rw [bn_lt, show (30 : Int32).toInt = 30 from rfl] at q
          rw [show (30 : Int32).toInt = 30 from rfl]
          omega
      · refine bc_iload dX10_span_94 rfl ?_
        refine bc_iload dX10_span_96 rfl ?_
        refine bc_icmp_ge (tgt := 106) dX10_span_98 (by decide) (fun h98 => ?_) (fun h98 => ?_)
        · refine bc_iload dX10_span_106 rfl ?_
          have hl : lo = (spnM f mo k).1 := by
            rcases hlo with ⟨-, h⟩ | ⟨-, h⟩
            · exact absurd h h91
            · exact h
          refine fin1 μ76 _ ?_ f76 e28 e29
          rw [if_neg (by rw [← hl]; exact Int32.not_lt.mpr h98), hl]
        · refine bc_iload dX10_span_101 rfl ?_
          refine bc_goto (tgt := 108) dX10_span_103 (by decide) ?_
          have hl : lo = (spnM f mo k).1 := by
            rcases hlo with ⟨-, h⟩ | ⟨-, h⟩
            · exact absurd h h91
            · exact h
          refine fin1 μ76 _ ?_ f76 e28 e29
          rw [if_pos (by rw [← hl]; exact Int32.not_le.mp h98)]
  refine bc_aload_n dX10_span_0 rfl ?_
  refine bc_iconst (v := 0) dX10_span_1 (by decide) ?_
  refine bc_put dX10_span_2 fX10_3 ftX10 fpX10_0 rfl rfl (rfl) rfl ?_
  refine bc_aload_n dX10_span_5 rfl ?_
  refine bc_iload_n dX10_span_6 rfl ?_
  refine bc_iconst (v := 1) dX10_span_7 (by decide) ?_
  refine bc_bipush (v := 20) dX10_span_8 (by decide) ?_
  refine bc_callS (z := mX10_within) dX10_span_10 lX10_384 qX10_within (by rfl) (by rfl) (Nat.le_of_ble_eq_true rfl) (t_within _ _ _) (fun r10 μ10 e10 => ?_)
  obtain ⟨rfl, q10⟩ := e10
  obtain rfl := q10.symm
  refine bc_if_eq (tgt := 39) dX10_span_13 (by decide) (fun h13 => absurd h13 (fun e => ite0.mp e (w1N (b := 20) hm1 hm (by omega)))) (fun h13 => ?_)
  refine bc_iload_n dX10_span_16 rfl ?_
  refine bc_iload dX10_span_17 rfl ?_
  refine bc_callS (z := mX10_isSeason) dX10_span_19 lX10_444 qX10_isSeason (by rfl) (by rfl) (Nat.le_of_ble_eq_true rfl) (t_isSeason _ _) (fun r19 μ19 e19 => ?_)
  obtain ⟨rfl, q19⟩ := e19
  obtain rfl := q19.symm
  refine bc_if_eq (tgt := 39) dX10_span_22 (by decide) (fun h22 => absurd h22 (fun e => ite0.mp e (⟨hC, w1N (b := 96) hh1 hh (by omega)⟩))) (fun h22 => ?_)
  refine bc_iload dX10_span_25 rfl ?_
  refine bc_iconst (v := 0) dX10_span_27 (by decide) ?_
  refine bc_iconst (v := 2) dX10_span_28 (by decide) ?_
  refine bc_callS (z := mX10_within) dX10_span_29 lX10_384 qX10_within (by rfl) (by rfl) (Nat.le_of_ble_eq_true rfl) (t_within _ _ _) (fun r29 μ29 e29 => ?_)
  obtain ⟨rfl, q29⟩ := e29
  obtain rfl := q29.symm
  refine bc_if_eq (tgt := 39) dX10_span_32 (by decide) (fun h32 => absurd h32 (fun e => ite0.mp e (wN (b := 2) hw (by omega)))) (fun h32 => ?_)
  refine bc_iconst (v := 1) dX10_span_35 (by decide) ?_
  refine bc_goto (tgt := 40) dX10_span_36 (by decide) ?_
  refine bc_iconst (v := 1) dX10_span_40 (by decide) ?_
  refine bc_iconst (v := 1) dX10_span_41 (by decide) ?_
  refine bc_callV (z := mX10_may) (ci := 10) dX10_span_42 lX10_236 qX10_may (by rfl) (by rfl) (by rfl) (by rfl) (Nat.le_of_ble_eq_true rfl) (t_mayY (k := 1) True trivial _ (by decide) rfl (by decide)) (fun r42 μ42 e42 => ?_)
  obtain ⟨rfl, q42⟩ := e42
  obtain rfl := q42.symm
  refine bc_if_ne (tgt := 50) dX10_span_45 (by decide) (fun h45 => ?_) (fun h45 => absurd h45 (by decide))
  refine bc_iconst (v := (-1)) dX10_span_50 (by decide) ?_
  refine bc_istore dX10_span_51 (by decide) rfl ?_
  refine bc_iconst (v := 0) dX10_span_53 (by decide) ?_
  refine bc_istore dX10_span_54 (by decide) rfl ?_
  refine bc_iconst (v := 0) dX10_span_56 (by decide) ?_
  refine bc_istore dX10_span_57 (by decide) rfl ?_
  refine bc_iconst (v := 0) dX10_span_59 (by decide) ?_
  refine bc_istore dX10_span_60 (by decide) rfl ?_
  exact loop mn 0 _ .null (-1) rfl (by omega) ⟨fun _ _ _ _ _ => rfl, fun _ _ => rfl⟩ (.inl ⟨rfl, rfl⟩)
end T65
