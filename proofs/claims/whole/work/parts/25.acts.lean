/-! BreadCity$City: what WORK and a SEASON do, copies -/
theorem s_putOnions {d : Nat} {μ : bc_M} {c k : Nat} (hk0 : cok c) (hk : k < 6) (v : Int32) : bc_C d LC mX1_putOnions [.ref c, .int (nI k), .int v] μ (fun r ν => r = none ∧ ν = bc_u μ (c + 3) k v) := by
  have hc := hk0.isC
  refine bc_enter (by decide) (Nat.le_of_ble_eq_true rfl) rfl ?_
  refine bc_iload_n dX1_putOnions_0 rfl ?_
  refine bc_if_lt (tgt := 20) dX1_putOnions_1 (by decide) (fun h1 => absurd h1 (bn_nn (by omega))) (fun h1 => ?_)
  refine bc_iload_n dX1_putOnions_4 rfl ?_
  refine bc_aload_n dX1_putOnions_5 rfl ?_
  refine bc_getr dX1_putOnions_6 fX1_18 (hc.1) rfl ?_
  refine bc_len0 dX1_putOnions_9 (hc.2.2.2.1) ?_
  refine bc_icmp_ge (tgt := 20) dX1_putOnions_10 (by decide) (fun h10 => absurd h10 (by rw [bn_leN (by omega) (by omega)]; omega)) (fun h10 => ?_)
  refine bc_aload_n dX1_putOnions_13 rfl ?_
  refine bc_getr dX1_putOnions_14 fX1_18 (hc.1) rfl ?_
  refine bc_iload_n dX1_putOnions_17 rfl ?_
  refine bc_iload_n dX1_putOnions_18 rfl ?_
  refine bc_iastE dX1_putOnions_19 (hc.2.2.2.1) (rfl) (⟨hk, by decide⟩) ?_
  exact bc_return dX1_putOnions_20 rfl (⟨rfl, rfl⟩)
theorem s_layOnions {d : Nat} {μ : bc_M} {c k : Nat} (hk0 : cok c) (hk : k < 6) (v : Int32) : bc_C (d + 2) LC mX1_layOnions [.ref c, .int (nI k), .int v] μ (fun r ν => (μ (c + 3) k = v ∧ r = some (.int 0) ∧ ν = μ) ∨ (¬ μ (c + 3) k = v ∧ r = some (.int 1) ∧ ν = bc_u μ (c + 3) k v)) := by
  have hc := hk0.isC
  refine bc_enter (by decide) (Nat.le_of_ble_eq_true rfl) rfl ?_
  refine bc_aload_n dX1_layOnions_0 rfl ?_
  refine bc_iload_n dX1_layOnions_1 rfl ?_
  refine bc_callV (z := mX1_onionsOf) (ci := 1) dX1_layOnions_2 lX1_103 qX1_onionsOf (hc.1) (by rfl) (by rfl) (by rfl) (Nat.le_of_ble_eq_true rfl) (s_onionsOf hc (nI k)) (fun r2 μ2 e2 => ?_)
  obtain ⟨rfl, q2⟩ := e2
  obtain rfl := q2.symm
  rw [en_N hk (by decide)]
  refine bc_iload_n dX1_layOnions_5 rfl ?_
  refine bc_icmp_ne (tgt := 11) dX1_layOnions_6 (by decide) (fun h6 => ?_) (fun h6 => ?_)
  · refine bc_aload_n dX1_layOnions_11 rfl ?_
    refine bc_iload_n dX1_layOnions_12 rfl ?_
    refine bc_iload_n dX1_layOnions_13 rfl ?_
    refine bc_callV (z := mX1_putOnions) (ci := 1) dX1_layOnions_14 lX1_106 qX1_putOnions (hc.1) (by rfl) (by rfl) (by rfl) (Nat.le_of_ble_eq_true rfl) (s_putOnions hk0 hk v) (fun r14 μ14 e14 => ?_)
    obtain ⟨rfl, q14⟩ := e14
    obtain rfl := q14.symm
    refine bc_iconst (v := 1) dX1_layOnions_17 (by decide) ?_
    exact bc_ireturn dX1_layOnions_18 rfl rfl (Or.inr ⟨h6, rfl, rfl⟩)
  · refine bc_iconst (v := 0) dX1_layOnions_9 (by decide) ?_
    exact bc_ireturn dX1_layOnions_10 rfl rfl (Or.inl ⟨h6, rfl, rfl⟩)
theorem s_turnCold {d : Nat} {μ : bc_M} {c : Nat} (hk0 : cok c) (q : Int32) : bc_C d LC mX1_turnCold [.ref c, .int q] μ (fun r ν => r = none ∧ ν = bc_u μ c 7 (μ c 7 ^^^ 1 <<< (q &&& 31))) := by
  have hc := hk0.isC
  refine bc_enter (by decide) (Nat.le_of_ble_eq_true rfl) rfl ?_
  refine bc_aload_n dX1_turnCold_0 rfl ?_
  refine bc_dup dX1_turnCold_1 rfl ?_
  refine bc_geti dX1_turnCold_2 fX1_68 (hc.1) rfl ?_
  refine bc_iconst (v := 1) dX1_turnCold_5 (by decide) ?_
  refine bc_iload_n dX1_turnCold_6 rfl ?_
  refine bc_ishl dX1_turnCold_7 ?_
  refine bc_ixor dX1_turnCold_8 ?_
  refine bc_put dX1_turnCold_9 fX1_68 ftX1 fpX1_7 rfl rfl (hc.1) rfl ?_
  exact bc_return dX1_turnCold_12 rfl (⟨rfl, rfl⟩)
/-- an oven is lit, if it can be done -/
def ltM (μ : bc_M) (c k : Nat) : bc_M := bc_u (bc_u (bc_u μ (c + 1) k 4) (c + 2) k (μ (c + 2) k + 1)) c 5 (μ c 5 - 1)
theorem s_lightOven {d : Nat} {μ : bc_M} {c k : Nat} (hk0 : cok c) (hk : k < 8) : bc_C d LC mX1_lightOven [.ref c, .int (nI k)] μ (fun r ν => ((0 < μ (c + 1) k ∨ ¬ 0 < μ c 5) ∧ r = some (.int 0) ∧ ν = μ) ∨ (¬ 0 < μ (c + 1) k ∧ 0 < μ c 5 ∧ r = some (.int 1) ∧ ν = ltM μ c k)) := by
  have hc := hk0.isC
  refine bc_enter (by decide) (Nat.le_of_ble_eq_true rfl) rfl ?_
  refine bc_iload_n dX1_lightOven_0 rfl ?_
  refine bc_if_lt (tgt := 22) dX1_lightOven_1 (by decide) (fun h1 => absurd h1 (bn_nn (by omega))) (fun h1 => ?_)
  refine bc_iload_n dX1_lightOven_4 rfl ?_
  refine bc_aload_n dX1_lightOven_5 rfl ?_
  refine bc_getr dX1_lightOven_6 fX1_9 (hc.1) rfl ?_
  refine bc_len0 dX1_lightOven_9 (hc.2.1) ?_
  refine bc_icmp_ge (tgt := 22) dX1_lightOven_10 (by decide) (fun h10 => absurd h10 (by rw [bn_leN (by omega) (by omega)]; omega)) (fun h10 => ?_)
  refine bc_iload_n dX1_lightOven_13 rfl ?_
  refine bc_aload_n dX1_lightOven_14 rfl ?_
  refine bc_getr dX1_lightOven_15 fX1_15 (hc.1) rfl ?_
  refine bc_len0 dX1_lightOven_18 (hc.2.2.1) ?_
  refine bc_icmp_lt (tgt := 24) dX1_lightOven_19 (by decide) (fun h19 => ?_) (fun h19 => absurd h19 (fun q => q (by rw [bn_ltN (by omega) (by omega)]; omega)))
  refine bc_aload_n dX1_lightOven_24 rfl ?_
  refine bc_getr dX1_lightOven_25 fX1_9 (hc.1) rfl ?_
  refine bc_iload_n dX1_lightOven_28 rfl ?_
  refine bc_ialdE dX1_lightOven_29 (hc.2.1) (rfl) (⟨hk, by decide⟩) ?_
  refine bc_if_gt (tgt := 40) dX1_lightOven_30 (by decide) (fun h30 => ?_) (fun h30 => ?_)
  · refine bc_iconst (v := 0) dX1_lightOven_40 (by decide) ?_
    exact bc_ireturn dX1_lightOven_41 rfl rfl (Or.inl ⟨Or.inl h30, rfl, rfl⟩)
  · refine bc_aload_n dX1_lightOven_33 rfl ?_
    refine bc_geti dX1_lightOven_34 fX1_59 (hc.1) rfl ?_
    refine bc_if_gt (tgt := 42) dX1_lightOven_37 (by decide) (fun h37 => ?_) (fun h37 => ?_)
    · refine bc_aload_n dX1_lightOven_42 rfl ?_
      refine bc_getr dX1_lightOven_43 fX1_9 (hc.1) rfl ?_
      refine bc_iload_n dX1_lightOven_46 rfl ?_
      refine bc_iconst (v := 4) dX1_lightOven_47 (by decide) ?_
      refine bc_iastE dX1_lightOven_48 (hc.2.1) (rfl) (⟨hk, by decide⟩) ?_
      refine bc_aload_n dX1_lightOven_49 rfl ?_
      refine bc_getr dX1_lightOven_50 fX1_15 (hc.1) rfl ?_
      refine bc_iload_n dX1_lightOven_53 rfl ?_
      refine bc_dup2 dX1_lightOven_54 rfl rfl ?_
      refine bc_ialdE dX1_lightOven_55 (hc.2.2.1) (rfl) (⟨hk, by decide⟩) ?_
      refine bc_iconst (v := 1) dX1_lightOven_56 (by decide) ?_
      refine bc_iadd dX1_lightOven_57 ?_
      refine bc_iastE dX1_lightOven_58 (hc.2.2.1) (rfl) (⟨hk, by decide⟩) ?_
      refine bc_aload_n dX1_lightOven_59 rfl ?_
      refine bc_dup dX1_lightOven_60 rfl ?_
      refine bc_geti dX1_lightOven_61 fX1_59 (hc.1) rfl ?_
      refine bc_iconst (v := 1) dX1_lightOven_64 (by decide) ?_
      refine bc_isub dX1_lightOven_65 ?_
      refine bc_put dX1_lightOven_66 fX1_59 ftX1 fpX1_5 rfl rfl (hc.1) rfl ?_
      refine bc_iconst (v := 1) dX1_lightOven_69 (by decide) ?_
      exact bc_ireturn dX1_lightOven_70 rfl rfl (Or.inr ⟨h30, h37, rfl, by unfold ltM; rw [show bc_u μ (c + 1) k 4 (c + 2) k = μ (c + 2) k by rw [bc_u_r, if_neg (by omega)], show bc_u (bc_u μ (c + 1) k 4) (c + 2) k (μ (c + 2) k + 1) c 5 = μ c 5 by rw [bc_u_r, if_neg (by omega), bc_u_r, if_neg (by omega)]]⟩)
    · refine bc_iconst (v := 0) dX1_lightOven_40 (by decide) ?_
      exact bc_ireturn dX1_lightOven_41 rfl rfl (Or.inl ⟨Or.inr h37, rfl, rfl⟩)
theorem s_quenchOven {d : Nat} {μ : bc_M} {c k : Nat} (hk0 : cok c) (hk : k < 8) : bc_C d LC mX1_quenchOven [.ref c, .int (nI k)] μ (fun r ν => (¬ 0 < μ (c + 1) k ∧ r = some (.int 0) ∧ ν = μ) ∨ (0 < μ (c + 1) k ∧ r = some (.int 1) ∧ ν = bc_u μ (c + 1) k 0)) := by
  have hc := hk0.isC
  refine bc_enter (by decide) (Nat.le_of_ble_eq_true rfl) rfl ?_
  refine bc_iload_n dX1_quenchOven_0 rfl ?_
  refine bc_if_lt (tgt := 22) dX1_quenchOven_1 (by decide) (fun h1 => absurd h1 (bn_nn (by omega))) (fun h1 => ?_)
  refine bc_iload_n dX1_quenchOven_4 rfl ?_
  refine bc_aload_n dX1_quenchOven_5 rfl ?_
  refine bc_getr dX1_quenchOven_6 fX1_9 (hc.1) rfl ?_
  refine bc_len0 dX1_quenchOven_9 (hc.2.1) ?_
  refine bc_icmp_ge (tgt := 22) dX1_quenchOven_10 (by decide) (fun h10 => absurd h10 (by rw [bn_leN (by omega) (by omega)]; omega)) (fun h10 => ?_)
  refine bc_aload_n dX1_quenchOven_13 rfl ?_
  refine bc_getr dX1_quenchOven_14 fX1_9 (hc.1) rfl ?_
  refine bc_iload_n dX1_quenchOven_17 rfl ?_
  refine bc_ialdE dX1_quenchOven_18 (hc.2.1) (rfl) (⟨hk, by decide⟩) ?_
  refine bc_if_gt (tgt := 24) dX1_quenchOven_19 (by decide) (fun h19 => ?_) (fun h19 => ?_)
  · refine bc_aload_n dX1_quenchOven_24 rfl ?_
    refine bc_getr dX1_quenchOven_25 fX1_9 (hc.1) rfl ?_
    refine bc_iload_n dX1_quenchOven_28 rfl ?_
    refine bc_iconst (v := 0) dX1_quenchOven_29 (by decide) ?_
    refine bc_iastE dX1_quenchOven_30 (hc.2.1) (rfl) (⟨hk, by decide⟩) ?_
    refine bc_iconst (v := 1) dX1_quenchOven_31 (by decide) ?_
    exact bc_ireturn dX1_quenchOven_32 rfl rfl (Or.inr ⟨h19, rfl, rfl⟩)
  · refine bc_iconst (v := 0) dX1_quenchOven_22 (by decide) ?_
    exact bc_ireturn dX1_quenchOven_23 rfl rfl (Or.inl ⟨h19, rfl, rfl⟩)
def rnd (s : Int32) : Int32 := s * 1103515245 + 12345
def drw (s : Int32) (n : Nat) : Nat := ((rnd s) >>> ((16 : Int32) &&& 31) &&& 32767).toNatClampNeg % n
theorem rnd_nn (s : Int32) : ∃ j, j < 32768 ∧ s >>> ((16 : Int32) &&& 31) &&& 32767 = nI j := pk_andE _ 15 (by decide)
theorem drw_eq (s : Int32) {n : Nat} (hn : 0 < n) (hn2 : n < 2147483648) : (rnd s >>> ((16 : Int32) &&& 31) &&& 32767) - (rnd s >>> ((16 : Int32) &&& 31) &&& 32767) / nI n * nI n = nI (drw s n) := by
  obtain ⟨j, hj, e⟩ := rnd_nn (rnd s)
  unfold drw
  rw [e, pk_rem (by omega) hn (by omega), nI_clamp (by omega)]
theorem drw_lt (s : Int32) {n : Nat} (hn : 0 < n) : drw s n < n := Nat.mod_lt _ hn
theorem s_draw {d : Nat} {μ : bc_M} {c n : Nat} (hk0 : cok c) (hn : 0 < n) (hn2 : n < 100) : bc_C d LC mX1_draw [.ref c, .int (nI n)] μ (fun r ν => r = some (.int (nI (drw (μ c 17) n))) ∧ ν = bc_u μ c 17 (rnd (μ c 17))) := by
  have hc := hk0.isC
  refine bc_enter (by decide) (Nat.le_of_ble_eq_true rfl) rfl ?_
  refine bc_aload_n dX1_draw_0 rfl ?_
  refine bc_aload_n dX1_draw_1 rfl ?_
  refine bc_geti dX1_draw_2 fX1_195 (hc.1) rfl ?_
  refine bc_ldc dX1_draw_5 nX1_198 ?_
  refine bc_imul dX1_draw_7 ?_
  refine bc_sipush (v := 12345) dX1_draw_8 (by decide) ?_
  refine bc_iadd dX1_draw_11 ?_
  refine bc_put dX1_draw_12 fX1_195 ftX1 fpX1_17 rfl rfl (hc.1) rfl ?_
  refine bc_iload_n dX1_draw_15 rfl ?_
  refine bc_if_gt (tgt := 23) dX1_draw_16 (by decide) (fun h16 => ?_) (fun h16 => absurd h16 (fun q => q (by rw [show (0 : Int32) = nI 0 from rfl, bn_ltN (by omega) (by omega)]; exact hn)))
  refine bc_aload_n dX1_draw_23 rfl ?_
  refine bc_geti dX1_draw_24 fX1_195 (hc.1) rfl ?_
  refine bc_bipush (v := 16) dX1_draw_27 (by decide) ?_
  refine bc_ishr dX1_draw_29 ?_
  refine bc_sipush (v := 32767) dX1_draw_30 (by decide) ?_
  refine bc_iand dX1_draw_33 ?_
  refine bc_iload_n dX1_draw_34 rfl ?_
  refine bc_irem dX1_draw_35 (nI_ne0 hn (by omega)) ?_
  exact bc_ireturn dX1_draw_36 rfl rfl (⟨by rw [← drw_eq (μ c 17) hn (by omega)]; rw [show bc_u μ c 17 (μ c 17 * 1103515245 + 12345) c 17 = rnd (μ c 17) by rw [bc_u_r, if_pos ⟨rfl, rfl⟩]; rfl], rfl⟩)
