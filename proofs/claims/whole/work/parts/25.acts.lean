/-! BreadCity$City: what WORK and a SEASON do, copies -/
theorem s_putOnions {d : Nat} {μ : bc_M} {c k : Nat} (hk0 : cok c) (hk : k < 6) (v : Int32) : bc_C d LC mX1_putOnions [.ref c, .int (nI k), .int v] μ (fun r ν => r = none ∧ ν = bc_u μ (c + 3) k v) := by
  have hc := hk0.isC
  refine bc_enter (by decide) (Nat.le_of_ble_eq_true rfl) rfl ?_
  refine bc_iload_n dX1_putOnions_0 rfl ?_
  refine bc_if_lt (tgt := 20) dX1_putOnions_1 (by decide) (fun h1 => absurd h1 (bn_nn (by omega))) (fun h1 => ?_)
  refine bc_iload_n dX1_putOnions_4 rfl ?_
  refine bc_aload_n dX1_putOnions_5 rfl ?_
  refine bc_getr dX1_putOnions_6 fX1_18 (hc.1) rfl ?_
  refine bc_len0 dX1_putOnions_9 (hc.2.2.2.1) ?_
  refine bc_icmp_ge (tgt := 20) dX1_putOnions_10 (by decide) (fun h10 => absurd h10 (by rw [bn_leN (by omega) (by omega)]; omega)) (fun h10 => ?_)
  refine bc_aload_n dX1_putOnions_13 rfl ?_
  refine bc_getr dX1_putOnions_14 fX1_18 (hc.1) rfl ?_
  refine bc_iload_n dX1_putOnions_17 rfl ?_
  refine bc_iload_n dX1_putOnions_18 rfl ?_
  refine bc_iastE dX1_putOnions_19 (hc.2.2.2.1) (rfl) (⟨hk, by decide⟩) ?_
  exact bc_return dX1_putOnions_20 rfl (⟨rfl, rfl⟩)
theorem s_layOnions {d : Nat} {μ : bc_M} {c k : Nat} (hk0 : cok c) (hk : k < 6) (v : Int32) : bc_C (d + 2) LC mX1_layOnions [.ref c, .int (nI k), .int v] μ (fun r ν => (μ (c + 3) k = v ∧ r = some (.int 0) ∧ ν = μ) ∨ (¬ μ (c + 3) k = v ∧ r = some (.int 1) ∧ ν = bc_u μ (c + 3) k v)) := by
  have hc := hk0.isC
  refine bc_enter (by decide) (Nat.le_of_ble_eq_true rfl) rfl ?_
  refine bc_aload_n dX1_layOnions_0 rfl ?_
  refine bc_iload_n dX1_layOnions_1 rfl ?_
  refine bc_callV (z := mX1_onionsOf) (ci := 1) dX1_layOnions_2 lX1_103 qX1_onionsOf (hc.1) (by rfl) (by rfl) (by rfl) (Nat.le_of_ble_eq_true rfl) (s_onionsOf hc (nI k)) (fun r2 μ2 e2 => ?_)
  obtain ⟨rfl, q2⟩ := e2
  obtain rfl := q2.symm
  rw [en_N hk (by decide)]
  refine bc_iload_n dX1_layOnions_5 rfl ?_
  refine bc_icmp_ne (tgt := 11) dX1_layOnions_6 (by decide) (fun h6 => ?_) (fun h6 => ?_)
  · refine bc_aload_n dX1_layOnions_11 rfl ?_
    refine bc_iload_n dX1_layOnions_12 rfl ?_
    refine bc_iload_n dX1_layOnions_13 rfl ?_
    refine bc_callV (z := mX1_putOnions) (ci := 1) dX1_layOnions_14 lX1_106 qX1_putOnions (hc.1) (by rfl) (by rfl) (by rfl) (Nat.le_of_ble_eq_true rfl) (s_putOnions hk0 hk v) (fun r14 μ14 e14 => ?_)
    obtain ⟨rfl, q14⟩ := e14
    obtain rfl := q14.symm
    refine bc_iconst (v := 1) dX1_layOnions_17 (by decide) ?_
    exact bc_ireturn dX1_layOnions_18 rfl rfl (Or.inr ⟨h6, rfl, rfl⟩)
  · refine bc_iconst (v := 0) dX1_layOnions_9 (by decide) ?_
    exact bc_ireturn dX1_layOnions_10 rfl rfl (Or.inl ⟨h6, rfl, rfl⟩)
theorem s_turnCold {d : Nat} {μ : bc_M} {c : Nat} (hk0 : cok c) (q : Int32) : bc_C d LC mX1_turnCold [.ref c, .int q] μ (fun r ν => r = none ∧ ν = bc_u μ c 7 (μ c 7 ^^^ 1 <<< (q &&& 31))) := by
  have hc := hk0.isC
  refine bc_enter (by decide) (Nat.le_of_ble_eq_true rfl) rfl ?_
  refine bc_aload_n dX1_turnCold_0 rfl ?_
  refine bc_dup dX1_turnCold_1 rfl ?_
  refine bc_geti dX1_turnCold_2 fX1_68 (hc.1) rfl ?_
  refine bc_iconst (v := 1) dX1_turnCold_5 (by decide) ?_
  refine bc_iload_n dX1_turnCold_6 rfl ?_
  refine bc_ishl dX1_turnCold_7 ?_
  refine bc_ixor dX1_turnCold_8 ?_
  refine bc_put dX1_turnCold_9 fX1_68 ftX1 fpX1_7 rfl rfl (hc.1) rfl ?_
  exact bc_return dX1_turnCold_12 rfl (⟨rfl, rfl⟩)
/-- an oven is lit, if it can be done -/
def ltM (μ : bc_M) (c k : Nat) : bc_M := bc_u (bc_u (bc_u μ (c + 1) k 4) (c + 2) k (μ (c + 2) k + 1)) c 5 (μ c 5 - 1)
theorem s_lightOven {d : Nat} {μ : bc_M} {c k : Nat} (hk0 : cok c) (hk : k < 8) : bc_C d LC mX1_lightOven [.ref c, .int (nI k)] μ (fun r ν => ((0 < μ (c + 1) k ∨ ¬ 0 < μ c 5) ∧ r = some (.int 0) ∧ ν = μ) ∨ (¬ 0 < μ (c + 1) k ∧ 0 < μ c 5 ∧ r = some (.int 1) ∧ ν = ltM μ c k)) := by
  have hc := hk0.isC
  refine bc_enter (by decide) (Nat.le_of_ble_eq_true rfl) rfl ?_
  refine bc_iload_n dX1_lightOven_0 rfl ?_
  refine bc_if_lt (tgt := 22) dX1_lightOven_1 (by decide) (fun h1 => absurd h1 (bn_nn (by omega))) (fun h1 => ?_)
  refine bc_iload_n dX1_lightOven_4 rfl ?_
  refine bc_aload_n dX1_lightOven_5 rfl ?_
  refine bc_getr dX1_lightOven_6 fX1_9 (hc.1) rfl ?_
  refine bc_len0 dX1_lightOven_9 (hc.2.1) ?_
  refine bc_icmp_ge (tgt := 22) dX1_lightOven_10 (by decide) (fun h10 => absurd h10 (by rw [bn_leN (by omega) (by omega)]; omega)) (fun h10 => ?_)
  refine bc_iload_n dX1_lightOven_13 rfl ?_
  refine bc_aload_n dX1_lightOven_14 rfl ?_
  refine bc_getr dX1_lightOven_15 fX1_15 (hc.1) rfl ?_
  refine bc_len0 dX1_lightOven_18 (hc.2.2.1) ?_
  refine bc_icmp_lt (tgt := 24) dX1_lightOven_19 (by decide) (fun h19 => ?_) (fun h19 => absurd h19 (fun q => q (by rw [bn_ltN (by omega) (by omega)]; omega)))
  refine bc_aload_n dX1_lightOven_24 rfl ?_
  refine bc_getr dX1_lightOven_25 fX1_9 (hc.1) rfl ?_
  refine bc_iload_n dX1_lightOven_28 rfl ?_
  refine bc_ialdE dX1_lightOven_29 (hc.2.1) (rfl) (⟨hk, by decide⟩) ?_
  refine bc_if_gt (tgt := 40) dX1_lightOven_30 (by decide) (fun h30 => ?_) (fun h30 => ?_)
  · refine bc_iconst (v := 0) dX1_lightOven_40 (by decide) ?_
    exact bc_ireturn dX1_lightOven_41 rfl rfl (Or.inl ⟨Or.inl h30, rfl, rfl⟩)
  · refine bc_aload_n dX1_lightOven_33 rfl ?_
    refine bc_geti dX1_lightOven_34 fX1_59 (hc.1) rfl ?_
    refine bc_if_gt (tgt := 42) dX1_lightOven_37 (by decide) (fun h37 => ?_) (fun h37 => ?_)
    · refine bc_aload_n dX1_lightOven_42 rfl ?_
      refine bc_getr dX1_lightOven_43 fX1_9 (hc.1) rfl ?_
      refine bc_iload_n dX1_lightOven_46 rfl ?_
      refine bc_iconst (v := 4) dX1_lightOven_47 (by decide) ?_
      refine bc_iastE dX1_lightOven_48 (hc.2.1) (rfl) (⟨hk, by decide⟩) ?_
      refine bc_aload_n dX1_lightOven_49 rfl ?_
      refine bc_getr dX1_lightOven_50 fX1_15 (hc.1) rfl ?_
      refine bc_iload_n dX1_lightOven_53 rfl ?_
      refine bc_dup2 dX1_lightOven_54 rfl rfl ?_
      refine bc_ialdE dX1_lightOven_55 (hc.2.2.1) (rfl) (⟨hk, by decide⟩) ?_
      refine bc_iconst (v := 1) dX1_lightOven_56 (by decide) ?_
      refine bc_iadd dX1_lightOven_57 ?_
      refine bc_iastE dX1_lightOven_58 (hc.2.2.1) (rfl) (⟨hk, by decide⟩) ?_
      refine bc_aload_n dX1_lightOven_59 rfl ?_
      refine bc_dup dX1_lightOven_60 rfl ?_
      refine bc_geti dX1_lightOven_61 fX1_59 (hc.1) rfl ?_
      refine bc_iconst (v := 1) dX1_lightOven_64 (by decide) ?_
      refine bc_isub dX1_lightOven_65 ?_
      refine bc_put dX1_lightOven_66 fX1_59 ftX1 fpX1_5 rfl rfl (hc.1) rfl ?_
      refine bc_iconst (v := 1) dX1_lightOven_69 (by decide) ?_
      exact bc_ireturn dX1_lightOven_70 rfl rfl (Or.inr ⟨h30, h37, rfl, by unfold ltM; rw [show bc_u μ (c + 1) k 4 (c + 2) k = μ (c + 2) k by rw [bc_u_r, if_neg (by omega)], show bc_u (bc_u μ (c + 1) k 4) (c + 2) k (μ (c + 2) k + 1) c 5 = μ c 5 by rw [bc_u_r, if_neg (by omega), bc_u_r, if_neg (by omega)]]⟩)
    · refine bc_iconst (v := 0) dX1_lightOven_40 (by decide) ?_
      exact bc_ireturn dX1_lightOven_41 rfl rfl (Or.inl ⟨Or.inr h37, rfl, rfl⟩)
theorem s_quenchOven {d : Nat} {μ : bc_M} {c k : Nat} (hk0 : cok c) (hk : k < 8) : bc_C d LC mX1_quenchOven [.ref c, .int (nI k)] μ (fun r ν => (¬ 0 < μ (c + 1) k ∧ r = some (.int 0) ∧ ν = μ) ∨ (0 < μ (c + 1) k ∧ r = some (.int 1) ∧ ν = bc_u μ (c + 1) k 0)) := by
  have hc := hk0.isC
  refine bc_enter (by decide) (Nat.le_of_ble_eq_true rfl) rfl ?_
  refine bc_iload_n dX1_quenchOven_0 rfl ?_
  refine bc_if_lt (tgt := 22) dX1_quenchOven_1 (by decide) (fun h1 => absurd h1 (bn_nn (by omega))) (fun h1 => ?_)
  refine bc_iload_n dX1_quenchOven_4 rfl ?_
  refine bc_aload_n dX1_quenchOven_5 rfl ?_
  refine bc_getr dX1_quenchOven_6 fX1_9 (hc.1) rfl ?_
  refine bc_len0 dX1_quenchOven_9 (hc.2.1) ?_
  refine bc_icmp_ge (tgt := 22) dX1_quenchOven_10 (by decide) (fun h10 => absurd h10 (by rw [bn_leN (by omega) (by omega)]; omega)) (fun h10 => ?_)
  refine bc_aload_n dX1_quenchOven_13 rfl ?_
  refine bc_getr dX1_quenchOven_14 fX1_9 (hc.1) rfl ?_
  refine bc_iload_n dX1_quenchOven_17 rfl ?_
  refine bc_ialdE dX1_quenchOven_18 (hc.2.1) (rfl) (⟨hk, by decide⟩) ?_
  refine bc_if_gt (tgt := 24) dX1_quenchOven_19 (by decide) (fun h19 => ?_) (fun h19 => ?_)
  · refine bc_aload_n dX1_quenchOven_24 rfl ?_
    refine bc_getr dX1_quenchOven_25 fX1_9 (hc.1) rfl ?_
    refine bc_iload_n dX1_quenchOven_28 rfl ?_
    refine bc_iconst (v := 0) dX1_quenchOven_29 (by decide) ?_
    refine bc_iastE dX1_quenchOven_30 (hc.2.1) (rfl) (⟨hk, by decide⟩) ?_
    refine bc_iconst (v := 1) dX1_quenchOven_31 (by decide) ?_
    exact bc_ireturn dX1_quenchOven_32 rfl rfl (Or.inr ⟨h19, rfl, rfl⟩)
  · refine bc_iconst (v := 0) dX1_quenchOven_22 (by decide) ?_
    exact bc_ireturn dX1_quenchOven_23 rfl rfl (Or.inl ⟨h19, rfl, rfl⟩)
def rnd (s : Int32) : Int32 := s * 1103515245 + 12345
def drw (s : Int32) (n : Nat) : Nat := ((rnd s) >>> ((16 : Int32) &&& 31) &&& 32767).toNatClampNeg % n
theorem rnd_nn (s : Int32) : ∃ j, j < 32768 ∧ s >>> ((16 : Int32) &&& 31) &&& 32767 = nI j := pk_andE _ 15 (by decide)
theorem drw_eq (s : Int32) {n : Nat} (hn : 0 < n) (hn2 : n < 2147483648) : (rnd s >>> ((16 : Int32) &&& 31) &&& 32767) - (rnd s >>> ((16 : Int32) &&& 31) &&& 32767) / nI n * nI n = nI (drw s n) := by
  obtain ⟨j, hj, e⟩ := rnd_nn (rnd s)
  unfold drw
  rw [e, pk_rem (by omega) hn (by omega), nI_clamp (by omega)]
theorem drw_lt (s : Int32) {n : Nat} (hn : 0 < n) : drw s n < n := Nat.mod_lt _ hn
theorem s_draw {d : Nat} {μ : bc_M} {c n : Nat} (hk0 : cok c) (hn : 0 < n) (hn2 : n < 100) : bc_C d LC mX1_draw [.ref c, .int (nI n)] μ (fun r ν => r = some (.int (nI (drw (μ c 17) n))) ∧ ν = bc_u μ c 17 (rnd (μ c 17))) := by
  have hc := hk0.isC
  refine bc_enter (by decide) (Nat.le_of_ble_eq_true rfl) rfl ?_
  refine bc_aload_n dX1_draw_0 rfl ?_
  refine bc_aload_n dX1_draw_1 rfl ?_
  refine bc_geti dX1_draw_2 fX1_195 (hc.1) rfl ?_
  refine bc_ldc dX1_draw_5 nX1_198 ?_
  refine bc_imul dX1_draw_7 ?_
  refine bc_sipush (v := 12345) dX1_draw_8 (by decide) ?_
  refine bc_iadd dX1_draw_11 ?_
  refine bc_put dX1_draw_12 fX1_195 ftX1 fpX1_17 rfl rfl (hc.1) rfl ?_
  refine bc_iload_n dX1_draw_15 rfl ?_
  refine bc_if_gt (tgt := 23) dX1_draw_16 (by decide) (fun h16 => ?_) (fun h16 => absurd h16 (fun q => q (by rw [show (0 : Int32) = nI 0 from rfl, bn_ltN (by omega) (by omega)]; exact hn)))
  refine bc_aload_n dX1_draw_23 rfl ?_
  refine bc_geti dX1_draw_24 fX1_195 (hc.1) rfl ?_
  refine bc_bipush (v := 16) dX1_draw_27 (by decide) ?_
  refine bc_ishr dX1_draw_29 ?_
  refine bc_sipush (v := 32767) dX1_draw_30 (by decide) ?_
  refine bc_iand dX1_draw_33 ?_
  refine bc_iload_n dX1_draw_34 rfl ?_
  refine bc_irem dX1_draw_35 (nI_ne0 hn (by omega)) ?_
  exact bc_ireturn dX1_draw_36 rfl rfl (⟨by rw [← drw_eq (μ c 17) hn (by omega)]; rw [show bc_u μ c 17 (μ c 17 * 1103515245 + 12345) c 17 = rnd (μ c 17) by rw [bc_u_r, if_pos ⟨rfl, rfl⟩]; rfl], rfl⟩)
/-- lit, if it can be -/
def liM (μ : bc_M) (c k : Nat) : bc_M := if 0 < μ (c + 1) k ∨ ¬ 0 < μ c 5 then μ else ltM μ c k
def chM (c no nq : Nat) (C : Int32) (μ : bc_M) : bc_M :=
  if no = 0 then μ else
  let s0 := μ c 17
  let μ4 := bc_u (bc_u (liM (bc_u μ c 17 (rnd s0)) c (drw s0 no)) c 17 (rnd (rnd s0))) c 17 (rnd (rnd (rnd s0)))
  if nI (drw (rnd (rnd s0)) 16) < C then bc_u μ4 c 7 (μ4 c 7 ^^^ 1 <<< (nI (drw (rnd s0) nq) &&& 31)) else μ4
theorem liM_17 (μ : bc_M) (c k : Nat) : liM μ c k c 17 = μ c 17 := by
  unfold liM
  split
  · rfl
  · unfold ltM
    rw [bc_u_r, if_neg (by omega), bc_u_r, if_neg (by omega), bc_u_r, if_neg (by omega)]
theorem liM_3 (μ : bc_M) {c : Nat} (hc : cok c) (k j : Nat) : liM μ c k 3 j = μ 3 j := by
  unfold liM
  split
  · rfl
  · unfold ltM
    rw [bc_u_r, if_neg (by rcases hc with rfl | rfl <;> omega), bc_u_r, if_neg (by rcases hc with rfl | rfl <;> omega), bc_u_r, if_neg (by rcases hc with rfl | rfl <;> omega)]
theorem s_lightM {d : Nat} {μ : bc_M} {c k : Nat} (hk0 : cok c) (hk : k < 8) : bc_C d LC mX1_lightOven [.ref c, .int (nI k)] μ (fun r ν => (∃ z, r = some (.int z)) ∧ ν = liM μ c k) := by
  have h := s_lightOven (d := d) (μ := μ) hk0 hk
  intro l X
  refine bc_C.weaken h (fun r ν q => ?_) l X
  rcases q with ⟨h1, h2, h3⟩ | ⟨h1, h2, h3, h4⟩
  · exact ⟨⟨_, h2⟩, by rw [h3, liM, if_pos h1]⟩
  · exact ⟨⟨_, h3⟩, by rw [h4, liM, if_neg (fun q => q.elim h1 (fun q => q h2))]⟩
theorem s_chance {d : Nat} {μ : bc_M} {c no nq : Nat} (hk0 : cok c) (hno : μ 3 1 = nI no) (hno8 : no ≤ 8) (hnq : μ 3 0 = nI nq) (hnq6 : nq ≤ 6) (hoq : 0 < no → 0 < nq) (C : Int32) : bc_C (d + 1) LC mX1_chance [.ref c, .int C] μ (fun r ν => r = none ∧ ν = chM c no nq C μ) := by
  have hc := hk0.isC
  have h3 : ∀ (i k : Nat) (v : Int32) (ξ : bc_M), i ≥ 31 → ∀ j, bc_u ξ i k v 3 j = ξ 3 j := fun i k v ξ hi j => by rw [bc_u_r, if_neg (by omega)]
  have hc31 : c ≥ 31 := by rcases hk0 with rfl | rfl <;> omega
  refine bc_enter (by decide) (Nat.le_of_ble_eq_true rfl) rfl ?_
  refine bc_aload_n dX1_chance_0 rfl ?_
  refine bc_getr dX1_chance_1 fX1_30 (hc.1) rfl ?_
  refine bc_geti dX1_chance_4 fX1_89 (rfl) rfl ?_
  refine bc_if_gt (tgt := 11) dX1_chance_7 (by decide) (fun h7 => ?_) (fun h7 => ?_)
  · have hn0 : 0 < no := by rw [hno, show (0 : Int32) = nI 0 from rfl, bn_ltN (by omega) (by omega)] at h7; omega
    refine bc_aload_n dX1_chance_11 rfl ?_
    refine bc_aload_n dX1_chance_12 rfl ?_
    refine bc_aload_n dX1_chance_13 rfl ?_
    refine bc_getr dX1_chance_14 fX1_30 (hc.1) rfl ?_
    refine bc_geti dX1_chance_17 fX1_89 (rfl) rfl ?_
    rw [hno]
    refine bc_callV (z := mX1_draw) (ci := 1) dX1_chance_20 lX1_185 qX1_draw (hc.1) (by rfl) (by rfl) (by rfl) (Nat.le_of_ble_eq_true rfl) (s_draw hk0 hn0 (by omega)) (fun r20 μ20 e20 => ?_)
    obtain ⟨rfl, q20⟩ := e20
    obtain rfl := q20.symm
    refine bc_callV (z := mX1_lightOven) (ci := 1) dX1_chance_23 lX1_188 qX1_lightOven (hc.1) (by rfl) (by rfl) (by rfl) (Nat.le_of_ble_eq_true rfl) (s_lightM hk0 (Nat.lt_of_lt_of_le (drw_lt _ hn0) hno8)) (fun r23 μ23 e23 => ?_)
    obtain ⟨⟨z, rfl⟩, rfl⟩ := e23
    refine bc_pop dX1_chance_26 rfl ?_
    refine bc_aload_n dX1_chance_27 rfl ?_
    refine bc_aload_n dX1_chance_28 rfl ?_
    refine bc_getr dX1_chance_29 fX1_30 (hc.1) rfl ?_
    refine bc_geti dX1_chance_32 fX1_147 (rfl) rfl ?_
    rw [liM_3 _ hk0, h3 _ _ _ _ hc31, hnq]
    refine bc_callV (z := mX1_draw) (ci := 1) dX1_chance_35 lX1_185 qX1_draw (hc.1) (by rfl) (by rfl) (by rfl) (Nat.le_of_ble_eq_true rfl) (s_draw hk0 (hoq hn0) (by omega)) (fun r35 μ35 e35 => ?_)
    obtain ⟨rfl, q35⟩ := e35
    obtain rfl := q35.symm
    refine bc_istore_n dX1_chance_38 (by decide) rfl ?_
    refine bc_aload_n dX1_chance_39 rfl ?_
    refine bc_bipush (v := 16) dX1_chance_40 (by decide) ?_
    refine bc_callV (z := mX1_draw) (ci := 1) dX1_chance_42 lX1_185 qX1_draw (hc.1) (by rfl) (by rfl) (by rfl) (Nat.le_of_ble_eq_true rfl) (s_draw (n := 16) hk0 (by decide) (by decide)) (fun r42 μ42 e42 => ?_)
    obtain ⟨rfl, q42⟩ := e42
    obtain rfl := q42.symm
    refine bc_iload_n dX1_chance_45 rfl ?_
    have a1 : liM (bc_u μ c 17 (rnd (μ c 17))) c (drw (μ c 17) no) c 17 = rnd (μ c 17) := by rw [liM_17, bc_u_r, if_pos ⟨rfl, rfl⟩]
    rw [a1]
    have a2 : bc_u (liM (bc_u μ c 17 (rnd (μ c 17))) c (drw (μ c 17) no)) c 17 (rnd (rnd (μ c 17))) c 17 = rnd (rnd (μ c 17)) := by rw [bc_u_r, if_pos ⟨rfl, rfl⟩]
    rw [a2]
    have hne : ¬ no = 0 := by omega
    refine bc_icmp_ge (tgt := 54) dX1_chance_46 (by decide) (fun h46 => ?_) (fun h46 => ?_)
    · exact bc_return dX1_chance_54 rfl (⟨rfl, by rw [chM, if_neg hne]; exact (if_neg (by have q : C ≤ nI (drw (rnd (rnd (μ c 17))) 16) := h46; rw [bn_lt]; rw [bn_le] at q; omega)).symm⟩)
    · refine bc_aload_n dX1_chance_49 rfl ?_
      refine bc_iload_n dX1_chance_50 rfl ?_
      refine bc_callV (z := mX1_turnCold) (ci := 1) dX1_chance_51 lX1_192 qX1_turnCold (hc.1) (by rfl) (by rfl) (by rfl) (Nat.le_of_ble_eq_true rfl) (s_turnCold hk0 _) (fun r51 μ51 e51 => ?_)
      obtain ⟨rfl, q51⟩ := e51
      obtain rfl := q51.symm
      exact bc_return dX1_chance_54 rfl (⟨rfl, by rw [chM, if_neg hne]; exact (if_pos (bn_nle h46)).symm⟩)
  · exact bc_return dX1_chance_10 rfl (⟨rfl, by rw [chM, if_pos (by rw [hno, show (0 : Int32) = nI 0 from rfl, bn_ltN (by omega) (by omega)] at h7; omega)]⟩)
/-- trial becomes the city -/
def bcS (μ ν : bc_M) : Prop := (∀ i k, ¬ (i = 38 ∧ 2 ≤ k ∧ k ≤ 7) → i ≠ 39 → i ≠ 40 → i ≠ 41 → ν i k = μ i k) ∧ (∀ k, 2 ≤ k → k ≤ 7 → ν 38 k = μ 31 k) ∧ (∀ j, j < 8 → ν 39 j = μ 32 j) ∧ (∀ j, j < 8 → ν 40 j = μ 33 j) ∧ (∀ j, j < 6 → ν 41 j = μ 34 j)
theorem s_become {d : Nat} {μ : bc_M} : bc_C (d + 2) LC mX1_become [.ref 38, .ref 31] μ (fun r ν => r = none ∧ bcS μ ν) := by
  refine bc_enter (by decide) (Nat.le_of_ble_eq_true rfl) rfl ?_
  refine bc_aload_n dX1_become_0 rfl ?_
  refine bc_aload_n dX1_become_1 rfl ?_
  refine bc_geti dX1_become_2 fX1_47 (rfl) rfl ?_
  refine bc_put dX1_become_5 fX1_47 ftX1 fpX1_2 rfl rfl (rfl) rfl ?_
  refine bc_aload_n dX1_become_8 rfl ?_
  refine bc_aload_n dX1_become_9 rfl ?_
  refine bc_geti dX1_become_10 fX1_53 (rfl) rfl ?_
  refine bc_put dX1_become_13 fX1_53 ftX1 fpX1_3 rfl rfl (rfl) rfl ?_
  refine bc_aload_n dX1_become_16 rfl ?_
  refine bc_aload_n dX1_become_17 rfl ?_
  refine bc_geti dX1_become_18 fX1_62 (rfl) rfl ?_
  refine bc_put dX1_become_21 fX1_62 ftX1 fpX1_4 rfl rfl (rfl) rfl ?_
  refine bc_aload_n dX1_become_24 rfl ?_
  refine bc_aload_n dX1_become_25 rfl ?_
  refine bc_geti dX1_become_26 fX1_59 (rfl) rfl ?_
  refine bc_put dX1_become_29 fX1_59 ftX1 fpX1_5 rfl rfl (rfl) rfl ?_
  refine bc_aload_n dX1_become_32 rfl ?_
  refine bc_aload_n dX1_become_33 rfl ?_
  refine bc_geti dX1_become_34 fX1_65 (rfl) rfl ?_
  refine bc_put dX1_become_37 fX1_65 ftX1 fpX1_6 rfl rfl (rfl) rfl ?_
  refine bc_aload_n dX1_become_40 rfl ?_
  refine bc_aload_n dX1_become_41 rfl ?_
  refine bc_geti dX1_become_42 fX1_68 (rfl) rfl ?_
  refine bc_put dX1_become_45 fX1_68 ftX1 fpX1_7 rfl rfl (rfl) rfl ?_
  refine bc_aload_n dX1_become_48 rfl ?_
  refine bc_getr dX1_become_49 fX1_9 (rfl) rfl ?_
  refine bc_aload_n dX1_become_52 rfl ?_
  refine bc_getr dX1_become_53 fX1_9 (rfl) rfl ?_
  refine bc_callSN (z := mX9_copyRow) dX1_become_56 lX1_75 qX9_copyRow (by rfl) (by rfl) (Nat.le_of_ble_eq_true rfl) (s_copyRow (n := 8) (n' := 8) rfl rfl (by decide) (by decide)) (fun r56 μ56 e56 => ?_)
  obtain ⟨rfl, q56⟩ := e56
  obtain rfl := q56.symm
  refine bc_aload_n dX1_become_59 rfl ?_
  refine bc_getr dX1_become_60 fX1_15 (rfl) rfl ?_
  refine bc_aload_n dX1_become_63 rfl ?_
  refine bc_getr dX1_become_64 fX1_15 (rfl) rfl ?_
  refine bc_callSN (z := mX9_copyRow) dX1_become_67 lX1_75 qX9_copyRow (by rfl) (by rfl) (Nat.le_of_ble_eq_true rfl) (s_copyRow (n := 8) (n' := 8) rfl rfl (by decide) (by decide)) (fun r67 μ67 e67 => ?_)
  obtain ⟨rfl, q67⟩ := e67
  obtain rfl := q67.symm
  refine bc_aload_n dX1_become_70 rfl ?_
  refine bc_getr dX1_become_71 fX1_18 (rfl) rfl ?_
  refine bc_aload_n dX1_become_74 rfl ?_
  refine bc_getr dX1_become_75 fX1_18 (rfl) rfl ?_
  refine bc_callSN (z := mX9_copyRow) dX1_become_78 lX1_75 qX9_copyRow (by rfl) (by rfl) (Nat.le_of_ble_eq_true rfl) (s_copyRow (n := 6) (n' := 6) rfl rfl (by decide) (by decide)) (fun r78 μ78 e78 => ?_)
  obtain ⟨rfl, q78⟩ := e78
  obtain rfl := q78.symm
  skip
  refine bc_return dX1_become_81 rfl ⟨rfl, fun i k h1 h2 h3 h4 => ?_, fun k h1 h2 => ?_, fun j hj => ?_, fun j hj => ?_, fun j hj => ?_⟩
  · simp only [bc_us_r, bc_u_r]
    rw [if_neg h4, if_neg h3, if_neg h2, if_neg (by omega), if_neg (by omega), if_neg (by omega), if_neg (by omega), if_neg (by omega), if_neg (by omega)]
  · have : k = 2 ∨ k = 3 ∨ k = 4 ∨ k = 5 ∨ k = 6 ∨ k = 7 := by omega
    rcases this with rfl | rfl | rfl | rfl | rfl | rfl <;> simp [bc_us_r, bc_u_r]
  · simp [bc_us_r, bc_u_r, va_cpy, hj]
  · simp [bc_us_r, bc_u_r, va_cpy, hj]
  · simp [bc_us_r, bc_u_r, va_cpy, hj]
/-- a night begins -/
def bnS (g b : Nat) (μ ν : bc_M) : Prop := (∀ i k, ¬ (i = g ∧ 2 ≤ k ∧ k ≤ 7) → i ≠ g + 1 → i ≠ g + 2 → i ≠ g + 3 → ν i k = μ i k) ∧ ν g 2 = μ b 4 ∧ ν g 3 = μ b 5 ∧ ν g 5 = μ b 6 ∧ ν g 4 = 0 ∧ ν g 6 = 0 ∧ ν g 7 = 0 ∧ (∀ j, j < 8 → ν (g + 1) j = 0) ∧ (∀ j, j < 8 → ν (g + 2) j = 0) ∧ (∀ j, j < 6 → ν (g + 3) j = 0)
theorem s_beginNight {d : Nat} {L : bc_L} {μ : bc_M} {g b w : Nat} (hg : bc_isG L g b w) (hne : b ≠ g) : bc_C (d + 1) L mX1_beginNight [.ref g] μ (fun r ν => r = none ∧ bnS g b μ ν) := by
  refine bc_enter (by decide) (Nat.le_of_ble_eq_true rfl) rfl ?_
  refine bc_aload_n dX1_beginNight_0 rfl ?_
  refine bc_aload_n dX1_beginNight_1 rfl ?_
  refine bc_getr dX1_beginNight_2 fX1_30 (hg.1) rfl ?_
  refine bc_geti dX1_beginNight_5 fX1_41 (hg.2.2.2.2) rfl ?_
  refine bc_put dX1_beginNight_8 fX1_47 ftX1 fpX1_2 rfl rfl (hg.1) rfl ?_
  refine bc_aload_n dX1_beginNight_11 rfl ?_
  refine bc_aload_n dX1_beginNight_12 rfl ?_
  refine bc_getr dX1_beginNight_13 fX1_30 (hg.1) rfl ?_
  refine bc_geti dX1_beginNight_16 fX1_50 (hg.2.2.2.2) rfl ?_
  refine bc_put dX1_beginNight_19 fX1_53 ftX1 fpX1_3 rfl rfl (hg.1) rfl ?_
  refine bc_aload_n dX1_beginNight_22 rfl ?_
  refine bc_aload_n dX1_beginNight_23 rfl ?_
  refine bc_getr dX1_beginNight_24 fX1_30 (hg.1) rfl ?_
  refine bc_geti dX1_beginNight_27 fX1_56 (hg.2.2.2.2) rfl ?_
  refine bc_put dX1_beginNight_30 fX1_59 ftX1 fpX1_5 rfl rfl (hg.1) rfl ?_
  refine bc_aload_n dX1_beginNight_33 rfl ?_
  refine bc_iconst (v := 0) dX1_beginNight_34 (by decide) ?_
  refine bc_put dX1_beginNight_35 fX1_62 ftX1 fpX1_4 rfl rfl (hg.1) rfl ?_
  refine bc_aload_n dX1_beginNight_38 rfl ?_
  refine bc_iconst (v := 0) dX1_beginNight_39 (by decide) ?_
  refine bc_put dX1_beginNight_40 fX1_65 ftX1 fpX1_6 rfl rfl (hg.1) rfl ?_
  refine bc_aload_n dX1_beginNight_43 rfl ?_
  refine bc_iconst (v := 0) dX1_beginNight_44 (by decide) ?_
  refine bc_put dX1_beginNight_45 fX1_68 ftX1 fpX1_7 rfl rfl (hg.1) rfl ?_
  refine bc_aload_n dX1_beginNight_48 rfl ?_
  refine bc_getr dX1_beginNight_49 fX1_9 (hg.1) rfl ?_
  refine bc_callSN (z := mX9_clearRow) dX1_beginNight_52 lX1_71 qX9_clearRow (by rfl) (by rfl) (Nat.le_of_ble_eq_true rfl) (s_clearRow hg.2.1 (by decide)) (fun r52 μ52 e52 => ?_)
  obtain ⟨rfl, q52⟩ := e52
  obtain rfl := q52.symm
  refine bc_aload_n dX1_beginNight_55 rfl ?_
  refine bc_getr dX1_beginNight_56 fX1_15 (hg.1) rfl ?_
  refine bc_callSN (z := mX9_clearRow) dX1_beginNight_59 lX1_71 qX9_clearRow (by rfl) (by rfl) (Nat.le_of_ble_eq_true rfl) (s_clearRow hg.2.2.1 (by decide)) (fun r59 μ59 e59 => ?_)
  obtain ⟨rfl, q59⟩ := e59
  obtain rfl := q59.symm
  refine bc_aload_n dX1_beginNight_62 rfl ?_
  refine bc_getr dX1_beginNight_63 fX1_18 (hg.1) rfl ?_
  refine bc_callSN (z := mX9_clearRow) dX1_beginNight_66 lX1_71 qX9_clearRow (by rfl) (by rfl) (Nat.le_of_ble_eq_true rfl) (s_clearRow hg.2.2.2.1 (by decide)) (fun r66 μ66 e66 => ?_)
  obtain ⟨rfl, q66⟩ := e66
  obtain rfl := q66.symm
  skip
  refine bc_return dX1_beginNight_69 rfl ⟨rfl, fun i k h1 h2 h3 h4 => ?_, ?_, ?_, ?_, ?_, ?_, ?_, fun j hj => ?_, fun j hj => ?_, fun j hj => ?_⟩
  · simp only [bc_us_r, bc_u_r]
    rw [if_neg h4, if_neg h3, if_neg h2, if_neg (by omega), if_neg (by omega), if_neg (by omega), if_neg (by omega), if_neg (by omega), if_neg (by omega)]
  all_goals simp [bc_us_r, bc_u_r, clr, hne, *]
