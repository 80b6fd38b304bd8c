/-! the reference: what is told, and how it stands -/
/-- what a question leaves alone -/
def qS (m ν : bc_M) : Prop := (∀ i, i ≠ 0 → i ≠ 15 → i ≠ 16 → i ≠ 20 → ¬ (24 ≤ i ∧ i ≤ 29) → ν i = m i) ∧ (∀ k, k ≠ 0 → k ≠ 57 → ν 0 k = m 0 k) ∧ ν 0 0 = 0
section T64
variable {d : Nat} {m ν M : bc_M} {n no nq nr nm : Nat} {A : Row}
theorem qS.of (h : ∀ i, i ≠ 15 → i ≠ 16 → i ≠ 20 → ν i = bc_u m 0 0 0 i) : qS m ν := by
  refine ⟨fun i h0 h1 h2 h3 _ => ?_, fun k h1 _ => ?_, ?_⟩
  · rw [h i h1 h2 h3, bc_u_ne _ _ _ h0]
  · rw [h 0 (by decide) (by decide) (by decide), bc_u_r, if_neg (by omega)]
  · rw [h 0 (by decide) (by decide) (by decide)]; rfl
theorem mEnv.t0 (h : mEnv M m n no nq nr nm) : mEnv M (bc_u m 0 0 0) n no nq nr nm := h.mv (fun k h1 h2 => by rw [bc_u_r, if_neg (by omega)]) (fun i h1 h2 => by rw [bc_u_ne _ _ _ (by omega)])
theorem mEnv.s20 (h : mEnv M m n no nq nr nm) (f : Nat → Int32) : mEnv M (bc_us m 20 f) n no nq nr nm := h.mv (fun k h1 h2 => rfl) (fun i h1 h2 => by rw [bc_us_ne _ _ (by omega)])
theorem sR_cp {f g : Nat → Int32} (h : sR A f) : sR A (cpN f g 33) := by
  have e : ∀ k, k < 33 → cpN f g 33 k = f k := fun k hk => by unfold cpN; rw [if_pos hk]
  obtain ⟨s1, s2, s3, s4, s5, s6, s7, s8, s9⟩ := h
  refine ⟨fun p hp => ?_, fun p hp => ?_, fun q hq => ?_, fun q hq => ?_, ?_, ?_, ?_, ?_, ?_⟩
  · rw [e _ (by omega)]; exact s1 p hp
  · rw [e _ (by omega)]; exact s2 p hp
  · rw [e _ (by omega)]; exact s3 q hq
  · rw [e _ (by omega)]; exact s4 q hq
  · rw [e _ (by omega)]; exact s5
  · rw [e _ (by omega)]; exact s6
  · rw [e _ (by omega)]; exact s7
  · rw [e _ (by omega)]; exact s8
  · rw [e _ (by omega)]; exact s9
theorem t_mayY {k : Nat} (g : Prop) [Decidable g] (hg : g) (code : Int32) (hk : k < 2) (h0 : m 0 0 = 0) (hc : ¬ code = 0) : bc_C d LM mX10_may [.ref 0, .int (if g then 1 else 0), .int code, .int (nI k)] m (fun r ν => r = some (.int 1) ∧ ν = m) :=
  (t_may g code hk h0 hc).weaken (fun r ν h => h.elim (fun x => x.2) (fun x => absurd hg x.1))
theorem t_mayN {k : Nat} (g : Prop) [Decidable g] (hg : ¬ g) (code : Int32) (hk : k < 2) (h0 : m 0 0 = 0) (hc : ¬ code = 0) : bc_C d LM mX10_may [.ref 0, .int (if g then 1 else 0), .int code, .int (nI k)] m (fun r ν => r = some (.int 0) ∧ ν = bc_u (bc_u m 0 0 code) 1 k (m 1 k + 1)) :=
  (t_may g code hk h0 hc).weaken (fun r ν h => h.elim (fun x => absurd x.1 hg) (fun x => x.2))
theorem wN {w b : Nat} (h : w ≤ b) (hb : b < 1000) : (0 : Int32) ≤ nI w ∧ nI w ≤ nI b := ⟨by rw [show (0 : Int32) = nI 0 from rfl, bn_leN (by omega) (by omega)]; omega, by rw [bn_leN (by omega) (by omega)]; exact h⟩
/-- there is one of this number -/
theorem gT_iff {q : Int32} {b : Nat} (hb : b ≤ 1000) : (0 ≤ q ∧ q ≤ nI b - 1) ↔ (0 ≤ q ∧ q < nI b) := by
  cases b with
  | zero =>
    rw [bn_le, bn_le, bn_lt, bn_0, show (nI 0 - 1).toInt = -1 from rfl, bn_ti (by omega)]
    omega
  | succ b =>
    rw [bn_s1 (by omega), bn_le, bn_le, bn_lt, bn_0, bn_ti (by omega), bn_ti (by omega)]
    omega
theorem gT_N {q b : Nat} (h : q < b) (hb : b ≤ 1000) : (0 : Int32) ≤ nI q ∧ nI q ≤ nI b - 1 := (gT_iff hb).mpr ⟨by rw [show (0 : Int32) = nI 0 from rfl, bn_leN (by omega) (by omega)]; omega, by rw [bn_ltN (by omega) (by omega)]; exact h⟩
theorem t_isQuarterY {q code : Int32} (hb : m 0 25 = nI nq) (h6 : nq ≤ 6) (hg : (0 ≤ q ∧ q < nI nq)) (h0 : m 0 0 = 0) (hc : ¬ code = 0) : bc_C (d + 1) LM mX10_isQuarter [.ref 0, .int q, .int code] m (fun r ν => r = some (.int 1) ∧ ν = m) := by
  refine bc_enter (by decide) (Nat.le_of_ble_eq_true rfl) rfl ?_
  refine bc_aload_n dX10_isQuarter_0 rfl ?_
  refine bc_iload_n dX10_isQuarter_1 rfl ?_
  refine bc_iconst (v := 0) dX10_isQuarter_2 (by decide) ?_
  refine bc_aload_n dX10_isQuarter_3 rfl ?_
  refine bc_geti dX10_isQuarter_4 fX10_182 (rfl) rfl ?_
  rw [hb]
  refine bc_iconst (v := 1) dX10_isQuarter_7 (by decide) ?_
  refine bc_isub dX10_isQuarter_8 ?_
  refine bc_callS (z := mX10_within) dX10_isQuarter_9 lX10_384 qX10_within (by rfl) (by rfl) (Nat.le_of_ble_eq_true rfl) (t_within _ _ _) (fun r9 μ9 e9 => ?_)
  obtain ⟨rfl, q9⟩ := e9
  obtain rfl := q9.symm
  refine bc_iload_n dX10_isQuarter_12 rfl ?_
  refine bc_iconst (v := 0) dX10_isQuarter_13 (by decide) ?_
  refine bc_callV (z := mX10_may) (ci := 10) dX10_isQuarter_14 lX10_236 qX10_may (by rfl) (by rfl) (by rfl) (by rfl) (Nat.le_of_ble_eq_true rfl) (t_mayY (k := 0) _ ((gT_iff (by omega)).mpr hg) _ (by decide) h0 hc) (fun r14 μ14 e14 => ?_)
  obtain ⟨rfl, q14⟩ := e14
  obtain rfl := q14.symm
  exact bc_ireturn dX10_isQuarter_17 rfl rfl (⟨rfl, rfl⟩)
theorem t_isQuarterN {q code : Int32} (hb : m 0 25 = nI nq) (h6 : nq ≤ 6) (hg : ¬ (0 ≤ q ∧ q < nI nq)) (h0 : m 0 0 = 0) (hc : ¬ code = 0) : bc_C (d + 1) LM mX10_isQuarter [.ref 0, .int q, .int code] m (fun r ν => r = some (.int 0) ∧ ν = bc_u (bc_u m 0 0 code) 1 0 (m 1 0 + 1)) := by
  refine bc_enter (by decide) (Nat.le_of_ble_eq_true rfl) rfl ?_
  refine bc_aload_n dX10_isQuarter_0 rfl ?_
  refine bc_iload_n dX10_isQuarter_1 rfl ?_
  refine bc_iconst (v := 0) dX10_isQuarter_2 (by decide) ?_
  refine bc_aload_n dX10_isQuarter_3 rfl ?_
  refine bc_geti dX10_isQuarter_4 fX10_182 (rfl) rfl ?_
  rw [hb]
  refine bc_iconst (v := 1) dX10_isQuarter_7 (by decide) ?_
  refine bc_isub dX10_isQuarter_8 ?_
  refine bc_callS (z := mX10_within) dX10_isQuarter_9 lX10_384 qX10_within (by rfl) (by rfl) (Nat.le_of_ble_eq_true rfl) (t_within _ _ _) (fun r9 μ9 e9 => ?_)
  obtain ⟨rfl, q9⟩ := e9
  obtain rfl := q9.symm
  refine bc_iload_n dX10_isQuarter_12 rfl ?_
  refine bc_iconst (v := 0) dX10_isQuarter_13 (by decide) ?_
  refine bc_callV (z := mX10_may) (ci := 10) dX10_isQuarter_14 lX10_236 qX10_may (by rfl) (by rfl) (by rfl) (by rfl) (Nat.le_of_ble_eq_true rfl) (t_mayN (k := 0) _ (fun x => hg ((gT_iff (by omega)).mp x)) _ (by decide) h0 hc) (fun r14 μ14 e14 => ?_)
  obtain ⟨rfl, q14⟩ := e14
  obtain rfl := q14.symm
  exact bc_ireturn dX10_isQuarter_17 rfl rfl (⟨rfl, rfl⟩)
theorem t_isMooringY {q code : Int32} (hb : m 0 28 = nI nm) (h6 : nm ≤ 6) (hg : (0 ≤ q ∧ q < nI nm)) (h0 : m 0 0 = 0) (hc : ¬ code = 0) : bc_C (d + 1) LM mX10_isMooring [.ref 0, .int q, .int code] m (fun r ν => r = some (.int 1) ∧ ν = m) := by
  refine bc_enter (by decide) (Nat.le_of_ble_eq_true rfl) rfl ?_
  refine bc_aload_n dX10_isMooring_0 rfl ?_
  refine bc_iload_n dX10_isMooring_1 rfl ?_
  refine bc_iconst (v := 0) dX10_isMooring_2 (by decide) ?_
  refine bc_aload_n dX10_isMooring_3 rfl ?_
  refine bc_geti dX10_isMooring_4 fX10_191 (rfl) rfl ?_
  rw [hb]
  refine bc_iconst (v := 1) dX10_isMooring_7 (by decide) ?_
  refine bc_isub dX10_isMooring_8 ?_
  refine bc_callS (z := mX10_within) dX10_isMooring_9 lX10_384 qX10_within (by rfl) (by rfl) (Nat.le_of_ble_eq_true rfl) (t_within _ _ _) (fun r9 μ9 e9 => ?_)
  obtain ⟨rfl, q9⟩ := e9
  obtain rfl := q9.symm
  refine bc_iload_n dX10_isMooring_12 rfl ?_
  refine bc_iconst (v := 0) dX10_isMooring_13 (by decide) ?_
  refine bc_callV (z := mX10_may) (ci := 10) dX10_isMooring_14 lX10_236 qX10_may (by rfl) (by rfl) (by rfl) (by rfl) (Nat.le_of_ble_eq_true rfl) (t_mayY (k := 0) _ ((gT_iff (by omega)).mpr hg) _ (by decide) h0 hc) (fun r14 μ14 e14 => ?_)
  obtain ⟨rfl, q14⟩ := e14
  obtain rfl := q14.symm
  exact bc_ireturn dX10_isMooring_17 rfl rfl (⟨rfl, rfl⟩)
theorem t_isMooringN {q code : Int32} (hb : m 0 28 = nI nm) (h6 : nm ≤ 6) (hg : ¬ (0 ≤ q ∧ q < nI nm)) (h0 : m 0 0 = 0) (hc : ¬ code = 0) : bc_C (d + 1) LM mX10_isMooring [.ref 0, .int q, .int code] m (fun r ν => r = some (.int 0) ∧ ν = bc_u (bc_u m 0 0 code) 1 0 (m 1 0 + 1)) := by
  refine bc_enter (by decide) (Nat.le_of_ble_eq_true rfl) rfl ?_
  refine bc_aload_n dX10_isMooring_0 rfl ?_
  refine bc_iload_n dX10_isMooring_1 rfl ?_
  refine bc_iconst (v := 0) dX10_isMooring_2 (by decide) ?_
  refine bc_aload_n dX10_isMooring_3 rfl ?_
  refine bc_geti dX10_isMooring_4 fX10_191 (rfl) rfl ?_
  rw [hb]
  refine bc_iconst (v := 1) dX10_isMooring_7 (by decide) ?_
  refine bc_isub dX10_isMooring_8 ?_
  refine bc_callS (z := mX10_within) dX10_isMooring_9 lX10_384 qX10_within (by rfl) (by rfl) (Nat.le_of_ble_eq_true rfl) (t_within _ _ _) (fun r9 μ9 e9 => ?_)
  obtain ⟨rfl, q9⟩ := e9
  obtain rfl := q9.symm
  refine bc_iload_n dX10_isMooring_12 rfl ?_
  refine bc_iconst (v := 0) dX10_isMooring_13 (by decide) ?_
  refine bc_callV (z := mX10_may) (ci := 10) dX10_isMooring_14 lX10_236 qX10_may (by rfl) (by rfl) (by rfl) (by rfl) (Nat.le_of_ble_eq_true rfl) (t_mayN (k := 0) _ (fun x => hg ((gT_iff (by omega)).mp x)) _ (by decide) h0 hc) (fun r14 μ14 e14 => ?_)
  obtain ⟨rfl, q14⟩ := e14
  obtain rfl := q14.symm
  exact bc_ireturn dX10_isMooring_17 rfl rfl (⟨rfl, rfl⟩)
theorem lit_now (h8 : no ≤ 8) : litA no (row 31 M) = lbM (M 32) 0 no := lbM_cg no (fun i hi => row_hl (by omega))
theorem env_rf : envE M M := ⟨fun _ _ _ _ => rfl, rfl, fun _ => rfl⟩
theorem ln_now {q : Nat} (h6 : nq ≤ 6) (h8 : no ≤ 8) (hq : q < nq) : lnA M n no (row 31 M) q = mL M 31 n no (lbM (M 32) 0 no) (M 31 4) q := by
  unfold lnA
  rw [lit_now h8, show row 31 M 2 = M 31 4 from rfl]
  exact (mL_eqV (plug_eqV (n := n) (no := no) env_rf h6) hq).symm
theorem ms_now {j k : Nat} (h6 : nq ≤ 6) (h8 : no ≤ 8) (hk : k ≤ nq) : msA M n no (row 31 M) j k = mS M 31 n no (lbM (M 32) 0 no) (M 31 4) j k := by
  unfold msA
  rw [lit_now h8, show row 31 M 2 = M 31 4 from rfl]
  exact (mS_eqV (plug_eqV (n := n) (no := no) env_rf h6) hk).symm
theorem qS_t : qS m (bc_us (bc_u m 0 0 0) 20 (cpN (m 19) (m 20) 33)) := qS.of (fun i _ _ h => by rw [bc_us_ne _ _ h])
theorem qS_0 : qS m (bc_u m 0 0 0) := qS.of (fun _ _ _ _ => rfl)
theorem row31 {k : Nat} (h : k < 6) : row 31 M k = M 31 (k + 2) := row_v h
theorem t_toldB {w : Int32} (h : ¬ (0 ≤ w ∧ w ≤ 11)) : bc_C (d + 2) LM mX10_told [.ref 0, .int w] m (fun r ν => r = some (.int 0) ∧ ν = refM m 1 1) := by
  refine bc_enter (by decide) (Nat.le_of_ble_eq_true rfl) rfl ?_
  refine bc_aload_n dX10_told_0 rfl ?_
  refine bc_iconst (v := 0) dX10_told_1 (by decide) ?_
  refine bc_put dX10_told_2 fX10_3 ftX10 fpX10_0 rfl rfl (rfl) rfl ?_
  refine bc_aload_n dX10_told_5 rfl ?_
  refine bc_iload_n dX10_told_6 rfl ?_
  refine bc_iconst (v := 0) dX10_told_7 (by decide) ?_
  refine bc_bipush (v := 11) dX10_told_8 (by decide) ?_
  refine bc_callS (z := mX10_within) dX10_told_10 lX10_384 qX10_within (by rfl) (by rfl) (Nat.le_of_ble_eq_true rfl) (t_within _ _ _) (fun r10 μ10 e10 => ?_)
  obtain ⟨rfl, q10⟩ := e10
  obtain rfl := q10.symm
  refine bc_iconst (v := 1) dX10_told_13 (by decide) ?_
  refine bc_iconst (v := 1) dX10_told_14 (by decide) ?_
  refine bc_callV (z := mX10_may) (ci := 10) dX10_told_15 lX10_236 qX10_may (by rfl) (by rfl) (by rfl) (by rfl) (Nat.le_of_ble_eq_true rfl) (t_mayN (k := 1) _ h _ (by decide) rfl (by decide)) (fun r15 μ15 e15 => ?_)
  obtain ⟨rfl, q15⟩ := e15
  obtain rfl := q15.symm
  refine bc_if_ne (tgt := 23) dX10_told_18 (by decide) (fun h18 => absurd h18 (fun q => q rfl)) (fun h18 => ?_)
  refine bc_iconst (v := 0) dX10_told_21 (by decide) ?_
  exact bc_ireturn dX10_told_22 rfl rfl (⟨rfl, rfl⟩)
theorem t_told {w : Nat} (hE : mEnv M m n no nq nr nm) (hR : M 3 2 = nI nr ∧ M 3 3 = nI nm) (hN : sR (row 31 M) (m 19)) (hk : m 0 50 = M 28 1) (hrs : m 0 41 = M 0 11) (hw : w ≤ 11) : bc_C (d + 2) LM mX10_told [.ref 0, .int (nI w)] m (fun r ν => r = some (.int (tolM M no w)) ∧ qS m ν) := by
  refine bc_enter (by decide) (Nat.le_of_ble_eq_true rfl) rfl ?_
  have hs := sR_cp (g := m 20) hN
  have hc : w = 0 ∨ w = 1 ∨ w = 2 ∨ w = 3 ∨ w = 4 ∨ w = 5 ∨ w = 6 ∨ w = 7 ∨ w = 8 ∨ w = 9 ∨ w = 10 ∨ w = 11 := by omega
  rcases hc with rfl | rfl | rfl | rfl | rfl | rfl | rfl | rfl | rfl | rfl | rfl | rfl
  · skip
    refine bc_aload_n dX10_told_0 rfl ?_
    refine bc_iconst (v := 0) dX10_told_1 (by decide) ?_
    refine bc_put dX10_told_2 fX10_3 ftX10 fpX10_0 rfl rfl (rfl) rfl ?_
    refine bc_aload_n dX10_told_5 rfl ?_
    refine bc_iload_n dX10_told_6 rfl ?_
    refine bc_iconst (v := 0) dX10_told_7 (by decide) ?_
    refine bc_bipush (v := 11) dX10_told_8 (by decide) ?_
    refine bc_callS (z := mX10_within) dX10_told_10 lX10_384 qX10_within (by rfl) (by rfl) (Nat.le_of_ble_eq_true rfl) (t_within _ _ _) (fun r10 μ10 e10 => ?_)
    obtain ⟨rfl, q10⟩ := e10
    obtain rfl := q10.symm
    refine bc_iconst (v := 1) dX10_told_13 (by decide) ?_
    refine bc_iconst (v := 1) dX10_told_14 (by decide) ?_
    refine bc_callV (z := mX10_may) (ci := 10) dX10_told_15 lX10_236 qX10_may (by rfl) (by rfl) (by rfl) (by rfl) (Nat.le_of_ble_eq_true rfl) (t_mayY (k := 1) _ (by decide) _ (by decide) rfl (by decide)) (fun r15 μ15 e15 => ?_)
    obtain ⟨rfl, q15⟩ := e15
    obtain rfl := q15.symm
    refine bc_if_ne (tgt := 23) dX10_told_18 (by decide) (fun h18 => ?_) (fun h18 => absurd h18 (by decide))
    refine bc_aload_n dX10_told_23 rfl ?_
    refine bc_callV (z := mX10_take) (ci := 10) dX10_told_24 lX10_333 qX10_take (by rfl) (by rfl) (by rfl) (by rfl) (Nat.le_of_ble_eq_true rfl) (t_take) (fun r24 μ24 e24 => ?_)
    obtain ⟨rfl, q24⟩ := e24
    obtain rfl := q24.symm
    refine bc_iload_n dX10_told_27 rfl ?_
    refine bc_iconst (v := 4) dX10_told_28 (by decide) ?_
    refine bc_icmp_ge (tgt := 72) dX10_told_29 (by decide) (fun h29 => absurd h29 (by decide)) (fun h29 => ?_)
    refine bc_iload_n dX10_told_32 rfl ?_
    refine bc_if_ne (tgt := 43) dX10_told_33 (by decide) (fun h33 => absurd h33 (fun q => q rfl)) (fun h33 => ?_)
    refine bc_aload_n dX10_told_36 rfl ?_
    refine bc_geti dX10_told_37 fX10_182 (rfl) rfl ?_
    refine bc_goto (tgt := 71) dX10_told_40 (by decide) ?_
    exact bc_ireturn dX10_told_71 rfl rfl (⟨congrArg (fun z => some (Value.int z)) (hE.2.1.1.trans hE.1.2.1.1.symm), qS_t⟩)
  · skip
    refine bc_aload_n dX10_told_0 rfl ?_
    refine bc_iconst (v := 0) dX10_told_1 (by decide) ?_
    refine bc_put dX10_told_2 fX10_3 ftX10 fpX10_0 rfl rfl (rfl) rfl ?_
    refine bc_aload_n dX10_told_5 rfl ?_
    refine bc_iload_n dX10_told_6 rfl ?_
    refine bc_iconst (v := 0) dX10_told_7 (by decide) ?_
    refine bc_bipush (v := 11) dX10_told_8 (by decide) ?_
    refine bc_callS (z := mX10_within) dX10_told_10 lX10_384 qX10_within (by rfl) (by rfl) (Nat.le_of_ble_eq_true rfl) (t_within _ _ _) (fun r10 μ10 e10 => ?_)
    obtain ⟨rfl, q10⟩ := e10
    obtain rfl := q10.symm
    refine bc_iconst (v := 1) dX10_told_13 (by decide) ?_
    refine bc_iconst (v := 1) dX10_told_14 (by decide) ?_
    refine bc_callV (z := mX10_may) (ci := 10) dX10_told_15 lX10_236 qX10_may (by rfl) (by rfl) (by rfl) (by rfl) (Nat.le_of_ble_eq_true rfl) (t_mayY (k := 1) _ (by decide) _ (by decide) rfl (by decide)) (fun r15 μ15 e15 => ?_)
    obtain ⟨rfl, q15⟩ := e15
    obtain rfl := q15.symm
    refine bc_if_ne (tgt := 23) dX10_told_18 (by decide) (fun h18 => ?_) (fun h18 => absurd h18 (by decide))
    refine bc_aload_n dX10_told_23 rfl ?_
    refine bc_callV (z := mX10_take) (ci := 10) dX10_told_24 lX10_333 qX10_take (by rfl) (by rfl) (by rfl) (by rfl) (Nat.le_of_ble_eq_true rfl) (t_take) (fun r24 μ24 e24 => ?_)
    obtain ⟨rfl, q24⟩ := e24
    obtain rfl := q24.symm
    refine bc_iload_n dX10_told_27 rfl ?_
    refine bc_iconst (v := 4) dX10_told_28 (by decide) ?_
    refine bc_icmp_ge (tgt := 72) dX10_told_29 (by decide) (fun h29 => absurd h29 (by decide)) (fun h29 => ?_)
    refine bc_iload_n dX10_told_32 rfl ?_
    refine bc_if_ne (tgt := 43) dX10_told_33 (by decide) (fun h33 => ?_) (fun h33 => absurd h33 (by decide))
    refine bc_iload_n dX10_told_43 rfl ?_
    refine bc_iconst (v := 1) dX10_told_44 (by decide) ?_
    refine bc_icmp_ne (tgt := 55) dX10_told_45 (by decide) (fun h45 => absurd h45 (fun q => q rfl)) (fun h45 => ?_)
    refine bc_aload_n dX10_told_48 rfl ?_
    refine bc_geti dX10_told_49 fX10_185 (rfl) rfl ?_
    refine bc_goto (tgt := 71) dX10_told_52 (by decide) ?_
    exact bc_ireturn dX10_told_71 rfl rfl (⟨congrArg (fun z => some (Value.int z)) (hE.2.1.2.1.trans hE.1.1.1.symm), qS_t⟩)
  · skip
    refine bc_aload_n dX10_told_0 rfl ?_
    refine bc_iconst (v := 0) dX10_told_1 (by decide) ?_
    refine bc_put dX10_told_2 fX10_3 ftX10 fpX10_0 rfl rfl (rfl) rfl ?_
    refine bc_aload_n dX10_told_5 rfl ?_
    refine bc_iload_n dX10_told_6 rfl ?_
    refine bc_iconst (v := 0) dX10_told_7 (by decide) ?_
    refine bc_bipush (v := 11) dX10_told_8 (by decide) ?_
    refine bc_callS (z := mX10_within) dX10_told_10 lX10_384 qX10_within (by rfl) (by rfl) (Nat.le_of_ble_eq_true rfl) (t_within _ _ _) (fun r10 μ10 e10 => ?_)
    obtain ⟨rfl, q10⟩ := e10
    obtain rfl := q10.symm
    refine bc_iconst (v := 1) dX10_told_13 (by decide) ?_
    refine bc_iconst (v := 1) dX10_told_14 (by decide) ?_
    refine bc_callV (z := mX10_may) (ci := 10) dX10_told_15 lX10_236 qX10_may (by rfl) (by rfl) (by rfl) (by rfl) (Nat.le_of_ble_eq_true rfl) (t_mayY (k := 1) _ (by decide) _ (by decide) rfl (by decide)) (fun r15 μ15 e15 => ?_)
    obtain ⟨rfl, q15⟩ := e15
    obtain rfl := q15.symm
    refine bc_if_ne (tgt := 23) dX10_told_18 (by decide) (fun h18 => ?_) (fun h18 => absurd h18 (by decide))
    refine bc_aload_n dX10_told_23 rfl ?_
    refine bc_callV (z := mX10_take) (ci := 10) dX10_told_24 lX10_333 qX10_take (by rfl) (by rfl) (by rfl) (by rfl) (Nat.le_of_ble_eq_true rfl) (t_take) (fun r24 μ24 e24 => ?_)
    obtain ⟨rfl, q24⟩ := e24
    obtain rfl := q24.symm
    refine bc_iload_n dX10_told_27 rfl ?_
    refine bc_iconst (v := 4) dX10_told_28 (by decide) ?_
    refine bc_icmp_ge (tgt := 72) dX10_told_29 (by decide) (fun h29 => absurd h29 (by decide)) (fun h29 => ?_)
    refine bc_iload_n dX10_told_32 rfl ?_
    refine bc_if_ne (tgt := 43) dX10_told_33 (by decide) (fun h33 => ?_) (fun h33 => absurd h33 (by decide))
    refine bc_iload_n dX10_told_43 rfl ?_
    refine bc_iconst (v := 1) dX10_told_44 (by decide) ?_
    refine bc_icmp_ne (tgt := 55) dX10_told_45 (by decide) (fun h45 => ?_) (fun h45 => absurd h45 (by decide))
    refine bc_iload_n dX10_told_55 rfl ?_
    refine bc_iconst (v := 2) dX10_told_56 (by decide) ?_
    refine bc_icmp_ne (tgt := 67) dX10_told_57 (by decide) (fun h57 => absurd h57 (fun q => q rfl)) (fun h57 => ?_)
    refine bc_aload_n dX10_told_60 rfl ?_
    refine bc_geti dX10_told_61 fX10_188 (rfl) rfl ?_
    refine bc_goto (tgt := 71) dX10_told_64 (by decide) ?_
    exact bc_ireturn dX10_told_71 rfl rfl (⟨congrArg (fun z => some (Value.int z)) (hE.2.1.2.2.1.trans hR.1.symm), qS_t⟩)
  · skip
    refine bc_aload_n dX10_told_0 rfl ?_
    refine bc_iconst (v := 0) dX10_told_1 (by decide) ?_
    refine bc_put dX10_told_2 fX10_3 ftX10 fpX10_0 rfl rfl (rfl) rfl ?_
    refine bc_aload_n dX10_told_5 rfl ?_
    refine bc_iload_n dX10_told_6 rfl ?_
    refine bc_iconst (v := 0) dX10_told_7 (by decide) ?_
    refine bc_bipush (v := 11) dX10_told_8 (by decide) ?_
    refine bc_callS (z := mX10_within) dX10_told_10 lX10_384 qX10_within (by rfl) (by rfl) (Nat.le_of_ble_eq_true rfl) (t_within _ _ _) (fun r10 μ10 e10 => ?_)
    obtain ⟨rfl, q10⟩ := e10
    obtain rfl := q10.symm
    refine bc_iconst (v := 1) dX10_told_13 (by decide) ?_
    refine bc_iconst (v := 1) dX10_told_14 (by decide) ?_
    refine bc_callV (z := mX10_may) (ci := 10) dX10_told_15 lX10_236 qX10_may (by rfl) (by rfl) (by rfl) (by rfl) (Nat.le_of_ble_eq_true rfl) (t_mayY (k := 1) _ (by decide) _ (by decide) rfl (by decide)) (fun r15 μ15 e15 => ?_)
    obtain ⟨rfl, q15⟩ := e15
    obtain rfl := q15.symm
    refine bc_if_ne (tgt := 23) dX10_told_18 (by decide) (fun h18 => ?_) (fun h18 => absurd h18 (by decide))
    refine bc_aload_n dX10_told_23 rfl ?_
    refine bc_callV (z := mX10_take) (ci := 10) dX10_told_24 lX10_333 qX10_take (by rfl) (by rfl) (by rfl) (by rfl) (Nat.le_of_ble_eq_true rfl) (t_take) (fun r24 μ24 e24 => ?_)
    obtain ⟨rfl, q24⟩ := e24
    obtain rfl := q24.symm
    refine bc_iload_n dX10_told_27 rfl ?_
    refine bc_iconst (v := 4) dX10_told_28 (by decide) ?_
    refine bc_icmp_ge (tgt := 72) dX10_told_29 (by decide) (fun h29 => absurd h29 (by decide)) (fun h29 => ?_)
    refine bc_iload_n dX10_told_32 rfl ?_
    refine bc_if_ne (tgt := 43) dX10_told_33 (by decide) (fun h33 => ?_) (fun h33 => absurd h33 (by decide))
    refine bc_iload_n dX10_told_43 rfl ?_
    refine bc_iconst (v := 1) dX10_told_44 (by decide) ?_
    refine bc_icmp_ne (tgt := 55) dX10_told_45 (by decide) (fun h45 => ?_) (fun h45 => absurd h45 (by decide))
    refine bc_iload_n dX10_told_55 rfl ?_
    refine bc_iconst (v := 2) dX10_told_56 (by decide) ?_
    refine bc_icmp_ne (tgt := 67) dX10_told_57 (by decide) (fun h57 => ?_) (fun h57 => absurd h57 (by decide))
    refine bc_aload_n dX10_told_67 rfl ?_
    refine bc_geti dX10_told_68 fX10_191 (rfl) rfl ?_
    exact bc_ireturn dX10_told_71 rfl rfl (⟨congrArg (fun z => some (Value.int z)) (hE.2.1.2.2.2.trans hR.2.symm), qS_t⟩)
  · skip
    refine bc_aload_n dX10_told_0 rfl ?_
    refine bc_iconst (v := 0) dX10_told_1 (by decide) ?_
    refine bc_put dX10_told_2 fX10_3 ftX10 fpX10_0 rfl rfl (rfl) rfl ?_
    refine bc_aload_n dX10_told_5 rfl ?_
    refine bc_iload_n dX10_told_6 rfl ?_
    refine bc_iconst (v := 0) dX10_told_7 (by decide) ?_
    refine bc_bipush (v := 11) dX10_told_8 (by decide) ?_
    refine bc_callS (z := mX10_within) dX10_told_10 lX10_384 qX10_within (by rfl) (by rfl) (Nat.le_of_ble_eq_true rfl) (t_within _ _ _) (fun r10 μ10 e10 => ?_)
    obtain ⟨rfl, q10⟩ := e10
    obtain rfl := q10.symm
    refine bc_iconst (v := 1) dX10_told_13 (by decide) ?_
    refine bc_iconst (v := 1) dX10_told_14 (by decide) ?_
    refine bc_callV (z := mX10_may) (ci := 10) dX10_told_15 lX10_236 qX10_may (by rfl) (by rfl) (by rfl) (by rfl) (Nat.le_of_ble_eq_true rfl) (t_mayY (k := 1) _ (by decide) _ (by decide) rfl (by decide)) (fun r15 μ15 e15 => ?_)
    obtain ⟨rfl, q15⟩ := e15
    obtain rfl := q15.symm
    refine bc_if_ne (tgt := 23) dX10_told_18 (by decide) (fun h18 => ?_) (fun h18 => absurd h18 (by decide))
    refine bc_aload_n dX10_told_23 rfl ?_
    refine bc_callV (z := mX10_take) (ci := 10) dX10_told_24 lX10_333 qX10_take (by rfl) (by rfl) (by rfl) (by rfl) (Nat.le_of_ble_eq_true rfl) (t_take) (fun r24 μ24 e24 => ?_)
    obtain ⟨rfl, q24⟩ := e24
    obtain rfl := q24.symm
    refine bc_iload_n dX10_told_27 rfl ?_
    refine bc_iconst (v := 4) dX10_told_28 (by decide) ?_
    refine bc_icmp_ge (tgt := 72) dX10_told_29 (by decide) (fun h29 => ?_) (fun h29 => absurd h29 (by decide))
    refine bc_iload_n dX10_told_72 rfl ?_
    refine bc_bipush (v := 9) dX10_told_73 (by decide) ?_
    refine bc_icmp_ge (tgt := 128) dX10_told_75 (by decide) (fun h75 => absurd h75 (by decide)) (fun h75 => ?_)
    refine bc_aload_n dX10_told_78 rfl ?_
    refine bc_getr dX10_told_79 fX10_74 (rfl) rfl ?_
    refine bc_iload_n dX10_told_82 rfl ?_
    refine bc_iconst (v := 4) dX10_told_83 (by decide) ?_
    refine bc_icmp_ne (tgt := 92) dX10_told_84 (by decide) (fun h84 => absurd h84 (fun q => q rfl)) (fun h84 => ?_)
    refine bc_bipush (v := 32) dX10_told_87 (by decide) ?_
    refine bc_goto (tgt := 126) dX10_told_89 (by decide) ?_
    refine bc_ialdE (k := 32) dX10_told_126 (rfl) (rfl) (⟨by omega, by decide⟩) ?_
    exact bc_ireturn dX10_told_127 rfl rfl (⟨congrArg (fun z => some (Value.int z)) (hN.2.2.2.2.2.2.2.2), qS_t⟩)
  · skip
    refine bc_aload_n dX10_told_0 rfl ?_
    refine bc_iconst (v := 0) dX10_told_1 (by decide) ?_
    refine bc_put dX10_told_2 fX10_3 ftX10 fpX10_0 rfl rfl (rfl) rfl ?_
    refine bc_aload_n dX10_told_5 rfl ?_
    refine bc_iload_n dX10_told_6 rfl ?_
    refine bc_iconst (v := 0) dX10_told_7 (by decide) ?_
    refine bc_bipush (v := 11) dX10_told_8 (by decide) ?_
    refine bc_callS (z := mX10_within) dX10_told_10 lX10_384 qX10_within (by rfl) (by rfl) (Nat.le_of_ble_eq_true rfl) (t_within _ _ _) (fun r10 μ10 e10 => ?_)
    obtain ⟨rfl, q10⟩ := e10
    obtain rfl := q10.symm
    refine bc_iconst (v := 1) dX10_told_13 (by decide) ?_
    refine bc_iconst (v := 1) dX10_told_14 (by decide) ?_
    refine bc_callV (z := mX10_may) (ci := 10) dX10_told_15 lX10_236 qX10_may (by rfl) (by rfl) (by rfl) (by rfl) (Nat.le_of_ble_eq_true rfl) (t_mayY (k := 1) _ (by decide) _ (by decide) rfl (by decide)) (fun r15 μ15 e15 => ?_)
    obtain ⟨rfl, q15⟩ := e15
    obtain rfl := q15.symm
    refine bc_if_ne (tgt := 23) dX10_told_18 (by decide) (fun h18 => ?_) (fun h18 => absurd h18 (by decide))
    refine bc_aload_n dX10_told_23 rfl ?_
    refine bc_callV (z := mX10_take) (ci := 10) dX10_told_24 lX10_333 qX10_take (by rfl) (by rfl) (by rfl) (by rfl) (Nat.le_of_ble_eq_true rfl) (t_take) (fun r24 μ24 e24 => ?_)
    obtain ⟨rfl, q24⟩ := e24
    obtain rfl := q24.symm
    refine bc_iload_n dX10_told_27 rfl ?_
    refine bc_iconst (v := 4) dX10_told_28 (by decide) ?_
    refine bc_icmp_ge (tgt := 72) dX10_told_29 (by decide) (fun h29 => ?_) (fun h29 => absurd h29 (by decide))
    refine bc_iload_n dX10_told_72 rfl ?_
    refine bc_bipush (v := 9) dX10_told_73 (by decide) ?_
    refine bc_icmp_ge (tgt := 128) dX10_told_75 (by decide) (fun h75 => absurd h75 (by decide)) (fun h75 => ?_)
    refine bc_aload_n dX10_told_78 rfl ?_
    refine bc_getr dX10_told_79 fX10_74 (rfl) rfl ?_
    refine bc_iload_n dX10_told_82 rfl ?_
    refine bc_iconst (v := 4) dX10_told_83 (by decide) ?_
    refine bc_icmp_ne (tgt := 92) dX10_told_84 (by decide) (fun h84 => ?_) (fun h84 => absurd h84 (by decide))
    refine bc_iload_n dX10_told_92 rfl ?_
    refine bc_iconst (v := 5) dX10_told_93 (by decide) ?_
    refine bc_icmp_ne (tgt := 102) dX10_told_94 (by decide) (fun h94 => absurd h94 (fun q => q rfl)) (fun h94 => ?_)
    refine bc_bipush (v := 28) dX10_told_97 (by decide) ?_
    refine bc_goto (tgt := 126) dX10_told_99 (by decide) ?_
    refine bc_ialdE (k := 28) dX10_told_126 (rfl) (rfl) (⟨by omega, by decide⟩) ?_
    exact bc_ireturn dX10_told_127 rfl rfl (⟨congrArg (fun z => some (Value.int z)) (hN.2.2.2.2.1), qS_t⟩)
  · skip
    refine bc_aload_n dX10_told_0 rfl ?_
    refine bc_iconst (v := 0) dX10_told_1 (by decide) ?_
    refine bc_put dX10_told_2 fX10_3 ftX10 fpX10_0 rfl rfl (rfl) rfl ?_
    refine bc_aload_n dX10_told_5 rfl ?_
    refine bc_iload_n dX10_told_6 rfl ?_
    refine bc_iconst (v := 0) dX10_told_7 (by decide) ?_
    refine bc_bipush (v := 11) dX10_told_8 (by decide) ?_
    refine bc_callS (z := mX10_within) dX10_told_10 lX10_384 qX10_within (by rfl) (by rfl) (Nat.le_of_ble_eq_true rfl) (t_within _ _ _) (fun r10 μ10 e10 => ?_)
    obtain ⟨rfl, q10⟩ := e10
    obtain rfl := q10.symm
    refine bc_iconst (v := 1) dX10_told_13 (by decide) ?_
    refine bc_iconst (v := 1) dX10_told_14 (by decide) ?_
    refine bc_callV (z := mX10_may) (ci := 10) dX10_told_15 lX10_236 qX10_may (by rfl) (by rfl) (by rfl) (by rfl) (Nat.le_of_ble_eq_true rfl) (t_mayY (k := 1) _ (by decide) _ (by decide) rfl (by decide)) (fun r15 μ15 e15 => ?_)
    obtain ⟨rfl, q15⟩ := e15
    obtain rfl := q15.symm
    refine bc_if_ne (tgt := 23) dX10_told_18 (by decide) (fun h18 => ?_) (fun h18 => absurd h18 (by decide))
    refine bc_aload_n dX10_told_23 rfl ?_
    refine bc_callV (z := mX10_take) (ci := 10) dX10_told_24 lX10_333 qX10_take (by rfl) (by rfl) (by rfl) (by rfl) (Nat.le_of_ble_eq_true rfl) (t_take) (fun r24 μ24 e24 => ?_)
    obtain ⟨rfl, q24⟩ := e24
    obtain rfl := q24.symm
    refine bc_iload_n dX10_told_27 rfl ?_
    refine bc_iconst (v := 4) dX10_told_28 (by decide) ?_
    refine bc_icmp_ge (tgt := 72) dX10_told_29 (by decide) (fun h29 => ?_) (fun h29 => absurd h29 (by decide))
    refine bc_iload_n dX10_told_72 rfl ?_
    refine bc_bipush (v := 9) dX10_told_73 (by decide) ?_
    refine bc_icmp_ge (tgt := 128) dX10_told_75 (by decide) (fun h75 => absurd h75 (by decide)) (fun h75 => ?_)
    refine bc_aload_n dX10_told_78 rfl ?_
    refine bc_getr dX10_told_79 fX10_74 (rfl) rfl ?_
    refine bc_iload_n dX10_told_82 rfl ?_
    refine bc_iconst (v := 4) dX10_told_83 (by decide) ?_
    refine bc_icmp_ne (tgt := 92) dX10_told_84 (by decide) (fun h84 => ?_) (fun h84 => absurd h84 (by decide))
    refine bc_iload_n dX10_told_92 rfl ?_
    refine bc_iconst (v := 5) dX10_told_93 (by decide) ?_
    refine bc_icmp_ne (tgt := 102) dX10_told_94 (by decide) (fun h94 => ?_) (fun h94 => absurd h94 (by decide))
    refine bc_iload_n dX10_told_102 rfl ?_
    refine bc_bipush (v := 6) dX10_told_103 (by decide) ?_
    refine bc_icmp_ne (tgt := 113) dX10_told_105 (by decide) (fun h105 => absurd h105 (fun q => q rfl)) (fun h105 => ?_)
    refine bc_bipush (v := 29) dX10_told_108 (by decide) ?_
    refine bc_goto (tgt := 126) dX10_told_110 (by decide) ?_
    refine bc_ialdE (k := 29) dX10_told_126 (rfl) (rfl) (⟨by omega, by decide⟩) ?_
    exact bc_ireturn dX10_told_127 rfl rfl (⟨congrArg (fun z => some (Value.int z)) (hN.2.2.2.2.2.1), qS_t⟩)
  · skip
    refine bc_aload_n dX10_told_0 rfl ?_
    refine bc_iconst (v := 0) dX10_told_1 (by decide) ?_
    refine bc_put dX10_told_2 fX10_3 ftX10 fpX10_0 rfl rfl (rfl) rfl ?_
    refine bc_aload_n dX10_told_5 rfl ?_
    refine bc_iload_n dX10_told_6 rfl ?_
    refine bc_iconst (v := 0) dX10_told_7 (by decide) ?_
    refine bc_bipush (v := 11) dX10_told_8 (by decide) ?_
    refine bc_callS (z := mX10_within) dX10_told_10 lX10_384 qX10_within (by rfl) (by rfl) (Nat.le_of_ble_eq_true rfl) (t_within _ _ _) (fun r10 μ10 e10 => ?_)
    obtain ⟨rfl, q10⟩ := e10
    obtain rfl := q10.symm
    refine bc_iconst (v := 1) dX10_told_13 (by decide) ?_
    refine bc_iconst (v := 1) dX10_told_14 (by decide) ?_
    refine bc_callV (z := mX10_may) (ci := 10) dX10_told_15 lX10_236 qX10_may (by rfl) (by rfl) (by rfl) (by rfl) (Nat.le_of_ble_eq_true rfl) (t_mayY (k := 1) _ (by decide) _ (by decide) rfl (by decide)) (fun r15 μ15 e15 => ?_)
    obtain ⟨rfl, q15⟩ := e15
    obtain rfl := q15.symm
    refine bc_if_ne (tgt := 23) dX10_told_18 (by decide) (fun h18 => ?_) (fun h18 => absurd h18 (by decide))
    refine bc_aload_n dX10_told_23 rfl ?_
    refine bc_callV (z := mX10_take) (ci := 10) dX10_told_24 lX10_333 qX10_take (by rfl) (by rfl) (by rfl) (by rfl) (Nat.le_of_ble_eq_true rfl) (t_take) (fun r24 μ24 e24 => ?_)
    obtain ⟨rfl, q24⟩ := e24
    obtain rfl := q24.symm
    refine bc_iload_n dX10_told_27 rfl ?_
    refine bc_iconst (v := 4) dX10_told_28 (by decide) ?_
    refine bc_icmp_ge (tgt := 72) dX10_told_29 (by decide) (fun h29 => ?_) (fun h29 => absurd h29 (by decide))
    refine bc_iload_n dX10_told_72 rfl ?_
    refine bc_bipush (v := 9) dX10_told_73 (by decide) ?_
    refine bc_icmp_ge (tgt := 128) dX10_told_75 (by decide) (fun h75 => absurd h75 (by decide)) (fun h75 => ?_)
    refine bc_aload_n dX10_told_78 rfl ?_
    refine bc_getr dX10_told_79 fX10_74 (rfl) rfl ?_
    refine bc_iload_n dX10_told_82 rfl ?_
    refine bc_iconst (v := 4) dX10_told_83 (by decide) ?_
    refine bc_icmp_ne (tgt := 92) dX10_told_84 (by decide) (fun h84 => ?_) (fun h84 => absurd h84 (by decide))
    refine bc_iload_n dX10_told_92 rfl ?_
    refine bc_iconst (v := 5) dX10_told_93 (by decide) ?_
    refine bc_icmp_ne (tgt := 102) dX10_told_94 (by decide) (fun h94 => ?_) (fun h94 => absurd h94 (by decide))
    refine bc_iload_n dX10_told_102 rfl ?_
    refine bc_bipush (v := 6) dX10_told_103 (by decide) ?_
    refine bc_icmp_ne (tgt := 113) dX10_told_105 (by decide) (fun h105 => ?_) (fun h105 => absurd h105 (by decide))
    refine bc_iload_n dX10_told_113 rfl ?_
    refine bc_bipush (v := 7) dX10_told_114 (by decide) ?_
    refine bc_icmp_ne (tgt := 124) dX10_told_116 (by decide) (fun h116 => absurd h116 (fun q => q rfl)) (fun h116 => ?_)
    refine bc_bipush (v := 30) dX10_told_119 (by decide) ?_
    refine bc_goto (tgt := 126) dX10_told_121 (by decide) ?_
    refine bc_ialdE (k := 30) dX10_told_126 (rfl) (rfl) (⟨by omega, by decide⟩) ?_
    exact bc_ireturn dX10_told_127 rfl rfl (⟨congrArg (fun z => some (Value.int z)) (hN.2.2.2.2.2.2.1), qS_t⟩)
  · skip
    refine bc_aload_n dX10_told_0 rfl ?_
    refine bc_iconst (v := 0) dX10_told_1 (by decide) ?_
    refine bc_put dX10_told_2 fX10_3 ftX10 fpX10_0 rfl rfl (rfl) rfl ?_
    refine bc_aload_n dX10_told_5 rfl ?_
    refine bc_iload_n dX10_told_6 rfl ?_
    refine bc_iconst (v := 0) dX10_told_7 (by decide) ?_
    refine bc_bipush (v := 11) dX10_told_8 (by decide) ?_
    refine bc_callS (z := mX10_within) dX10_told_10 lX10_384 qX10_within (by rfl) (by rfl) (Nat.le_of_ble_eq_true rfl) (t_within _ _ _) (fun r10 μ10 e10 => ?_)
    obtain ⟨rfl, q10⟩ := e10
    obtain rfl := q10.symm
    refine bc_iconst (v := 1) dX10_told_13 (by decide) ?_
    refine bc_iconst (v := 1) dX10_told_14 (by decide) ?_
    refine bc_callV (z := mX10_may) (ci := 10) dX10_told_15 lX10_236 qX10_may (by rfl) (by rfl) (by rfl) (by rfl) (Nat.le_of_ble_eq_true rfl) (t_mayY (k := 1) _ (by decide) _ (by decide) rfl (by decide)) (fun r15 μ15 e15 => ?_)
    obtain ⟨rfl, q15⟩ := e15
    obtain rfl := q15.symm
    refine bc_if_ne (tgt := 23) dX10_told_18 (by decide) (fun h18 => ?_) (fun h18 => absurd h18 (by decide))
    refine bc_aload_n dX10_told_23 rfl ?_
    refine bc_callV (z := mX10_take) (ci := 10) dX10_told_24 lX10_333 qX10_take (by rfl) (by rfl) (by rfl) (by rfl) (Nat.le_of_ble_eq_true rfl) (t_take) (fun r24 μ24 e24 => ?_)
    obtain ⟨rfl, q24⟩ := e24
    obtain rfl := q24.symm
    refine bc_iload_n dX10_told_27 rfl ?_
    refine bc_iconst (v := 4) dX10_told_28 (by decide) ?_
    refine bc_icmp_ge (tgt := 72) dX10_told_29 (by decide) (fun h29 => ?_) (fun h29 => absurd h29 (by decide))
    refine bc_iload_n dX10_told_72 rfl ?_
    refine bc_bipush (v := 9) dX10_told_73 (by decide) ?_
    refine bc_icmp_ge (tgt := 128) dX10_told_75 (by decide) (fun h75 => absurd h75 (by decide)) (fun h75 => ?_)
    refine bc_aload_n dX10_told_78 rfl ?_
    refine bc_getr dX10_told_79 fX10_74 (rfl) rfl ?_
    refine bc_iload_n dX10_told_82 rfl ?_
    refine bc_iconst (v := 4) dX10_told_83 (by decide) ?_
    refine bc_icmp_ne (tgt := 92) dX10_told_84 (by decide) (fun h84 => ?_) (fun h84 => absurd h84 (by decide))
    refine bc_iload_n dX10_told_92 rfl ?_
    refine bc_iconst (v := 5) dX10_told_93 (by decide) ?_
    refine bc_icmp_ne (tgt := 102) dX10_told_94 (by decide) (fun h94 => ?_) (fun h94 => absurd h94 (by decide))
    refine bc_iload_n dX10_told_102 rfl ?_
    refine bc_bipush (v := 6) dX10_told_103 (by decide) ?_
    refine bc_icmp_ne (tgt := 113) dX10_told_105 (by decide) (fun h105 => ?_) (fun h105 => absurd h105 (by decide))
    refine bc_iload_n dX10_told_113 rfl ?_
    refine bc_bipush (v := 7) dX10_told_114 (by decide) ?_
    refine bc_icmp_ne (tgt := 124) dX10_told_116 (by decide) (fun h116 => ?_) (fun h116 => absurd h116 (by decide))
    refine bc_bipush (v := 31) dX10_told_124 (by decide) ?_
    refine bc_ialdE (k := 31) dX10_told_126 (rfl) (rfl) (⟨by omega, by decide⟩) ?_
    exact bc_ireturn dX10_told_127 rfl rfl (⟨congrArg (fun z => some (Value.int z)) (hN.2.2.2.2.2.2.2.1), qS_t⟩)
  · skip
    refine bc_aload_n dX10_told_0 rfl ?_
    refine bc_iconst (v := 0) dX10_told_1 (by decide) ?_
    refine bc_put dX10_told_2 fX10_3 ftX10 fpX10_0 rfl rfl (rfl) rfl ?_
    refine bc_aload_n dX10_told_5 rfl ?_
    refine bc_iload_n dX10_told_6 rfl ?_
    refine bc_iconst (v := 0) dX10_told_7 (by decide) ?_
    refine bc_bipush (v := 11) dX10_told_8 (by decide) ?_
    refine bc_callS (z := mX10_within) dX10_told_10 lX10_384 qX10_within (by rfl) (by rfl) (Nat.le_of_ble_eq_true rfl) (t_within _ _ _) (fun r10 μ10 e10 => ?_)
    obtain ⟨rfl, q10⟩ := e10
    obtain rfl := q10.symm
    refine bc_iconst (v := 1) dX10_told_13 (by decide) ?_
    refine bc_iconst (v := 1) dX10_told_14 (by decide) ?_
    refine bc_callV (z := mX10_may) (ci := 10) dX10_told_15 lX10_236 qX10_may (by rfl) (by rfl) (by rfl) (by rfl) (Nat.le_of_ble_eq_true rfl) (t_mayY (k := 1) _ (by decide) _ (by decide) rfl (by decide)) (fun r15 μ15 e15 => ?_)
    obtain ⟨rfl, q15⟩ := e15
    obtain rfl := q15.symm
    refine bc_if_ne (tgt := 23) dX10_told_18 (by decide) (fun h18 => ?_) (fun h18 => absurd h18 (by decide))
    refine bc_aload_n dX10_told_23 rfl ?_
    refine bc_callV (z := mX10_take) (ci := 10) dX10_told_24 lX10_333 qX10_take (by rfl) (by rfl) (by rfl) (by rfl) (Nat.le_of_ble_eq_true rfl) (t_take) (fun r24 μ24 e24 => ?_)
    obtain ⟨rfl, q24⟩ := e24
    obtain rfl := q24.symm
    refine bc_iload_n dX10_told_27 rfl ?_
    refine bc_iconst (v := 4) dX10_told_28 (by decide) ?_
    refine bc_icmp_ge (tgt := 72) dX10_told_29 (by decide) (fun h29 => ?_) (fun h29 => absurd h29 (by decide))
    refine bc_iload_n dX10_told_72 rfl ?_
    refine bc_bipush (v := 9) dX10_told_73 (by decide) ?_
    refine bc_icmp_ge (tgt := 128) dX10_told_75 (by decide) (fun h75 => ?_) (fun h75 => absurd h75 (by decide))
    refine bc_iload_n dX10_told_128 rfl ?_
    refine bc_bipush (v := 9) dX10_told_129 (by decide) ?_
    refine bc_icmp_ne (tgt := 141) dX10_told_131 (by decide) (fun h131 => absurd h131 (fun q => q rfl)) (fun h131 => ?_)
    refine bc_aload_n dX10_told_134 rfl ?_
    refine bc_geti dX10_told_135 fX10_201 (rfl) rfl ?_
    refine bc_goto (tgt := 158) dX10_told_138 (by decide) ?_
    exact bc_ireturn dX10_told_158 rfl rfl (⟨congrArg (fun z => some (Value.int z)) (hk), qS_t⟩)
  · skip
    refine bc_aload_n dX10_told_0 rfl ?_
    refine bc_iconst (v := 0) dX10_told_1 (by decide) ?_
    refine bc_put dX10_told_2 fX10_3 ftX10 fpX10_0 rfl rfl (rfl) rfl ?_
    refine bc_aload_n dX10_told_5 rfl ?_
    refine bc_iload_n dX10_told_6 rfl ?_
    refine bc_iconst (v := 0) dX10_told_7 (by decide) ?_
    refine bc_bipush (v := 11) dX10_told_8 (by decide) ?_
    refine bc_callS (z := mX10_within) dX10_told_10 lX10_384 qX10_within (by rfl) (by rfl) (Nat.le_of_ble_eq_true rfl) (t_within _ _ _) (fun r10 μ10 e10 => ?_)
    obtain ⟨rfl, q10⟩ := e10
    obtain rfl := q10.symm
    refine bc_iconst (v := 1) dX10_told_13 (by decide) ?_
    refine bc_iconst (v := 1) dX10_told_14 (by decide) ?_
    refine bc_callV (z := mX10_may) (ci := 10) dX10_told_15 lX10_236 qX10_may (by rfl) (by rfl) (by rfl) (by rfl) (Nat.le_of_ble_eq_true rfl) (t_mayY (k := 1) _ (by decide) _ (by decide) rfl (by decide)) (fun r15 μ15 e15 => ?_)
    obtain ⟨rfl, q15⟩ := e15
    obtain rfl := q15.symm
    refine bc_if_ne (tgt := 23) dX10_told_18 (by decide) (fun h18 => ?_) (fun h18 => absurd h18 (by decide))
    refine bc_aload_n dX10_told_23 rfl ?_
    refine bc_callV (z := mX10_take) (ci := 10) dX10_told_24 lX10_333 qX10_take (by rfl) (by rfl) (by rfl) (by rfl) (Nat.le_of_ble_eq_true rfl) (t_take) (fun r24 μ24 e24 => ?_)
    obtain ⟨rfl, q24⟩ := e24
    obtain rfl := q24.symm
    refine bc_iload_n dX10_told_27 rfl ?_
    refine bc_iconst (v := 4) dX10_told_28 (by decide) ?_
    refine bc_icmp_ge (tgt := 72) dX10_told_29 (by decide) (fun h29 => ?_) (fun h29 => absurd h29 (by decide))
    refine bc_iload_n dX10_told_72 rfl ?_
    refine bc_bipush (v := 9) dX10_told_73 (by decide) ?_
    refine bc_icmp_ge (tgt := 128) dX10_told_75 (by decide) (fun h75 => ?_) (fun h75 => absurd h75 (by decide))
    refine bc_iload_n dX10_told_128 rfl ?_
    refine bc_bipush (v := 9) dX10_told_129 (by decide) ?_
    refine bc_icmp_ne (tgt := 141) dX10_told_131 (by decide) (fun h131 => ?_) (fun h131 => absurd h131 (by decide))
    refine bc_iload_n dX10_told_141 rfl ?_
    refine bc_bipush (v := 10) dX10_told_142 (by decide) ?_
    refine bc_icmp_ne (tgt := 154) dX10_told_144 (by decide) (fun h144 => absurd h144 (fun q => q rfl)) (fun h144 => ?_)
    refine bc_aload_n dX10_told_147 rfl ?_
    refine bc_geti dX10_told_148 fX10_210 (rfl) rfl ?_
    refine bc_goto (tgt := 158) dX10_told_151 (by decide) ?_
    exact bc_ireturn dX10_told_158 rfl rfl (⟨congrArg (fun z => some (Value.int z)) (hrs), qS_t⟩)
  · skip
    refine bc_aload_n dX10_told_0 rfl ?_
    refine bc_iconst (v := 0) dX10_told_1 (by decide) ?_
    refine bc_put dX10_told_2 fX10_3 ftX10 fpX10_0 rfl rfl (rfl) rfl ?_
    refine bc_aload_n dX10_told_5 rfl ?_
    refine bc_iload_n dX10_told_6 rfl ?_
    refine bc_iconst (v := 0) dX10_told_7 (by decide) ?_
    refine bc_bipush (v := 11) dX10_told_8 (by decide) ?_
    refine bc_callS (z := mX10_within) dX10_told_10 lX10_384 qX10_within (by rfl) (by rfl) (Nat.le_of_ble_eq_true rfl) (t_within _ _ _) (fun r10 μ10 e10 => ?_)
    obtain ⟨rfl, q10⟩ := e10
    obtain rfl := q10.symm
    refine bc_iconst (v := 1) dX10_told_13 (by decide) ?_
    refine bc_iconst (v := 1) dX10_told_14 (by decide) ?_
    refine bc_callV (z := mX10_may) (ci := 10) dX10_told_15 lX10_236 qX10_may (by rfl) (by rfl) (by rfl) (by rfl) (Nat.le_of_ble_eq_true rfl) (t_mayY (k := 1) _ (by decide) _ (by decide) rfl (by decide)) (fun r15 μ15 e15 => ?_)
    obtain ⟨rfl, q15⟩ := e15
    obtain rfl := q15.symm
    refine bc_if_ne (tgt := 23) dX10_told_18 (by decide) (fun h18 => ?_) (fun h18 => absurd h18 (by decide))
    refine bc_aload_n dX10_told_23 rfl ?_
    refine bc_callV (z := mX10_take) (ci := 10) dX10_told_24 lX10_333 qX10_take (by rfl) (by rfl) (by rfl) (by rfl) (Nat.le_of_ble_eq_true rfl) (t_take) (fun r24 μ24 e24 => ?_)
    obtain ⟨rfl, q24⟩ := e24
    obtain rfl := q24.symm
    refine bc_iload_n dX10_told_27 rfl ?_
    refine bc_iconst (v := 4) dX10_told_28 (by decide) ?_
    refine bc_icmp_ge (tgt := 72) dX10_told_29 (by decide) (fun h29 => ?_) (fun h29 => absurd h29 (by decide))
    refine bc_iload_n dX10_told_72 rfl ?_
    refine bc_bipush (v := 9) dX10_told_73 (by decide) ?_
    refine bc_icmp_ge (tgt := 128) dX10_told_75 (by decide) (fun h75 => ?_) (fun h75 => absurd h75 (by decide))
    refine bc_iload_n dX10_told_128 rfl ?_
    refine bc_bipush (v := 9) dX10_told_129 (by decide) ?_
    refine bc_icmp_ne (tgt := 141) dX10_told_131 (by decide) (fun h131 => ?_) (fun h131 => absurd h131 (by decide))
    refine bc_iload_n dX10_told_141 rfl ?_
    refine bc_bipush (v := 10) dX10_told_142 (by decide) ?_
    refine bc_icmp_ne (tgt := 154) dX10_told_144 (by decide) (fun h144 => ?_) (fun h144 => absurd h144 (by decide))
    refine bc_aload_n dX10_told_154 rfl ?_
    refine bc_callV (z := mX10_litNow) (ci := 10) dX10_told_155 lX10_387 qX10_litNow (by rfl) (by rfl) (by rfl) (by rfl) (Nat.le_of_ble_eq_true rfl) (t_litNow (A := row 31 M) hE.2.1.2.1 hE.o8 hs) (fun r155 μ155 e155 => ?_)
    obtain ⟨rfl, q155⟩ := e155
    obtain rfl := q155.symm
    exact bc_ireturn dX10_told_158 rfl rfl (⟨congrArg (fun z => some (Value.int z)) (lit_now hE.o8), qS_t⟩)
theorem t_quarterB1 {q w : Int32} (hE : mEnv M m n no nq nr nm) (h : ¬ (0 ≤ q ∧ q < nI nq)) : bc_C (d + 2) LM mX10_quarter [.ref 0, .int q, .int w] m (fun r ν => r = some (.int 0) ∧ ν = refM m 1 0) := by
  refine bc_enter (by decide) (Nat.le_of_ble_eq_true rfl) rfl ?_
  refine bc_aload_n dX10_quarter_0 rfl ?_
  refine bc_iconst (v := 0) dX10_quarter_1 (by decide) ?_
  refine bc_put dX10_quarter_2 fX10_3 ftX10 fpX10_0 rfl rfl (rfl) rfl ?_
  refine bc_aload_n dX10_quarter_5 rfl ?_
  refine bc_iload_n dX10_quarter_6 rfl ?_
  refine bc_iconst (v := 1) dX10_quarter_7 (by decide) ?_
  refine bc_callV (z := mX10_isQuarter) (ci := 10) dX10_quarter_8 lX10_390 qX10_isQuarter (by rfl) (by rfl) (by rfl) (by rfl) (Nat.le_of_ble_eq_true rfl) (t_isQuarterN hE.2.1.1 hE.q6 h rfl (by decide)) (fun r8 μ8 e8 => ?_)
  obtain ⟨rfl, q8⟩ := e8
  obtain rfl := q8.symm
  refine bc_if_eq (tgt := 30) dX10_quarter_11 (by decide) (fun h11 => ?_) (fun h11 => absurd h11 (fun q => q rfl))
  refine bc_iconst (v := 0) dX10_quarter_30 (by decide) ?_
  exact bc_ireturn dX10_quarter_31 rfl rfl (⟨rfl, rfl⟩)
theorem t_quarterB2 {q w : Int32} (hE : mEnv M m n no nq nr nm) (hq : 0 ≤ q ∧ q < nI nq) (h : ¬ (0 ≤ w ∧ w ≤ 6)) : bc_C (d + 2) LM mX10_quarter [.ref 0, .int q, .int w] m (fun r ν => r = some (.int 0) ∧ ν = refM m 2 1) := by
  refine bc_enter (by decide) (Nat.le_of_ble_eq_true rfl) rfl ?_
  refine bc_aload_n dX10_quarter_0 rfl ?_
  refine bc_iconst (v := 0) dX10_quarter_1 (by decide) ?_
  refine bc_put dX10_quarter_2 fX10_3 ftX10 fpX10_0 rfl rfl (rfl) rfl ?_
  refine bc_aload_n dX10_quarter_5 rfl ?_
  refine bc_iload_n dX10_quarter_6 rfl ?_
  refine bc_iconst (v := 1) dX10_quarter_7 (by decide) ?_
  refine bc_callV (z := mX10_isQuarter) (ci := 10) dX10_quarter_8 lX10_390 qX10_isQuarter (by rfl) (by rfl) (by rfl) (by rfl) (Nat.le_of_ble_eq_true rfl) (t_isQuarterY hE.2.1.1 hE.q6 hq rfl (by decide)) (fun r8 μ8 e8 => ?_)
  obtain ⟨rfl, q8⟩ := e8
  obtain rfl := q8.symm
  refine bc_if_eq (tgt := 30) dX10_quarter_11 (by decide) (fun h11 => absurd h11 (by decide)) (fun h11 => ?_)
  refine bc_aload_n dX10_quarter_14 rfl ?_
  refine bc_iload_n dX10_quarter_15 rfl ?_
  refine bc_iconst (v := 0) dX10_quarter_16 (by decide) ?_
  refine bc_bipush (v := 6) dX10_quarter_17 (by decide) ?_
  refine bc_callS (z := mX10_within) dX10_quarter_19 lX10_384 qX10_within (by rfl) (by rfl) (Nat.le_of_ble_eq_true rfl) (t_within _ _ _) (fun r19 μ19 e19 => ?_)
  obtain ⟨rfl, q19⟩ := e19
  obtain rfl := q19.symm
  refine bc_iconst (v := 2) dX10_quarter_22 (by decide) ?_
  refine bc_iconst (v := 1) dX10_quarter_23 (by decide) ?_
  refine bc_callV (z := mX10_may) (ci := 10) dX10_quarter_24 lX10_236 qX10_may (by rfl) (by rfl) (by rfl) (by rfl) (Nat.le_of_ble_eq_true rfl) (t_mayN (k := 1) _ h _ (by decide) rfl (by decide)) (fun r24 μ24 e24 => ?_)
  obtain ⟨rfl, q24⟩ := e24
  obtain rfl := q24.symm
  refine bc_if_ne (tgt := 32) dX10_quarter_27 (by decide) (fun h27 => absurd h27 (fun q => q rfl)) (fun h27 => ?_)
  refine bc_iconst (v := 0) dX10_quarter_30 (by decide) ?_
  exact bc_ireturn dX10_quarter_31 rfl rfl (⟨rfl, rfl⟩)
theorem gq {q b : Nat} (h : q < b) (hb : b ≤ 1000) : (0 : Int32) ≤ nI q ∧ nI q < nI b := (gT_iff hb).mp (gT_N h hb)
theorem t_quarter {q w : Nat} (hE : mEnv M m n no nq nr nm) (hN : sR (row 31 M) (m 19)) (hA : okA no (row 31 M)) (hq : q < nq) (hw : w ≤ 6) : bc_C (d + 5) LM mX10_quarter [.ref 0, .int (nI q), .int (nI w)] m (fun r ν => r = some (.int (quaM M n no q w)) ∧ qS m ν) := by
  refine bc_enter (by decide) (Nat.le_of_ble_eq_true rfl) rfl ?_
  have hs := sR_cp (g := m 20) hN
  have h6 := hE.q6
  have h8 := hE.o8
  have hE1 : mEnv M (bc_us (bc_u m 0 0 0) 20 (cpN (m 19) (m 20) 33)) n no nq nr nm := hE.t0.s20 _
  have eq := hE.2.2.2.1 q hq
  have hc : w = 0 ∨ w = 1 ∨ w = 2 ∨ w = 3 ∨ w = 4 ∨ w = 5 ∨ w = 6 := by omega
  have loop : ∀ (c k : Nat), k + c = no → bc_W (d + 5) LM mX10_quarter 117 [.ref 0, .int (nI q), .int (nI 6), .int (oiM (M 6) (nI q) k), .int (nI k)] [] (bc_us (bc_u m 0 0 0) 20 (cpN (m 19) (m 20) 33)) (fun r ν => r = some (.int (quaM M n no q 6)) ∧ qS m ν) := by
    intro c
    induction c with
    | zero =>
      intro k hk
      have hk : k = no := by omega
      subst hk
      refine bc_iload dX10_quarter_117 rfl ?_
      refine bc_aload_n dX10_quarter_119 rfl ?_
      refine bc_geti dX10_quarter_120 fX10_185 (rfl) rfl ?_
      refine bc_icmp_ge (tgt := 156) dX10_quarter_123 (by decide) (fun h123 => ?_) (fun h123 => absurd h123 (fun q => q (bx_out hE1.2.1.2.1 (Nat.le_refl _) (by omega))))
      refine bc_iload_n dX10_quarter_156 rfl ?_
      exact bc_ireturn dX10_quarter_157 rfl rfl (⟨rfl, qS_t⟩)
    | succ c ih =>
      intro k hk
      have h2 := ih (k + 1) (by omega)
      have e8 : m 8 (2 * k) = M 6 k := (hE.2.2.2.2.1 k (by omega)).1
      refine bc_iload dX10_quarter_117 rfl ?_
      refine bc_aload_n dX10_quarter_119 rfl ?_
      refine bc_geti dX10_quarter_120 fX10_185 (rfl) rfl ?_
      refine bc_icmp_ge (tgt := 156) dX10_quarter_123 (by decide) (fun h123 => absurd h123 (bx_in hE1.2.1.2.1 (by omega) (by omega))) (fun h123 => ?_)
      refine bc_iload_n dX10_quarter_126 rfl ?_
      refine bc_aload_n dX10_quarter_127 rfl ?_
      refine bc_getr dX10_quarter_128 fX10_38 (rfl) rfl ?_
      refine bc_iconst (v := 2) dX10_quarter_131 (by decide) ?_
      refine bc_iload dX10_quarter_132 rfl ?_
      refine bc_imul dX10_quarter_134 ?_
      refine bc_ialdE (k := 2 * k) dX10_quarter_135 (rfl) (ixM (a := 2) (b := k) (rfl) (rfl)) (⟨by omega, by decide⟩) ?_
      refine bc_iload_n dX10_quarter_136 rfl ?_
      refine bc_icmp_ne (tgt := 147) dX10_quarter_137 (by decide) (fun h137 => ?_) (fun h137 => ?_)
      · refine bc_iconst (v := 0) dX10_quarter_147 (by decide) ?_
        refine bc_ior dX10_quarter_148 ?_
        refine bc_istore_n dX10_quarter_149 (by decide) rfl ?_
        refine bc_iinc1 dX10_quarter_150 rfl (by decide) rfl ?_
        refine bc_goto (tgt := 117) dX10_quarter_153 (by decide) ?_
        rw [show oiM (M 6) (nI q) (k + 1) = oiM (M 6) (nI q) k by rw [oiM, if_neg (fun e => h137 (e8.trans e))]] at h2
        rw [bn_add1, Int32.or_zero]
        exact h2
      · refine bc_iconst (v := 1) dX10_quarter_140 (by decide) ?_
        refine bc_iload dX10_quarter_141 rfl ?_
        refine bc_ishl dX10_quarter_143 ?_
        refine bc_goto (tgt := 148) dX10_quarter_144 (by decide) ?_
        refine bc_ior dX10_quarter_148 ?_
        refine bc_istore_n dX10_quarter_149 (by decide) rfl ?_
        refine bc_iinc1 dX10_quarter_150 rfl (by decide) rfl ?_
        refine bc_goto (tgt := 117) dX10_quarter_153 (by decide) ?_
        rw [show oiM (M 6) (nI q) (k + 1) = oiM (M 6) (nI q) k ||| 1 <<< (nI k &&& 31) by rw [oiM, if_pos (e8.symm.trans h137)]] at h2
        rw [bn_add1]
        exact h2
  rcases hc with rfl | rfl | rfl | rfl | rfl | rfl | rfl
  · skip
    refine bc_aload_n dX10_quarter_0 rfl ?_
    refine bc_iconst (v := 0) dX10_quarter_1 (by decide) ?_
    refine bc_put dX10_quarter_2 fX10_3 ftX10 fpX10_0 rfl rfl (rfl) rfl ?_
    refine bc_aload_n dX10_quarter_5 rfl ?_
    refine bc_iload_n dX10_quarter_6 rfl ?_
    refine bc_iconst (v := 1) dX10_quarter_7 (by decide) ?_
    refine bc_callV (z := mX10_isQuarter) (ci := 10) dX10_quarter_8 lX10_390 qX10_isQuarter (by rfl) (by rfl) (by rfl) (by rfl) (Nat.le_of_ble_eq_true rfl) (t_isQuarterY hE.2.1.1 h6 (gq hq (by omega)) rfl (by decide)) (fun r8 μ8 e8 => ?_)
    obtain ⟨rfl, q8⟩ := e8
    obtain rfl := q8.symm
    refine bc_if_eq (tgt := 30) dX10_quarter_11 (by decide) (fun h11 => absurd h11 (by decide)) (fun h11 => ?_)
    refine bc_aload_n dX10_quarter_14 rfl ?_
    refine bc_iload_n dX10_quarter_15 rfl ?_
    refine bc_iconst (v := 0) dX10_quarter_16 (by decide) ?_
    refine bc_bipush (v := 6) dX10_quarter_17 (by decide) ?_
    refine bc_callS (z := mX10_within) dX10_quarter_19 lX10_384 qX10_within (by rfl) (by rfl) (Nat.le_of_ble_eq_true rfl) (t_within _ _ _) (fun r19 μ19 e19 => ?_)
    obtain ⟨rfl, q19⟩ := e19
    obtain rfl := q19.symm
    refine bc_iconst (v := 2) dX10_quarter_22 (by decide) ?_
    refine bc_iconst (v := 1) dX10_quarter_23 (by decide) ?_
    refine bc_callV (z := mX10_may) (ci := 10) dX10_quarter_24 lX10_236 qX10_may (by rfl) (by rfl) (by rfl) (by rfl) (Nat.le_of_ble_eq_true rfl) (t_mayY (k := 1) _ (by decide) _ (by decide) rfl (by decide)) (fun r24 μ24 e24 => ?_)
    obtain ⟨rfl, q24⟩ := e24
    obtain rfl := q24.symm
    refine bc_if_ne (tgt := 32) dX10_quarter_27 (by decide) (fun h27 => ?_) (fun h27 => absurd h27 (by decide))
    refine bc_aload_n dX10_quarter_32 rfl ?_
    refine bc_callV (z := mX10_take) (ci := 10) dX10_quarter_33 lX10_333 qX10_take (by rfl) (by rfl) (by rfl) (by rfl) (Nat.le_of_ble_eq_true rfl) (t_take) (fun r33 μ33 e33 => ?_)
    obtain ⟨rfl, q33⟩ := e33
    obtain rfl := q33.symm
    refine bc_iload_n dX10_quarter_36 rfl ?_
    refine bc_iconst (v := 2) dX10_quarter_37 (by decide) ?_
    refine bc_icmp_ge (tgt := 52) dX10_quarter_38 (by decide) (fun h38 => absurd h38 (by decide)) (fun h38 => ?_)
    refine bc_aload_n dX10_quarter_41 rfl ?_
    refine bc_getr dX10_quarter_42 fX10_35 (rfl) rfl ?_
    refine bc_iconst (v := 2) dX10_quarter_45 (by decide) ?_
    refine bc_iload_n dX10_quarter_46 rfl ?_
    refine bc_imul dX10_quarter_47 ?_
    refine bc_iload_n dX10_quarter_48 rfl ?_
    refine bc_iadd dX10_quarter_49 ?_
    refine bc_ialdE (k := (2 * q) + 0) dX10_quarter_50 (rfl) (ixA (a := 2 * q) (b := 0) (ixM (a := 2) (b := q) (rfl) (rfl)) (rfl)) (⟨by omega, by decide⟩) ?_
    exact bc_ireturn dX10_quarter_51 rfl rfl (⟨congrArg (fun z => some (Value.int z)) (eq.1), qS_t⟩)
  · skip
    refine bc_aload_n dX10_quarter_0 rfl ?_
    refine bc_iconst (v := 0) dX10_quarter_1 (by decide) ?_
    refine bc_put dX10_quarter_2 fX10_3 ftX10 fpX10_0 rfl rfl (rfl) rfl ?_
    refine bc_aload_n dX10_quarter_5 rfl ?_
    refine bc_iload_n dX10_quarter_6 rfl ?_
    refine bc_iconst (v := 1) dX10_quarter_7 (by decide) ?_
    refine bc_callV (z := mX10_isQuarter) (ci := 10) dX10_quarter_8 lX10_390 qX10_isQuarter (by rfl) (by rfl) (by rfl) (by rfl) (Nat.le_of_ble_eq_true rfl) (t_isQuarterY hE.2.1.1 h6 (gq hq (by omega)) rfl (by decide)) (fun r8 μ8 e8 => ?_)
    obtain ⟨rfl, q8⟩ := e8
    obtain rfl := q8.symm
    refine bc_if_eq (tgt := 30) dX10_quarter_11 (by decide) (fun h11 => absurd h11 (by decide)) (fun h11 => ?_)
    refine bc_aload_n dX10_quarter_14 rfl ?_
    refine bc_iload_n dX10_quarter_15 rfl ?_
    refine bc_iconst (v := 0) dX10_quarter_16 (by decide) ?_
    refine bc_bipush (v := 6) dX10_quarter_17 (by decide) ?_
    refine bc_callS (z := mX10_within) dX10_quarter_19 lX10_384 qX10_within (by rfl) (by rfl) (Nat.le_of_ble_eq_true rfl) (t_within _ _ _) (fun r19 μ19 e19 => ?_)
    obtain ⟨rfl, q19⟩ := e19
    obtain rfl := q19.symm
    refine bc_iconst (v := 2) dX10_quarter_22 (by decide) ?_
    refine bc_iconst (v := 1) dX10_quarter_23 (by decide) ?_
    refine bc_callV (z := mX10_may) (ci := 10) dX10_quarter_24 lX10_236 qX10_may (by rfl) (by rfl) (by rfl) (by rfl) (Nat.le_of_ble_eq_true rfl) (t_mayY (k := 1) _ (by decide) _ (by decide) rfl (by decide)) (fun r24 μ24 e24 => ?_)
    obtain ⟨rfl, q24⟩ := e24
    obtain rfl := q24.symm
    refine bc_if_ne (tgt := 32) dX10_quarter_27 (by decide) (fun h27 => ?_) (fun h27 => absurd h27 (by decide))
    refine bc_aload_n dX10_quarter_32 rfl ?_
    refine bc_callV (z := mX10_take) (ci := 10) dX10_quarter_33 lX10_333 qX10_take (by rfl) (by rfl) (by rfl) (by rfl) (Nat.le_of_ble_eq_true rfl) (t_take) (fun r33 μ33 e33 => ?_)
    obtain ⟨rfl, q33⟩ := e33
    obtain rfl := q33.symm
    refine bc_iload_n dX10_quarter_36 rfl ?_
    refine bc_iconst (v := 2) dX10_quarter_37 (by decide) ?_
    refine bc_icmp_ge (tgt := 52) dX10_quarter_38 (by decide) (fun h38 => absurd h38 (by decide)) (fun h38 => ?_)
    refine bc_aload_n dX10_quarter_41 rfl ?_
    refine bc_getr dX10_quarter_42 fX10_35 (rfl) rfl ?_
    refine bc_iconst (v := 2) dX10_quarter_45 (by decide) ?_
    refine bc_iload_n dX10_quarter_46 rfl ?_
    refine bc_imul dX10_quarter_47 ?_
    refine bc_iload_n dX10_quarter_48 rfl ?_
    refine bc_iadd dX10_quarter_49 ?_
    refine bc_ialdE (k := (2 * q) + 1) dX10_quarter_50 (rfl) (ixA (a := 2 * q) (b := 1) (ixM (a := 2) (b := q) (rfl) (rfl)) (rfl)) (⟨by omega, by decide⟩) ?_
    exact bc_ireturn dX10_quarter_51 rfl rfl (⟨congrArg (fun z => some (Value.int z)) (eq.2), qS_t⟩)
  · skip
    refine bc_aload_n dX10_quarter_0 rfl ?_
    refine bc_iconst (v := 0) dX10_quarter_1 (by decide) ?_
    refine bc_put dX10_quarter_2 fX10_3 ftX10 fpX10_0 rfl rfl (rfl) rfl ?_
    refine bc_aload_n dX10_quarter_5 rfl ?_
    refine bc_iload_n dX10_quarter_6 rfl ?_
    refine bc_iconst (v := 1) dX10_quarter_7 (by decide) ?_
    refine bc_callV (z := mX10_isQuarter) (ci := 10) dX10_quarter_8 lX10_390 qX10_isQuarter (by rfl) (by rfl) (by rfl) (by rfl) (Nat.le_of_ble_eq_true rfl) (t_isQuarterY hE.2.1.1 h6 (gq hq (by omega)) rfl (by decide)) (fun r8 μ8 e8 => ?_)
    obtain ⟨rfl, q8⟩ := e8
    obtain rfl := q8.symm
    refine bc_if_eq (tgt := 30) dX10_quarter_11 (by decide) (fun h11 => absurd h11 (by decide)) (fun h11 => ?_)
    refine bc_aload_n dX10_quarter_14 rfl ?_
    refine bc_iload_n dX10_quarter_15 rfl ?_
    refine bc_iconst (v := 0) dX10_quarter_16 (by decide) ?_
    refine bc_bipush (v := 6) dX10_quarter_17 (by decide) ?_
    refine bc_callS (z := mX10_within) dX10_quarter_19 lX10_384 qX10_within (by rfl) (by rfl) (Nat.le_of_ble_eq_true rfl) (t_within _ _ _) (fun r19 μ19 e19 => ?_)
    obtain ⟨rfl, q19⟩ := e19
    obtain rfl := q19.symm
    refine bc_iconst (v := 2) dX10_quarter_22 (by decide) ?_
    refine bc_iconst (v := 1) dX10_quarter_23 (by decide) ?_
    refine bc_callV (z := mX10_may) (ci := 10) dX10_quarter_24 lX10_236 qX10_may (by rfl) (by rfl) (by rfl) (by rfl) (Nat.le_of_ble_eq_true rfl) (t_mayY (k := 1) _ (by decide) _ (by decide) rfl (by decide)) (fun r24 μ24 e24 => ?_)
    obtain ⟨rfl, q24⟩ := e24
    obtain rfl := q24.symm
    refine bc_if_ne (tgt := 32) dX10_quarter_27 (by decide) (fun h27 => ?_) (fun h27 => absurd h27 (by decide))
    refine bc_aload_n dX10_quarter_32 rfl ?_
    refine bc_callV (z := mX10_take) (ci := 10) dX10_quarter_33 lX10_333 qX10_take (by rfl) (by rfl) (by rfl) (by rfl) (Nat.le_of_ble_eq_true rfl) (t_take) (fun r33 μ33 e33 => ?_)
    obtain ⟨rfl, q33⟩ := e33
    obtain rfl := q33.symm
    refine bc_iload_n dX10_quarter_36 rfl ?_
    refine bc_iconst (v := 2) dX10_quarter_37 (by decide) ?_
    refine bc_icmp_ge (tgt := 52) dX10_quarter_38 (by decide) (fun h38 => ?_) (fun h38 => absurd h38 (by decide))
    refine bc_iload_n dX10_quarter_52 rfl ?_
    refine bc_bipush (v := 6) dX10_quarter_53 (by decide) ?_
    refine bc_icmp_ge (tgt := 112) dX10_quarter_55 (by decide) (fun h55 => absurd h55 (by decide)) (fun h55 => ?_)
    refine bc_iload_n dX10_quarter_58 rfl ?_
    refine bc_iconst (v := 2) dX10_quarter_59 (by decide) ?_
    refine bc_icmp_ne (tgt := 72) dX10_quarter_60 (by decide) (fun h60 => absurd h60 (fun q => q rfl)) (fun h60 => ?_)
    refine bc_aload_n dX10_quarter_63 rfl ?_
    refine bc_iload_n dX10_quarter_64 rfl ?_
    refine bc_iconst (v := 0) dX10_quarter_65 (by decide) ?_
    refine bc_callV (z := mX10_litOf) (ci := 10) dX10_quarter_66 lX10_355 qX10_litOf (by rfl) (by rfl) (by rfl) (by rfl) (Nat.le_of_ble_eq_true rfl) (t_litOf (w := 0) hE1 hs (by omega)) (fun r66 μ66 e66 => ?_)
    obtain ⟨rfl, q66⟩ := e66
    obtain rfl := q66.symm
    refine bc_goto (tgt := 111) dX10_quarter_69 (by decide) ?_
    exact bc_ireturn dX10_quarter_111 rfl rfl (⟨congrArg (fun z => some (Value.int z)) ((lo_0 hA h8 q).trans (by rw [lit_now h8]; rfl)), qS_t⟩)
  · skip
    refine bc_aload_n dX10_quarter_0 rfl ?_
    refine bc_iconst (v := 0) dX10_quarter_1 (by decide) ?_
    refine bc_put dX10_quarter_2 fX10_3 ftX10 fpX10_0 rfl rfl (rfl) rfl ?_
    refine bc_aload_n dX10_quarter_5 rfl ?_
    refine bc_iload_n dX10_quarter_6 rfl ?_
    refine bc_iconst (v := 1) dX10_quarter_7 (by decide) ?_
    refine bc_callV (z := mX10_isQuarter) (ci := 10) dX10_quarter_8 lX10_390 qX10_isQuarter (by rfl) (by rfl) (by rfl) (by rfl) (Nat.le_of_ble_eq_true rfl) (t_isQuarterY hE.2.1.1 h6 (gq hq (by omega)) rfl (by decide)) (fun r8 μ8 e8 => ?_)
    obtain ⟨rfl, q8⟩ := e8
    obtain rfl := q8.symm
    refine bc_if_eq (tgt := 30) dX10_quarter_11 (by decide) (fun h11 => absurd h11 (by decide)) (fun h11 => ?_)
    refine bc_aload_n dX10_quarter_14 rfl ?_
    refine bc_iload_n dX10_quarter_15 rfl ?_
    refine bc_iconst (v := 0) dX10_quarter_16 (by decide) ?_
    refine bc_bipush (v := 6) dX10_quarter_17 (by decide) ?_
    refine bc_callS (z := mX10_within) dX10_quarter_19 lX10_384 qX10_within (by rfl) (by rfl) (Nat.le_of_ble_eq_true rfl) (t_within _ _ _) (fun r19 μ19 e19 => ?_)
    obtain ⟨rfl, q19⟩ := e19
    obtain rfl := q19.symm
    refine bc_iconst (v := 2) dX10_quarter_22 (by decide) ?_
    refine bc_iconst (v := 1) dX10_quarter_23 (by decide) ?_
    refine bc_callV (z := mX10_may) (ci := 10) dX10_quarter_24 lX10_236 qX10_may (by rfl) (by rfl) (by rfl) (by rfl) (Nat.le_of_ble_eq_true rfl) (t_mayY (k := 1) _ (by decide) _ (by decide) rfl (by decide)) (fun r24 μ24 e24 => ?_)
    obtain ⟨rfl, q24⟩ := e24
    obtain rfl := q24.symm
    refine bc_if_ne (tgt := 32) dX10_quarter_27 (by decide) (fun h27 => ?_) (fun h27 => absurd h27 (by decide))
    refine bc_aload_n dX10_quarter_32 rfl ?_
    refine bc_callV (z := mX10_take) (ci := 10) dX10_quarter_33 lX10_333 qX10_take (by rfl) (by rfl) (by rfl) (by rfl) (Nat.le_of_ble_eq_true rfl) (t_take) (fun r33 μ33 e33 => ?_)
    obtain ⟨rfl, q33⟩ := e33
    obtain rfl := q33.symm
    refine bc_iload_n dX10_quarter_36 rfl ?_
    refine bc_iconst (v := 2) dX10_quarter_37 (by decide) ?_
    refine bc_icmp_ge (tgt := 52) dX10_quarter_38 (by decide) (fun h38 => ?_) (fun h38 => absurd h38 (by decide))
    refine bc_iload_n dX10_quarter_52 rfl ?_
    refine bc_bipush (v := 6) dX10_quarter_53 (by decide) ?_
    refine bc_icmp_ge (tgt := 112) dX10_quarter_55 (by decide) (fun h55 => absurd h55 (by decide)) (fun h55 => ?_)
    refine bc_iload_n dX10_quarter_58 rfl ?_
    refine bc_iconst (v := 2) dX10_quarter_59 (by decide) ?_
    refine bc_icmp_ne (tgt := 72) dX10_quarter_60 (by decide) (fun h60 => ?_) (fun h60 => absurd h60 (by decide))
    refine bc_iload_n dX10_quarter_72 rfl ?_
    refine bc_iconst (v := 3) dX10_quarter_73 (by decide) ?_
    refine bc_icmp_ne (tgt := 89) dX10_quarter_74 (by decide) (fun h74 => absurd h74 (fun q => q rfl)) (fun h74 => ?_)
    refine bc_aload_n dX10_quarter_77 rfl ?_
    refine bc_getr dX10_quarter_78 fX10_74 (rfl) rfl ?_
    refine bc_bipush (v := 16) dX10_quarter_81 (by decide) ?_
    refine bc_iload_n dX10_quarter_83 rfl ?_
    refine bc_iadd dX10_quarter_84 ?_
    refine bc_ialdE (k := 16 + q) dX10_quarter_85 (rfl) (ixA (a := 16) (b := q) (rfl) (rfl)) (⟨by omega, by decide⟩) ?_
    refine bc_goto (tgt := 111) dX10_quarter_86 (by decide) ?_
    exact bc_ireturn dX10_quarter_111 rfl rfl (⟨congrArg (fun z => some (Value.int z)) ((hs.2.2.1 q (by omega)).trans (row_on (by omega))), qS_t⟩)
  · skip
    refine bc_aload_n dX10_quarter_0 rfl ?_
    refine bc_iconst (v := 0) dX10_quarter_1 (by decide) ?_
    refine bc_put dX10_quarter_2 fX10_3 ftX10 fpX10_0 rfl rfl (rfl) rfl ?_
    refine bc_aload_n dX10_quarter_5 rfl ?_
    refine bc_iload_n dX10_quarter_6 rfl ?_
    refine bc_iconst (v := 1) dX10_quarter_7 (by decide) ?_
    refine bc_callV (z := mX10_isQuarter) (ci := 10) dX10_quarter_8 lX10_390 qX10_isQuarter (by rfl) (by rfl) (by rfl) (by rfl) (Nat.le_of_ble_eq_true rfl) (t_isQuarterY hE.2.1.1 h6 (gq hq (by omega)) rfl (by decide)) (fun r8 μ8 e8 => ?_)
    obtain ⟨rfl, q8⟩ := e8
    obtain rfl := q8.symm
    refine bc_if_eq (tgt := 30) dX10_quarter_11 (by decide) (fun h11 => absurd h11 (by decide)) (fun h11 => ?_)
    refine bc_aload_n dX10_quarter_14 rfl ?_
    refine bc_iload_n dX10_quarter_15 rfl ?_
    refine bc_iconst (v := 0) dX10_quarter_16 (by decide) ?_
    refine bc_bipush (v := 6) dX10_quarter_17 (by decide) ?_
    refine bc_callS (z := mX10_within) dX10_quarter_19 lX10_384 qX10_within (by rfl) (by rfl) (Nat.le_of_ble_eq_true rfl) (t_within _ _ _) (fun r19 μ19 e19 => ?_)
    obtain ⟨rfl, q19⟩ := e19
    obtain rfl := q19.symm
    refine bc_iconst (v := 2) dX10_quarter_22 (by decide) ?_
    refine bc_iconst (v := 1) dX10_quarter_23 (by decide) ?_
    refine bc_callV (z := mX10_may) (ci := 10) dX10_quarter_24 lX10_236 qX10_may (by rfl) (by rfl) (by rfl) (by rfl) (Nat.le_of_ble_eq_true rfl) (t_mayY (k := 1) _ (by decide) _ (by decide) rfl (by decide)) (fun r24 μ24 e24 => ?_)
    obtain ⟨rfl, q24⟩ := e24
    obtain rfl := q24.symm
    refine bc_if_ne (tgt := 32) dX10_quarter_27 (by decide) (fun h27 => ?_) (fun h27 => absurd h27 (by decide))
    refine bc_aload_n dX10_quarter_32 rfl ?_
    refine bc_callV (z := mX10_take) (ci := 10) dX10_quarter_33 lX10_333 qX10_take (by rfl) (by rfl) (by rfl) (by rfl) (Nat.le_of_ble_eq_true rfl) (t_take) (fun r33 μ33 e33 => ?_)
    obtain ⟨rfl, q33⟩ := e33
    obtain rfl := q33.symm
    refine bc_iload_n dX10_quarter_36 rfl ?_
    refine bc_iconst (v := 2) dX10_quarter_37 (by decide) ?_
    refine bc_icmp_ge (tgt := 52) dX10_quarter_38 (by decide) (fun h38 => ?_) (fun h38 => absurd h38 (by decide))
    refine bc_iload_n dX10_quarter_52 rfl ?_
    refine bc_bipush (v := 6) dX10_quarter_53 (by decide) ?_
    refine bc_icmp_ge (tgt := 112) dX10_quarter_55 (by decide) (fun h55 => absurd h55 (by decide)) (fun h55 => ?_)
    refine bc_iload_n dX10_quarter_58 rfl ?_
    refine bc_iconst (v := 2) dX10_quarter_59 (by decide) ?_
    refine bc_icmp_ne (tgt := 72) dX10_quarter_60 (by decide) (fun h60 => ?_) (fun h60 => absurd h60 (by decide))
    refine bc_iload_n dX10_quarter_72 rfl ?_
    refine bc_iconst (v := 3) dX10_quarter_73 (by decide) ?_
    refine bc_icmp_ne (tgt := 89) dX10_quarter_74 (by decide) (fun h74 => ?_) (fun h74 => absurd h74 (by decide))
    refine bc_iload_n dX10_quarter_89 rfl ?_
    refine bc_iconst (v := 4) dX10_quarter_90 (by decide) ?_
    refine bc_icmp_ne (tgt := 106) dX10_quarter_91 (by decide) (fun h91 => absurd h91 (fun q => q rfl)) (fun h91 => ?_)
    refine bc_aload_n dX10_quarter_94 rfl ?_
    refine bc_getr dX10_quarter_95 fX10_74 (rfl) rfl ?_
    refine bc_bipush (v := 22) dX10_quarter_98 (by decide) ?_
    refine bc_iload_n dX10_quarter_100 rfl ?_
    refine bc_iadd dX10_quarter_101 ?_
    refine bc_ialdE (k := 22 + q) dX10_quarter_102 (rfl) (ixA (a := 22) (b := q) (rfl) (rfl)) (⟨by omega, by decide⟩) ?_
    refine bc_goto (tgt := 111) dX10_quarter_103 (by decide) ?_
    exact bc_ireturn dX10_quarter_111 rfl rfl (⟨congrArg (fun z => some (Value.int z)) (hs.2.2.2.1 q (by omega)), qS_t⟩)
  · skip
    refine bc_aload_n dX10_quarter_0 rfl ?_
    refine bc_iconst (v := 0) dX10_quarter_1 (by decide) ?_
    refine bc_put dX10_quarter_2 fX10_3 ftX10 fpX10_0 rfl rfl (rfl) rfl ?_
    refine bc_aload_n dX10_quarter_5 rfl ?_
    refine bc_iload_n dX10_quarter_6 rfl ?_
    refine bc_iconst (v := 1) dX10_quarter_7 (by decide) ?_
    refine bc_callV (z := mX10_isQuarter) (ci := 10) dX10_quarter_8 lX10_390 qX10_isQuarter (by rfl) (by rfl) (by rfl) (by rfl) (Nat.le_of_ble_eq_true rfl) (t_isQuarterY hE.2.1.1 h6 (gq hq (by omega)) rfl (by decide)) (fun r8 μ8 e8 => ?_)
    obtain ⟨rfl, q8⟩ := e8
    obtain rfl := q8.symm
    refine bc_if_eq (tgt := 30) dX10_quarter_11 (by decide) (fun h11 => absurd h11 (by decide)) (fun h11 => ?_)
    refine bc_aload_n dX10_quarter_14 rfl ?_
    refine bc_iload_n dX10_quarter_15 rfl ?_
    refine bc_iconst (v := 0) dX10_quarter_16 (by decide) ?_
    refine bc_bipush (v := 6) dX10_quarter_17 (by decide) ?_
    refine bc_callS (z := mX10_within) dX10_quarter_19 lX10_384 qX10_within (by rfl) (by rfl) (Nat.le_of_ble_eq_true rfl) (t_within _ _ _) (fun r19 μ19 e19 => ?_)
    obtain ⟨rfl, q19⟩ := e19
    obtain rfl := q19.symm
    refine bc_iconst (v := 2) dX10_quarter_22 (by decide) ?_
    refine bc_iconst (v := 1) dX10_quarter_23 (by decide) ?_
    refine bc_callV (z := mX10_may) (ci := 10) dX10_quarter_24 lX10_236 qX10_may (by rfl) (by rfl) (by rfl) (by rfl) (Nat.le_of_ble_eq_true rfl) (t_mayY (k := 1) _ (by decide) _ (by decide) rfl (by decide)) (fun r24 μ24 e24 => ?_)
    obtain ⟨rfl, q24⟩ := e24
    obtain rfl := q24.symm
    refine bc_if_ne (tgt := 32) dX10_quarter_27 (by decide) (fun h27 => ?_) (fun h27 => absurd h27 (by decide))
    refine bc_aload_n dX10_quarter_32 rfl ?_
    refine bc_callV (z := mX10_take) (ci := 10) dX10_quarter_33 lX10_333 qX10_take (by rfl) (by rfl) (by rfl) (by rfl) (Nat.le_of_ble_eq_true rfl) (t_take) (fun r33 μ33 e33 => ?_)
    obtain ⟨rfl, q33⟩ := e33
    obtain rfl := q33.symm
    refine bc_iload_n dX10_quarter_36 rfl ?_
    refine bc_iconst (v := 2) dX10_quarter_37 (by decide) ?_
    refine bc_icmp_ge (tgt := 52) dX10_quarter_38 (by decide) (fun h38 => ?_) (fun h38 => absurd h38 (by decide))
    refine bc_iload_n dX10_quarter_52 rfl ?_
    refine bc_bipush (v := 6) dX10_quarter_53 (by decide) ?_
    refine bc_icmp_ge (tgt := 112) dX10_quarter_55 (by decide) (fun h55 => absurd h55 (by decide)) (fun h55 => ?_)
    refine bc_iload_n dX10_quarter_58 rfl ?_
    refine bc_iconst (v := 2) dX10_quarter_59 (by decide) ?_
    refine bc_icmp_ne (tgt := 72) dX10_quarter_60 (by decide) (fun h60 => ?_) (fun h60 => absurd h60 (by decide))
    refine bc_iload_n dX10_quarter_72 rfl ?_
    refine bc_iconst (v := 3) dX10_quarter_73 (by decide) ?_
    refine bc_icmp_ne (tgt := 89) dX10_quarter_74 (by decide) (fun h74 => ?_) (fun h74 => absurd h74 (by decide))
    refine bc_iload_n dX10_quarter_89 rfl ?_
    refine bc_iconst (v := 4) dX10_quarter_90 (by decide) ?_
    refine bc_icmp_ne (tgt := 106) dX10_quarter_91 (by decide) (fun h91 => ?_) (fun h91 => absurd h91 (by decide))
    refine bc_aload_n dX10_quarter_106 rfl ?_
    refine bc_iload_n dX10_quarter_107 rfl ?_
    refine bc_callV (z := mX10_leanBy) (ci := 10) dX10_quarter_108 lX10_362 qX10_leanBy (by rfl) (by rfl) (by rfl) (by rfl) (Nat.le_of_ble_eq_true rfl) (t_leanBy hE1 hs hA hq) (fun r108 μ108 e108 => ?_)
    obtain ⟨rfl, h108⟩ := e108
    exact bc_ireturn dX10_quarter_111 rfl rfl (⟨congrArg (fun z => some (Value.int z)) (ln_now h6 h8 hq), qS.of (fun i a b e => by rw [h108 i a b, bc_us_ne _ _ e])⟩)
  · skip
    refine bc_aload_n dX10_quarter_0 rfl ?_
    refine bc_iconst (v := 0) dX10_quarter_1 (by decide) ?_
    refine bc_put dX10_quarter_2 fX10_3 ftX10 fpX10_0 rfl rfl (rfl) rfl ?_
    refine bc_aload_n dX10_quarter_5 rfl ?_
    refine bc_iload_n dX10_quarter_6 rfl ?_
    refine bc_iconst (v := 1) dX10_quarter_7 (by decide) ?_
    refine bc_callV (z := mX10_isQuarter) (ci := 10) dX10_quarter_8 lX10_390 qX10_isQuarter (by rfl) (by rfl) (by rfl) (by rfl) (Nat.le_of_ble_eq_true rfl) (t_isQuarterY hE.2.1.1 h6 (gq hq (by omega)) rfl (by decide)) (fun r8 μ8 e8 => ?_)
    obtain ⟨rfl, q8⟩ := e8
    obtain rfl := q8.symm
    refine bc_if_eq (tgt := 30) dX10_quarter_11 (by decide) (fun h11 => absurd h11 (by decide)) (fun h11 => ?_)
    refine bc_aload_n dX10_quarter_14 rfl ?_
    refine bc_iload_n dX10_quarter_15 rfl ?_
    refine bc_iconst (v := 0) dX10_quarter_16 (by decide) ?_
    refine bc_bipush (v := 6) dX10_quarter_17 (by decide) ?_
    refine bc_callS (z := mX10_within) dX10_quarter_19 lX10_384 qX10_within (by rfl) (by rfl) (Nat.le_of_ble_eq_true rfl) (t_within _ _ _) (fun r19 μ19 e19 => ?_)
    obtain ⟨rfl, q19⟩ := e19
    obtain rfl := q19.symm
    refine bc_iconst (v := 2) dX10_quarter_22 (by decide) ?_
    refine bc_iconst (v := 1) dX10_quarter_23 (by decide) ?_
    refine bc_callV (z := mX10_may) (ci := 10) dX10_quarter_24 lX10_236 qX10_may (by rfl) (by rfl) (by rfl) (by rfl) (Nat.le_of_ble_eq_true rfl) (t_mayY (k := 1) _ (by decide) _ (by decide) rfl (by decide)) (fun r24 μ24 e24 => ?_)
    obtain ⟨rfl, q24⟩ := e24
    obtain rfl := q24.symm
    refine bc_if_ne (tgt := 32) dX10_quarter_27 (by decide) (fun h27 => ?_) (fun h27 => absurd h27 (by decide))
    refine bc_aload_n dX10_quarter_32 rfl ?_
    refine bc_callV (z := mX10_take) (ci := 10) dX10_quarter_33 lX10_333 qX10_take (by rfl) (by rfl) (by rfl) (by rfl) (Nat.le_of_ble_eq_true rfl) (t_take) (fun r33 μ33 e33 => ?_)
    obtain ⟨rfl, q33⟩ := e33
    obtain rfl := q33.symm
    refine bc_iload_n dX10_quarter_36 rfl ?_
    refine bc_iconst (v := 2) dX10_quarter_37 (by decide) ?_
    refine bc_icmp_ge (tgt := 52) dX10_quarter_38 (by decide) (fun h38 => ?_) (fun h38 => absurd h38 (by decide))
    refine bc_iload_n dX10_quarter_52 rfl ?_
    refine bc_bipush (v := 6) dX10_quarter_53 (by decide) ?_
    refine bc_icmp_ge (tgt := 112) dX10_quarter_55 (by decide) (fun h55 => ?_) (fun h55 => absurd h55 (by decide))
    refine bc_iconst (v := 0) dX10_quarter_112 (by decide) ?_
    refine bc_istore_n dX10_quarter_113 (by decide) rfl ?_
    refine bc_iconst (v := 0) dX10_quarter_114 (by decide) ?_
    refine bc_istore dX10_quarter_115 (by decide) rfl ?_
    exact loop no 0 (by omega)
theorem t_ovenB1 {q w : Int32} (hE : mEnv M m n no nq nr nm) (h : ¬ (0 ≤ q ∧ q < nI no)) : bc_C (d + 2) LM mX10_oven [.ref 0, .int q, .int w] m (fun r ν => r = some (.int 0) ∧ ν = refM m 1 0) := by
  refine bc_enter (by decide) (Nat.le_of_ble_eq_true rfl) rfl ?_
  have h8 := hE.o8
  refine bc_aload_n dX10_oven_0 rfl ?_
  refine bc_iconst (v := 0) dX10_oven_1 (by decide) ?_
  refine bc_put dX10_oven_2 fX10_3 ftX10 fpX10_0 rfl rfl (rfl) rfl ?_
  refine bc_aload_n dX10_oven_5 rfl ?_
  refine bc_iload_n dX10_oven_6 rfl ?_
  refine bc_iconst (v := 0) dX10_oven_7 (by decide) ?_
  refine bc_aload_n dX10_oven_8 rfl ?_
  refine bc_geti dX10_oven_9 fX10_185 (rfl) rfl ?_
  rw [show bc_u m 0 0 0 0 26 = nI no from hE.2.1.2.1]
  refine bc_iconst (v := 1) dX10_oven_12 (by decide) ?_
  refine bc_isub dX10_oven_13 ?_
  refine bc_callS (z := mX10_within) dX10_oven_14 lX10_384 qX10_within (by rfl) (by rfl) (Nat.le_of_ble_eq_true rfl) (t_within _ _ _) (fun r14 μ14 e14 => ?_)
  obtain ⟨rfl, q14⟩ := e14
  obtain rfl := q14.symm
  refine bc_iconst (v := 1) dX10_oven_17 (by decide) ?_
  refine bc_iconst (v := 0) dX10_oven_18 (by decide) ?_
  refine bc_callV (z := mX10_may) (ci := 10) dX10_oven_19 lX10_236 qX10_may (by rfl) (by rfl) (by rfl) (by rfl) (Nat.le_of_ble_eq_true rfl) (t_mayN (k := 0) _ (fun x => h ((gT_iff (by omega)).mp x)) _ (by decide) rfl (by decide)) (fun r19 μ19 e19 => ?_)
  obtain ⟨rfl, q19⟩ := e19
  obtain rfl := q19.symm
  refine bc_if_eq (tgt := 40) dX10_oven_22 (by decide) (fun h22 => ?_) (fun h22 => absurd h22 (fun q => q rfl))
  refine bc_iconst (v := 0) dX10_oven_40 (by decide) ?_
  exact bc_ireturn dX10_oven_41 rfl rfl (⟨rfl, rfl⟩)
theorem t_ovenB2 {q w : Int32} (hE : mEnv M m n no nq nr nm) (hq : 0 ≤ q ∧ q < nI no) (h : ¬ (0 ≤ w ∧ w ≤ 3)) : bc_C (d + 2) LM mX10_oven [.ref 0, .int q, .int w] m (fun r ν => r = some (.int 0) ∧ ν = refM m 2 1) := by
  refine bc_enter (by decide) (Nat.le_of_ble_eq_true rfl) rfl ?_
  have h8 := hE.o8
  refine bc_aload_n dX10_oven_0 rfl ?_
  refine bc_iconst (v := 0) dX10_oven_1 (by decide) ?_
  refine bc_put dX10_oven_2 fX10_3 ftX10 fpX10_0 rfl rfl (rfl) rfl ?_
  refine bc_aload_n dX10_oven_5 rfl ?_
  refine bc_iload_n dX10_oven_6 rfl ?_
  refine bc_iconst (v := 0) dX10_oven_7 (by decide) ?_
  refine bc_aload_n dX10_oven_8 rfl ?_
  refine bc_geti dX10_oven_9 fX10_185 (rfl) rfl ?_
  rw [show bc_u m 0 0 0 0 26 = nI no from hE.2.1.2.1]
  refine bc_iconst (v := 1) dX10_oven_12 (by decide) ?_
  refine bc_isub dX10_oven_13 ?_
  refine bc_callS (z := mX10_within) dX10_oven_14 lX10_384 qX10_within (by rfl) (by rfl) (Nat.le_of_ble_eq_true rfl) (t_within _ _ _) (fun r14 μ14 e14 => ?_)
  obtain ⟨rfl, q14⟩ := e14
  obtain rfl := q14.symm
  refine bc_iconst (v := 1) dX10_oven_17 (by decide) ?_
  refine bc_iconst (v := 0) dX10_oven_18 (by decide) ?_
  refine bc_callV (z := mX10_may) (ci := 10) dX10_oven_19 lX10_236 qX10_may (by rfl) (by rfl) (by rfl) (by rfl) (Nat.le_of_ble_eq_true rfl) (t_mayY (k := 0) _ ((gT_iff (by omega)).mpr hq) _ (by decide) rfl (by decide)) (fun r19 μ19 e19 => ?_)
  obtain ⟨rfl, q19⟩ := e19
  obtain rfl := q19.symm
  refine bc_if_eq (tgt := 40) dX10_oven_22 (by decide) (fun h22 => absurd h22 (by decide)) (fun h22 => ?_)
  refine bc_aload_n dX10_oven_25 rfl ?_
  refine bc_iload_n dX10_oven_26 rfl ?_
  refine bc_iconst (v := 0) dX10_oven_27 (by decide) ?_
  refine bc_iconst (v := 3) dX10_oven_28 (by decide) ?_
  refine bc_callS (z := mX10_within) dX10_oven_29 lX10_384 qX10_within (by rfl) (by rfl) (Nat.le_of_ble_eq_true rfl) (t_within _ _ _) (fun r29 μ29 e29 => ?_)
  obtain ⟨rfl, q29⟩ := e29
  obtain rfl := q29.symm
  refine bc_iconst (v := 2) dX10_oven_32 (by decide) ?_
  refine bc_iconst (v := 1) dX10_oven_33 (by decide) ?_
  refine bc_callV (z := mX10_may) (ci := 10) dX10_oven_34 lX10_236 qX10_may (by rfl) (by rfl) (by rfl) (by rfl) (Nat.le_of_ble_eq_true rfl) (t_mayN (k := 1) _ h _ (by decide) rfl (by decide)) (fun r34 μ34 e34 => ?_)
  obtain ⟨rfl, q34⟩ := e34
  obtain rfl := q34.symm
  refine bc_if_ne (tgt := 42) dX10_oven_37 (by decide) (fun h37 => absurd h37 (fun q => q rfl)) (fun h37 => ?_)
  refine bc_iconst (v := 0) dX10_oven_40 (by decide) ?_
  exact bc_ireturn dX10_oven_41 rfl rfl (⟨rfl, rfl⟩)
theorem t_oven {q w : Nat} (hE : mEnv M m n no nq nr nm) (hN : sR (row 31 M) (m 19)) (hq : q < no) (hw : w ≤ 3) : bc_C (d + 2) LM mX10_oven [.ref 0, .int (nI q), .int (nI w)] m (fun r ν => r = some (.int (oveM M q w)) ∧ qS m ν) := by
  refine bc_enter (by decide) (Nat.le_of_ble_eq_true rfl) rfl ?_
  have h8 := hE.o8
  have eq := hE.2.2.2.2.1 q hq
  have hc : w = 0 ∨ w = 1 ∨ w = 2 ∨ w = 3 := by omega
  rcases hc with rfl | rfl | rfl | rfl
  · skip
    refine bc_aload_n dX10_oven_0 rfl ?_
    refine bc_iconst (v := 0) dX10_oven_1 (by decide) ?_
    refine bc_put dX10_oven_2 fX10_3 ftX10 fpX10_0 rfl rfl (rfl) rfl ?_
    refine bc_aload_n dX10_oven_5 rfl ?_
    refine bc_iload_n dX10_oven_6 rfl ?_
    refine bc_iconst (v := 0) dX10_oven_7 (by decide) ?_
    refine bc_aload_n dX10_oven_8 rfl ?_
    refine bc_geti dX10_oven_9 fX10_185 (rfl) rfl ?_
    rw [show bc_u m 0 0 0 0 26 = nI no from hE.2.1.2.1]
    refine bc_iconst (v := 1) dX10_oven_12 (by decide) ?_
    refine bc_isub dX10_oven_13 ?_
    refine bc_callS (z := mX10_within) dX10_oven_14 lX10_384 qX10_within (by rfl) (by rfl) (Nat.le_of_ble_eq_true rfl) (t_within _ _ _) (fun r14 μ14 e14 => ?_)
    obtain ⟨rfl, q14⟩ := e14
    obtain rfl := q14.symm
    refine bc_iconst (v := 1) dX10_oven_17 (by decide) ?_
    refine bc_iconst (v := 0) dX10_oven_18 (by decide) ?_
    refine bc_callV (z := mX10_may) (ci := 10) dX10_oven_19 lX10_236 qX10_may (by rfl) (by rfl) (by rfl) (by rfl) (Nat.le_of_ble_eq_true rfl) (t_mayY (k := 0) _ (gT_N hq (by omega)) _ (by decide) rfl (by decide)) (fun r19 μ19 e19 => ?_)
    obtain ⟨rfl, q19⟩ := e19
    obtain rfl := q19.symm
    refine bc_if_eq (tgt := 40) dX10_oven_22 (by decide) (fun h22 => absurd h22 (by decide)) (fun h22 => ?_)
    refine bc_aload_n dX10_oven_25 rfl ?_
    refine bc_iload_n dX10_oven_26 rfl ?_
    refine bc_iconst (v := 0) dX10_oven_27 (by decide) ?_
    refine bc_iconst (v := 3) dX10_oven_28 (by decide) ?_
    refine bc_callS (z := mX10_within) dX10_oven_29 lX10_384 qX10_within (by rfl) (by rfl) (Nat.le_of_ble_eq_true rfl) (t_within _ _ _) (fun r29 μ29 e29 => ?_)
    obtain ⟨rfl, q29⟩ := e29
    obtain rfl := q29.symm
    refine bc_iconst (v := 2) dX10_oven_32 (by decide) ?_
    refine bc_iconst (v := 1) dX10_oven_33 (by decide) ?_
    refine bc_callV (z := mX10_may) (ci := 10) dX10_oven_34 lX10_236 qX10_may (by rfl) (by rfl) (by rfl) (by rfl) (Nat.le_of_ble_eq_true rfl) (t_mayY (k := 1) _ (by decide) _ (by decide) rfl (by decide)) (fun r34 μ34 e34 => ?_)
    obtain ⟨rfl, q34⟩ := e34
    obtain rfl := q34.symm
    refine bc_if_ne (tgt := 42) dX10_oven_37 (by decide) (fun h37 => ?_) (fun h37 => absurd h37 (by decide))
    refine bc_iload_n dX10_oven_42 rfl ?_
    refine bc_iconst (v := 2) dX10_oven_43 (by decide) ?_
    refine bc_icmp_ge (tgt := 60) dX10_oven_44 (by decide) (fun h44 => absurd h44 (by decide)) (fun h44 => ?_)
    refine bc_aload_n dX10_oven_47 rfl ?_
    refine bc_getr dX10_oven_48 fX10_38 (rfl) rfl ?_
    refine bc_iconst (v := 2) dX10_oven_51 (by decide) ?_
    refine bc_iload_n dX10_oven_52 rfl ?_
    refine bc_imul dX10_oven_53 ?_
    refine bc_iload_n dX10_oven_54 rfl ?_
    refine bc_iadd dX10_oven_55 ?_
    refine bc_ialdE (k := (2 * q) + 0) dX10_oven_56 (rfl) (ixA (a := 2 * q) (b := 0) (ixM (a := 2) (b := q) (rfl) (rfl)) (rfl)) (⟨by omega, by decide⟩) ?_
    refine bc_goto (tgt := 78) dX10_oven_57 (by decide) ?_
    exact bc_ireturn dX10_oven_78 rfl rfl (⟨congrArg (fun z => some (Value.int z)) (eq.1), qS_0⟩)
  · skip
    refine bc_aload_n dX10_oven_0 rfl ?_
    refine bc_iconst (v := 0) dX10_oven_1 (by decide) ?_
    refine bc_put dX10_oven_2 fX10_3 ftX10 fpX10_0 rfl rfl (rfl) rfl ?_
    refine bc_aload_n dX10_oven_5 rfl ?_
    refine bc_iload_n dX10_oven_6 rfl ?_
    refine bc_iconst (v := 0) dX10_oven_7 (by decide) ?_
    refine bc_aload_n dX10_oven_8 rfl ?_
    refine bc_geti dX10_oven_9 fX10_185 (rfl) rfl ?_
    rw [show bc_u m 0 0 0 0 26 = nI no from hE.2.1.2.1]
    refine bc_iconst (v := 1) dX10_oven_12 (by decide) ?_
    refine bc_isub dX10_oven_13 ?_
    refine bc_callS (z := mX10_within) dX10_oven_14 lX10_384 qX10_within (by rfl) (by rfl) (Nat.le_of_ble_eq_true rfl) (t_within _ _ _) (fun r14 μ14 e14 => ?_)
    obtain ⟨rfl, q14⟩ := e14
    obtain rfl := q14.symm
    refine bc_iconst (v := 1) dX10_oven_17 (by decide) ?_
    refine bc_iconst (v := 0) dX10_oven_18 (by decide) ?_
    refine bc_callV (z := mX10_may) (ci := 10) dX10_oven_19 lX10_236 qX10_may (by rfl) (by rfl) (by rfl) (by rfl) (Nat.le_of_ble_eq_true rfl) (t_mayY (k := 0) _ (gT_N hq (by omega)) _ (by decide) rfl (by decide)) (fun r19 μ19 e19 => ?_)
    obtain ⟨rfl, q19⟩ := e19
    obtain rfl := q19.symm
    refine bc_if_eq (tgt := 40) dX10_oven_22 (by decide) (fun h22 => absurd h22 (by decide)) (fun h22 => ?_)
    refine bc_aload_n dX10_oven_25 rfl ?_
    refine bc_iload_n dX10_oven_26 rfl ?_
    refine bc_iconst (v := 0) dX10_oven_27 (by decide) ?_
    refine bc_iconst (v := 3) dX10_oven_28 (by decide) ?_
    refine bc_callS (z := mX10_within) dX10_oven_29 lX10_384 qX10_within (by rfl) (by rfl) (Nat.le_of_ble_eq_true rfl) (t_within _ _ _) (fun r29 μ29 e29 => ?_)
    obtain ⟨rfl, q29⟩ := e29
    obtain rfl := q29.symm
    refine bc_iconst (v := 2) dX10_oven_32 (by decide) ?_
    refine bc_iconst (v := 1) dX10_oven_33 (by decide) ?_
    refine bc_callV (z := mX10_may) (ci := 10) dX10_oven_34 lX10_236 qX10_may (by rfl) (by rfl) (by rfl) (by rfl) (Nat.le_of_ble_eq_true rfl) (t_mayY (k := 1) _ (by decide) _ (by decide) rfl (by decide)) (fun r34 μ34 e34 => ?_)
    obtain ⟨rfl, q34⟩ := e34
    obtain rfl := q34.symm
    refine bc_if_ne (tgt := 42) dX10_oven_37 (by decide) (fun h37 => ?_) (fun h37 => absurd h37 (by decide))
    refine bc_iload_n dX10_oven_42 rfl ?_
    refine bc_iconst (v := 2) dX10_oven_43 (by decide) ?_
    refine bc_icmp_ge (tgt := 60) dX10_oven_44 (by decide) (fun h44 => absurd h44 (by decide)) (fun h44 => ?_)
    refine bc_aload_n dX10_oven_47 rfl ?_
    refine bc_getr dX10_oven_48 fX10_38 (rfl) rfl ?_
    refine bc_iconst (v := 2) dX10_oven_51 (by decide) ?_
    refine bc_iload_n dX10_oven_52 rfl ?_
    refine bc_imul dX10_oven_53 ?_
    refine bc_iload_n dX10_oven_54 rfl ?_
    refine bc_iadd dX10_oven_55 ?_
    refine bc_ialdE (k := (2 * q) + 1) dX10_oven_56 (rfl) (ixA (a := 2 * q) (b := 1) (ixM (a := 2) (b := q) (rfl) (rfl)) (rfl)) (⟨by omega, by decide⟩) ?_
    refine bc_goto (tgt := 78) dX10_oven_57 (by decide) ?_
    exact bc_ireturn dX10_oven_78 rfl rfl (⟨congrArg (fun z => some (Value.int z)) (eq.2), qS_0⟩)
  · skip
    refine bc_aload_n dX10_oven_0 rfl ?_
    refine bc_iconst (v := 0) dX10_oven_1 (by decide) ?_
    refine bc_put dX10_oven_2 fX10_3 ftX10 fpX10_0 rfl rfl (rfl) rfl ?_
    refine bc_aload_n dX10_oven_5 rfl ?_
    refine bc_iload_n dX10_oven_6 rfl ?_
    refine bc_iconst (v := 0) dX10_oven_7 (by decide) ?_
    refine bc_aload_n dX10_oven_8 rfl ?_
    refine bc_geti dX10_oven_9 fX10_185 (rfl) rfl ?_
    rw [show bc_u m 0 0 0 0 26 = nI no from hE.2.1.2.1]
    refine bc_iconst (v := 1) dX10_oven_12 (by decide) ?_
    refine bc_isub dX10_oven_13 ?_
    refine bc_callS (z := mX10_within) dX10_oven_14 lX10_384 qX10_within (by rfl) (by rfl) (Nat.le_of_ble_eq_true rfl) (t_within _ _ _) (fun r14 μ14 e14 => ?_)
    obtain ⟨rfl, q14⟩ := e14
    obtain rfl := q14.symm
    refine bc_iconst (v := 1) dX10_oven_17 (by decide) ?_
    refine bc_iconst (v := 0) dX10_oven_18 (by decide) ?_
    refine bc_callV (z := mX10_may) (ci := 10) dX10_oven_19 lX10_236 qX10_may (by rfl) (by rfl) (by rfl) (by rfl) (Nat.le_of_ble_eq_true rfl) (t_mayY (k := 0) _ (gT_N hq (by omega)) _ (by decide) rfl (by decide)) (fun r19 μ19 e19 => ?_)
    obtain ⟨rfl, q19⟩ := e19
    obtain rfl := q19.symm
    refine bc_if_eq (tgt := 40) dX10_oven_22 (by decide) (fun h22 => absurd h22 (by decide)) (fun h22 => ?_)
    refine bc_aload_n dX10_oven_25 rfl ?_
    refine bc_iload_n dX10_oven_26 rfl ?_
    refine bc_iconst (v := 0) dX10_oven_27 (by decide) ?_
    refine bc_iconst (v := 3) dX10_oven_28 (by decide) ?_
    refine bc_callS (z := mX10_within) dX10_oven_29 lX10_384 qX10_within (by rfl) (by rfl) (Nat.le_of_ble_eq_true rfl) (t_within _ _ _) (fun r29 μ29 e29 => ?_)
    obtain ⟨rfl, q29⟩ := e29
    obtain rfl := q29.symm
    refine bc_iconst (v := 2) dX10_oven_32 (by decide) ?_
    refine bc_iconst (v := 1) dX10_oven_33 (by decide) ?_
    refine bc_callV (z := mX10_may) (ci := 10) dX10_oven_34 lX10_236 qX10_may (by rfl) (by rfl) (by rfl) (by rfl) (Nat.le_of_ble_eq_true rfl) (t_mayY (k := 1) _ (by decide) _ (by decide) rfl (by decide)) (fun r34 μ34 e34 => ?_)
    obtain ⟨rfl, q34⟩ := e34
    obtain rfl := q34.symm
    refine bc_if_ne (tgt := 42) dX10_oven_37 (by decide) (fun h37 => ?_) (fun h37 => absurd h37 (by decide))
    refine bc_iload_n dX10_oven_42 rfl ?_
    refine bc_iconst (v := 2) dX10_oven_43 (by decide) ?_
    refine bc_icmp_ge (tgt := 60) dX10_oven_44 (by decide) (fun h44 => ?_) (fun h44 => absurd h44 (by decide))
    refine bc_aload_n dX10_oven_60 rfl ?_
    refine bc_getr dX10_oven_61 fX10_71 (rfl) rfl ?_
    refine bc_iload_n dX10_oven_64 rfl ?_
    refine bc_iconst (v := 2) dX10_oven_65 (by decide) ?_
    refine bc_icmp_ne (tgt := 73) dX10_oven_66 (by decide) (fun h66 => absurd h66 (fun q => q rfl)) (fun h66 => ?_)
    refine bc_iconst (v := 0) dX10_oven_69 (by decide) ?_
    refine bc_goto (tgt := 75) dX10_oven_70 (by decide) ?_
    refine bc_iload_n dX10_oven_75 rfl ?_
    refine bc_iadd dX10_oven_76 ?_
    refine bc_ialdE (k := q) dX10_oven_77 (rfl) (ix0 (rfl)) (⟨by omega, by decide⟩) ?_
    exact bc_ireturn dX10_oven_78 rfl rfl (⟨congrArg (fun z => some (Value.int z)) ((hN.1 q (by omega)).trans (row_hl (by omega))), qS_0⟩)
  · skip
    refine bc_aload_n dX10_oven_0 rfl ?_
    refine bc_iconst (v := 0) dX10_oven_1 (by decide) ?_
    refine bc_put dX10_oven_2 fX10_3 ftX10 fpX10_0 rfl rfl (rfl) rfl ?_
    refine bc_aload_n dX10_oven_5 rfl ?_
    refine bc_iload_n dX10_oven_6 rfl ?_
    refine bc_iconst (v := 0) dX10_oven_7 (by decide) ?_
    refine bc_aload_n dX10_oven_8 rfl ?_
    refine bc_geti dX10_oven_9 fX10_185 (rfl) rfl ?_
    rw [show bc_u m 0 0 0 0 26 = nI no from hE.2.1.2.1]
    refine bc_iconst (v := 1) dX10_oven_12 (by decide) ?_
    refine bc_isub dX10_oven_13 ?_
    refine bc_callS (z := mX10_within) dX10_oven_14 lX10_384 qX10_within (by rfl) (by rfl) (Nat.le_of_ble_eq_true rfl) (t_within _ _ _) (fun r14 μ14 e14 => ?_)
    obtain ⟨rfl, q14⟩ := e14
    obtain rfl := q14.symm
    refine bc_iconst (v := 1) dX10_oven_17 (by decide) ?_
    refine bc_iconst (v := 0) dX10_oven_18 (by decide) ?_
    refine bc_callV (z := mX10_may) (ci := 10) dX10_oven_19 lX10_236 qX10_may (by rfl) (by rfl) (by rfl) (by rfl) (Nat.le_of_ble_eq_true rfl) (t_mayY (k := 0) _ (gT_N hq (by omega)) _ (by decide) rfl (by decide)) (fun r19 μ19 e19 => ?_)
    obtain ⟨rfl, q19⟩ := e19
    obtain rfl := q19.symm
    refine bc_if_eq (tgt := 40) dX10_oven_22 (by decide) (fun h22 => absurd h22 (by decide)) (fun h22 => ?_)
    refine bc_aload_n dX10_oven_25 rfl ?_
    refine bc_iload_n dX10_oven_26 rfl ?_
    refine bc_iconst (v := 0) dX10_oven_27 (by decide) ?_
    refine bc_iconst (v := 3) dX10_oven_28 (by decide) ?_
    refine bc_callS (z := mX10_within) dX10_oven_29 lX10_384 qX10_within (by rfl) (by rfl) (Nat.le_of_ble_eq_true rfl) (t_within _ _ _) (fun r29 μ29 e29 => ?_)
    obtain ⟨rfl, q29⟩ := e29
    obtain rfl := q29.symm
    refine bc_iconst (v := 2) dX10_oven_32 (by decide) ?_
    refine bc_iconst (v := 1) dX10_oven_33 (by decide) ?_
    refine bc_callV (z := mX10_may) (ci := 10) dX10_oven_34 lX10_236 qX10_may (by rfl) (by rfl) (by rfl) (by rfl) (Nat.le_of_ble_eq_true rfl) (t_mayY (k := 1) _ (by decide) _ (by decide) rfl (by decide)) (fun r34 μ34 e34 => ?_)
    obtain ⟨rfl, q34⟩ := e34
    obtain rfl := q34.symm
    refine bc_if_ne (tgt := 42) dX10_oven_37 (by decide) (fun h37 => ?_) (fun h37 => absurd h37 (by decide))
    refine bc_iload_n dX10_oven_42 rfl ?_
    refine bc_iconst (v := 2) dX10_oven_43 (by decide) ?_
    refine bc_icmp_ge (tgt := 60) dX10_oven_44 (by decide) (fun h44 => ?_) (fun h44 => absurd h44 (by decide))
    refine bc_aload_n dX10_oven_60 rfl ?_
    refine bc_getr dX10_oven_61 fX10_71 (rfl) rfl ?_
    refine bc_iload_n dX10_oven_64 rfl ?_
    refine bc_iconst (v := 2) dX10_oven_65 (by decide) ?_
    refine bc_icmp_ne (tgt := 73) dX10_oven_66 (by decide) (fun h66 => ?_) (fun h66 => absurd h66 (by decide))
    refine bc_bipush (v := 8) dX10_oven_73 (by decide) ?_
    refine bc_iload_n dX10_oven_75 rfl ?_
    refine bc_iadd dX10_oven_76 ?_
    refine bc_ialdE (k := 8 + q) dX10_oven_77 (rfl) (ixA (a := 8) (b := q) (rfl) (rfl)) (⟨by omega, by decide⟩) ?_
    exact bc_ireturn dX10_oven_78 rfl rfl (⟨congrArg (fun z => some (Value.int z)) ((hN.2.1 q (by omega)).trans (row_tl (by omega))), qS_0⟩)
theorem t_size {L : bc_L} (x : Int32) : bc_C d L mX10_size [.int x] m (fun r ν => r = some (.int (abI x)) ∧ ν = m) := by
  refine bc_enter (by decide) (Nat.le_of_ble_eq_true rfl) rfl ?_
  refine bc_iload_n dX10_size_0 rfl ?_
  refine bc_if_ge (tgt := 9) dX10_size_1 (by decide) (fun h1 => ?_) (fun h1 => ?_)
  · refine bc_iload_n dX10_size_9 rfl ?_
    exact bc_ireturn dX10_size_10 rfl rfl (⟨by rw [abI, if_pos h1], rfl⟩)
  · refine bc_iload_n dX10_size_4 rfl ?_
    refine bc_ineg dX10_size_5 ?_
    refine bc_goto (tgt := 10) dX10_size_6 (by decide) ?_
    exact bc_ireturn dX10_size_10 rfl rfl (⟨by rw [abI, if_neg h1, Int32.zero_sub], rfl⟩)
theorem t_farOf {k : Nat} (hE : mEnv M m n no nq nr nm) (hN : sR (row 31 M) (m 19)) (hk : k < nm) : bc_C (d + 1) LM mX10_farOf [.ref 0, .int (nI k)] m (fun r ν => r = some (.int (farM M k)) ∧ ν = m) := by
  refine bc_enter (by decide) (Nat.le_of_ble_eq_true rfl) rfl ?_
  have h6 := hE.2.2.1.2
  have e := hE.2.2.2.2.2.2.1 k hk
  refine bc_aload_n dX10_farOf_0 rfl ?_
  refine bc_getr dX10_farOf_1 fX10_44 (rfl) rfl ?_
  refine bc_iconst (v := 2) dX10_farOf_4 (by decide) ?_
  refine bc_iload_n dX10_farOf_5 rfl ?_
  refine bc_imul dX10_farOf_6 ?_
  refine bc_ialdE (k := 2 * k) dX10_farOf_7 (rfl) (ixM (a := 2) (b := k) (rfl) (rfl)) (⟨by omega, by decide⟩) ?_
  refine bc_aload_n dX10_farOf_8 rfl ?_
  refine bc_getr dX10_farOf_9 fX10_71 (rfl) rfl ?_
  refine bc_bipush (v := 28) dX10_farOf_12 (by decide) ?_
  refine bc_ialdE (k := 28) dX10_farOf_14 (rfl) (rfl) (⟨by omega, by decide⟩) ?_
  refine bc_isub dX10_farOf_15 ?_
  refine bc_callS (z := mX10_size) dX10_farOf_16 lX10_393 qX10_size (by rfl) (by rfl) (Nat.le_of_ble_eq_true rfl) (t_size _) (fun r16 μ16 e16 => ?_)
  obtain ⟨rfl, q16⟩ := e16
  obtain rfl := q16.symm
  refine bc_aload_n dX10_farOf_19 rfl ?_
  refine bc_getr dX10_farOf_20 fX10_44 (rfl) rfl ?_
  refine bc_iconst (v := 2) dX10_farOf_23 (by decide) ?_
  refine bc_iload_n dX10_farOf_24 rfl ?_
  refine bc_imul dX10_farOf_25 ?_
  refine bc_iconst (v := 1) dX10_farOf_26 (by decide) ?_
  refine bc_iadd dX10_farOf_27 ?_
  refine bc_ialdE (k := (2 * k) + 1) dX10_farOf_28 (rfl) (ixA (a := 2 * k) (b := 1) (ixM (a := 2) (b := k) (rfl) (rfl)) (rfl)) (⟨by omega, by decide⟩) ?_
  refine bc_aload_n dX10_farOf_29 rfl ?_
  refine bc_getr dX10_farOf_30 fX10_71 (rfl) rfl ?_
  refine bc_bipush (v := 29) dX10_farOf_33 (by decide) ?_
  refine bc_ialdE (k := 29) dX10_farOf_35 (rfl) (rfl) (⟨by omega, by decide⟩) ?_
  refine bc_isub dX10_farOf_36 ?_
  refine bc_callS (z := mX10_size) dX10_farOf_37 lX10_393 qX10_size (by rfl) (by rfl) (Nat.le_of_ble_eq_true rfl) (t_size _) (fun r37 μ37 e37 => ?_)
  obtain ⟨rfl, q37⟩ := e37
  obtain rfl := q37.symm
  refine bc_iadd dX10_farOf_40 ?_
  exact bc_ireturn dX10_farOf_41 rfl rfl (⟨by rw [farM, e.1, e.2.1, hN.2.2.2.2.1, hN.2.2.2.2.2.1]; rfl, rfl⟩)
theorem t_mooringB1 {q w : Int32} (hE : mEnv M m n no nq nr nm) (h : ¬ (0 ≤ q ∧ q < nI nm)) : bc_C (d + 2) LM mX10_mooring [.ref 0, .int q, .int w] m (fun r ν => r = some (.int 0) ∧ ν = refM m 1 0) := by
  refine bc_enter (by decide) (Nat.le_of_ble_eq_true rfl) rfl ?_
  refine bc_aload_n dX10_mooring_0 rfl ?_
  refine bc_iconst (v := 0) dX10_mooring_1 (by decide) ?_
  refine bc_put dX10_mooring_2 fX10_3 ftX10 fpX10_0 rfl rfl (rfl) rfl ?_
  refine bc_aload_n dX10_mooring_5 rfl ?_
  refine bc_iload_n dX10_mooring_6 rfl ?_
  refine bc_iconst (v := 1) dX10_mooring_7 (by decide) ?_
  refine bc_callV (z := mX10_isMooring) (ci := 10) dX10_mooring_8 lX10_395 qX10_isMooring (by rfl) (by rfl) (by rfl) (by rfl) (Nat.le_of_ble_eq_true rfl) (t_isMooringN hE.2.1.2.2.2 hE.2.2.1.2 h rfl (by decide)) (fun r8 μ8 e8 => ?_)
  obtain ⟨rfl, q8⟩ := e8
  obtain rfl := q8.symm
  refine bc_if_eq (tgt := 29) dX10_mooring_11 (by decide) (fun h11 => ?_) (fun h11 => absurd h11 (fun q => q rfl))
  refine bc_iconst (v := 0) dX10_mooring_29 (by decide) ?_
  exact bc_ireturn dX10_mooring_30 rfl rfl (⟨rfl, rfl⟩)
theorem t_mooringB2 {q w : Int32} (hE : mEnv M m n no nq nr nm) (hq : 0 ≤ q ∧ q < nI nm) (h : ¬ (0 ≤ w ∧ w ≤ 2)) : bc_C (d + 2) LM mX10_mooring [.ref 0, .int q, .int w] m (fun r ν => r = some (.int 0) ∧ ν = refM m 2 1) := by
  refine bc_enter (by decide) (Nat.le_of_ble_eq_true rfl) rfl ?_
  refine bc_aload_n dX10_mooring_0 rfl ?_
  refine bc_iconst (v := 0) dX10_mooring_1 (by decide) ?_
  refine bc_put dX10_mooring_2 fX10_3 ftX10 fpX10_0 rfl rfl (rfl) rfl ?_
  refine bc_aload_n dX10_mooring_5 rfl ?_
  refine bc_iload_n dX10_mooring_6 rfl ?_
  refine bc_iconst (v := 1) dX10_mooring_7 (by decide) ?_
  refine bc_callV (z := mX10_isMooring) (ci := 10) dX10_mooring_8 lX10_395 qX10_isMooring (by rfl) (by rfl) (by rfl) (by rfl) (Nat.le_of_ble_eq_true rfl) (t_isMooringY hE.2.1.2.2.2 hE.2.2.1.2 hq rfl (by decide)) (fun r8 μ8 e8 => ?_)
  obtain ⟨rfl, q8⟩ := e8
  obtain rfl := q8.symm
  refine bc_if_eq (tgt := 29) dX10_mooring_11 (by decide) (fun h11 => absurd h11 (by decide)) (fun h11 => ?_)
  refine bc_aload_n dX10_mooring_14 rfl ?_
  refine bc_iload_n dX10_mooring_15 rfl ?_
  refine bc_iconst (v := 0) dX10_mooring_16 (by decide) ?_
  refine bc_iconst (v := 2) dX10_mooring_17 (by decide) ?_
  refine bc_callS (z := mX10_within) dX10_mooring_18 lX10_384 qX10_within (by rfl) (by rfl) (Nat.le_of_ble_eq_true rfl) (t_within _ _ _) (fun r18 μ18 e18 => ?_)
  obtain ⟨rfl, q18⟩ := e18
  obtain rfl := q18.symm
  refine bc_iconst (v := 2) dX10_mooring_21 (by decide) ?_
  refine bc_iconst (v := 1) dX10_mooring_22 (by decide) ?_
  refine bc_callV (z := mX10_may) (ci := 10) dX10_mooring_23 lX10_236 qX10_may (by rfl) (by rfl) (by rfl) (by rfl) (Nat.le_of_ble_eq_true rfl) (t_mayN (k := 1) _ h _ (by decide) rfl (by decide)) (fun r23 μ23 e23 => ?_)
  obtain ⟨rfl, q23⟩ := e23
  obtain rfl := q23.symm
  refine bc_if_ne (tgt := 31) dX10_mooring_26 (by decide) (fun h26 => absurd h26 (fun q => q rfl)) (fun h26 => ?_)
  refine bc_iconst (v := 0) dX10_mooring_29 (by decide) ?_
  exact bc_ireturn dX10_mooring_30 rfl rfl (⟨rfl, rfl⟩)
theorem t_mooring {q w : Nat} (hE : mEnv M m n no nq nr nm) (hN : sR (row 31 M) (m 19)) (hq : q < nm) (hw : w ≤ 2) : bc_C (d + 2) LM mX10_mooring [.ref 0, .int (nI q), .int (nI w)] m (fun r ν => r = some (.int (mooM M q w)) ∧ qS m ν) := by
  refine bc_enter (by decide) (Nat.le_of_ble_eq_true rfl) rfl ?_
  have h6 := hE.2.2.1.2
  have e := hE.2.2.2.2.2.2.1 q hq
  have hc : w = 0 ∨ w = 1 ∨ w = 2 := by omega
  rcases hc with rfl | rfl | rfl
  · skip
    refine bc_aload_n dX10_mooring_0 rfl ?_
    refine bc_iconst (v := 0) dX10_mooring_1 (by decide) ?_
    refine bc_put dX10_mooring_2 fX10_3 ftX10 fpX10_0 rfl rfl (rfl) rfl ?_
    refine bc_aload_n dX10_mooring_5 rfl ?_
    refine bc_iload_n dX10_mooring_6 rfl ?_
    refine bc_iconst (v := 1) dX10_mooring_7 (by decide) ?_
    refine bc_callV (z := mX10_isMooring) (ci := 10) dX10_mooring_8 lX10_395 qX10_isMooring (by rfl) (by rfl) (by rfl) (by rfl) (Nat.le_of_ble_eq_true rfl) (t_isMooringY hE.2.1.2.2.2 h6 (gq hq (by omega)) rfl (by decide)) (fun r8 μ8 e8 => ?_)
    obtain ⟨rfl, q8⟩ := e8
    obtain rfl := q8.symm
    refine bc_if_eq (tgt := 29) dX10_mooring_11 (by decide) (fun h11 => absurd h11 (by decide)) (fun h11 => ?_)
    refine bc_aload_n dX10_mooring_14 rfl ?_
    refine bc_iload_n dX10_mooring_15 rfl ?_
    refine bc_iconst (v := 0) dX10_mooring_16 (by decide) ?_
    refine bc_iconst (v := 2) dX10_mooring_17 (by decide) ?_
    refine bc_callS (z := mX10_within) dX10_mooring_18 lX10_384 qX10_within (by rfl) (by rfl) (Nat.le_of_ble_eq_true rfl) (t_within _ _ _) (fun r18 μ18 e18 => ?_)
    obtain ⟨rfl, q18⟩ := e18
    obtain rfl := q18.symm
    refine bc_iconst (v := 2) dX10_mooring_21 (by decide) ?_
    refine bc_iconst (v := 1) dX10_mooring_22 (by decide) ?_
    refine bc_callV (z := mX10_may) (ci := 10) dX10_mooring_23 lX10_236 qX10_may (by rfl) (by rfl) (by rfl) (by rfl) (Nat.le_of_ble_eq_true rfl) (t_mayY (k := 1) _ (by decide) _ (by decide) rfl (by decide)) (fun r23 μ23 e23 => ?_)
    obtain ⟨rfl, q23⟩ := e23
    obtain rfl := q23.symm
    refine bc_if_ne (tgt := 31) dX10_mooring_26 (by decide) (fun h26 => ?_) (fun h26 => absurd h26 (by decide))
    refine bc_iload_n dX10_mooring_31 rfl ?_
    refine bc_iconst (v := 2) dX10_mooring_32 (by decide) ?_
    refine bc_icmp_ge (tgt := 49) dX10_mooring_33 (by decide) (fun h33 => absurd h33 (by decide)) (fun h33 => ?_)
    refine bc_aload_n dX10_mooring_36 rfl ?_
    refine bc_getr dX10_mooring_37 fX10_44 (rfl) rfl ?_
    refine bc_iconst (v := 2) dX10_mooring_40 (by decide) ?_
    refine bc_iload_n dX10_mooring_41 rfl ?_
    refine bc_imul dX10_mooring_42 ?_
    refine bc_iload_n dX10_mooring_43 rfl ?_
    refine bc_iadd dX10_mooring_44 ?_
    refine bc_ialdE (k := (2 * q) + 0) dX10_mooring_45 (rfl) (ixA (a := 2 * q) (b := 0) (ixM (a := 2) (b := q) (rfl) (rfl)) (rfl)) (⟨by omega, by decide⟩) ?_
    refine bc_goto (tgt := 54) dX10_mooring_46 (by decide) ?_
    exact bc_ireturn dX10_mooring_54 rfl rfl (⟨congrArg (fun z => some (Value.int z)) (e.1), qS_0⟩)
  · skip
    refine bc_aload_n dX10_mooring_0 rfl ?_
    refine bc_iconst (v := 0) dX10_mooring_1 (by decide) ?_
    refine bc_put dX10_mooring_2 fX10_3 ftX10 fpX10_0 rfl rfl (rfl) rfl ?_
    refine bc_aload_n dX10_mooring_5 rfl ?_
    refine bc_iload_n dX10_mooring_6 rfl ?_
    refine bc_iconst (v := 1) dX10_mooring_7 (by decide) ?_
    refine bc_callV (z := mX10_isMooring) (ci := 10) dX10_mooring_8 lX10_395 qX10_isMooring (by rfl) (by rfl) (by rfl) (by rfl) (Nat.le_of_ble_eq_true rfl) (t_isMooringY hE.2.1.2.2.2 h6 (gq hq (by omega)) rfl (by decide)) (fun r8 μ8 e8 => ?_)
    obtain ⟨rfl, q8⟩ := e8
    obtain rfl := q8.symm
    refine bc_if_eq (tgt := 29) dX10_mooring_11 (by decide) (fun h11 => absurd h11 (by decide)) (fun h11 => ?_)
    refine bc_aload_n dX10_mooring_14 rfl ?_
    refine bc_iload_n dX10_mooring_15 rfl ?_
    refine bc_iconst (v := 0) dX10_mooring_16 (by decide) ?_
    refine bc_iconst (v := 2) dX10_mooring_17 (by decide) ?_
    refine bc_callS (z := mX10_within) dX10_mooring_18 lX10_384 qX10_within (by rfl) (by rfl) (Nat.le_of_ble_eq_true rfl) (t_within _ _ _) (fun r18 μ18 e18 => ?_)
    obtain ⟨rfl, q18⟩ := e18
    obtain rfl := q18.symm
    refine bc_iconst (v := 2) dX10_mooring_21 (by decide) ?_
    refine bc_iconst (v := 1) dX10_mooring_22 (by decide) ?_
    refine bc_callV (z := mX10_may) (ci := 10) dX10_mooring_23 lX10_236 qX10_may (by rfl) (by rfl) (by rfl) (by rfl) (Nat.le_of_ble_eq_true rfl) (t_mayY (k := 1) _ (by decide) _ (by decide) rfl (by decide)) (fun r23 μ23 e23 => ?_)
    obtain ⟨rfl, q23⟩ := e23
    obtain rfl := q23.symm
    refine bc_if_ne (tgt := 31) dX10_mooring_26 (by decide) (fun h26 => ?_) (fun h26 => absurd h26 (by decide))
    refine bc_iload_n dX10_mooring_31 rfl ?_
    refine bc_iconst (v := 2) dX10_mooring_32 (by decide) ?_
    refine bc_icmp_ge (tgt := 49) dX10_mooring_33 (by decide) (fun h33 => absurd h33 (by decide)) (fun h33 => ?_)
    refine bc_aload_n dX10_mooring_36 rfl ?_
    refine bc_getr dX10_mooring_37 fX10_44 (rfl) rfl ?_
    refine bc_iconst (v := 2) dX10_mooring_40 (by decide) ?_
    refine bc_iload_n dX10_mooring_41 rfl ?_
    refine bc_imul dX10_mooring_42 ?_
    refine bc_iload_n dX10_mooring_43 rfl ?_
    refine bc_iadd dX10_mooring_44 ?_
    refine bc_ialdE (k := (2 * q) + 1) dX10_mooring_45 (rfl) (ixA (a := 2 * q) (b := 1) (ixM (a := 2) (b := q) (rfl) (rfl)) (rfl)) (⟨by omega, by decide⟩) ?_
    refine bc_goto (tgt := 54) dX10_mooring_46 (by decide) ?_
    exact bc_ireturn dX10_mooring_54 rfl rfl (⟨congrArg (fun z => some (Value.int z)) (e.2.1), qS_0⟩)
  · skip
    refine bc_aload_n dX10_mooring_0 rfl ?_
    refine bc_iconst (v := 0) dX10_mooring_1 (by decide) ?_
    refine bc_put dX10_mooring_2 fX10_3 ftX10 fpX10_0 rfl rfl (rfl) rfl ?_
    refine bc_aload_n dX10_mooring_5 rfl ?_
    refine bc_iload_n dX10_mooring_6 rfl ?_
    refine bc_iconst (v := 1) dX10_mooring_7 (by decide) ?_
    refine bc_callV (z := mX10_isMooring) (ci := 10) dX10_mooring_8 lX10_395 qX10_isMooring (by rfl) (by rfl) (by rfl) (by rfl) (Nat.le_of_ble_eq_true rfl) (t_isMooringY hE.2.1.2.2.2 h6 (gq hq (by omega)) rfl (by decide)) (fun r8 μ8 e8 => ?_)
    obtain ⟨rfl, q8⟩ := e8
    obtain rfl := q8.symm
    refine bc_if_eq (tgt := 29) dX10_mooring_11 (by decide) (fun h11 => absurd h11 (by decide)) (fun h11 => ?_)
    refine bc_aload_n dX10_mooring_14 rfl ?_
    refine bc_iload_n dX10_mooring_15 rfl ?_
    refine bc_iconst (v := 0) dX10_mooring_16 (by decide) ?_
    refine bc_iconst (v := 2) dX10_mooring_17 (by decide) ?_
    refine bc_callS (z := mX10_within) dX10_mooring_18 lX10_384 qX10_within (by rfl) (by rfl) (Nat.le_of_ble_eq_true rfl) (t_within _ _ _) (fun r18 μ18 e18 => ?_)
    obtain ⟨rfl, q18⟩ := e18
    obtain rfl := q18.symm
    refine bc_iconst (v := 2) dX10_mooring_21 (by decide) ?_
    refine bc_iconst (v := 1) dX10_mooring_22 (by decide) ?_
    refine bc_callV (z := mX10_may) (ci := 10) dX10_mooring_23 lX10_236 qX10_may (by rfl) (by rfl) (by rfl) (by rfl) (Nat.le_of_ble_eq_true rfl) (t_mayY (k := 1) _ (by decide) _ (by decide) rfl (by decide)) (fun r23 μ23 e23 => ?_)
    obtain ⟨rfl, q23⟩ := e23
    obtain rfl := q23.symm
    refine bc_if_ne (tgt := 31) dX10_mooring_26 (by decide) (fun h26 => ?_) (fun h26 => absurd h26 (by decide))
    refine bc_iload_n dX10_mooring_31 rfl ?_
    refine bc_iconst (v := 2) dX10_mooring_32 (by decide) ?_
    refine bc_icmp_ge (tgt := 49) dX10_mooring_33 (by decide) (fun h33 => ?_) (fun h33 => absurd h33 (by decide))
    refine bc_aload_n dX10_mooring_49 rfl ?_
    refine bc_iload_n dX10_mooring_50 rfl ?_
    refine bc_callV (z := mX10_farOf) (ci := 10) dX10_mooring_51 lX10_398 qX10_farOf (by rfl) (by rfl) (by rfl) (by rfl) (Nat.le_of_ble_eq_true rfl) (t_farOf (M := M) hE.t0 hN hq) (fun r51 μ51 e51 => ?_)
    obtain ⟨rfl, q51⟩ := e51
    obtain rfl := q51.symm
    exact bc_ireturn dX10_mooring_54 rfl rfl (⟨congrArg (fun z => some (Value.int z)) (rfl), qS_0⟩)
theorem t_reedB {x y : Int32} (h : ¬ (0 ≤ x ∧ x < 31 ∧ 0 ≤ y ∧ y < 31)) : bc_C (d + 2) LM mX10_reed [.ref 0, .int x, .int y] m (fun r ν => r = some (.int 0) ∧ ν = refM m 1 1) := by
  refine bc_enter (by decide) (Nat.le_of_ble_eq_true rfl) rfl ?_
  refine bc_aload_n dX10_reed_0 rfl ?_
  refine bc_iconst (v := 0) dX10_reed_1 (by decide) ?_
  refine bc_put dX10_reed_2 fX10_3 ftX10 fpX10_0 rfl rfl (rfl) rfl ?_
  refine bc_aload_n dX10_reed_5 rfl ?_
  refine bc_iload_n dX10_reed_6 rfl ?_
  refine bc_iload_n dX10_reed_7 rfl ?_
  refine bc_callS (z := mX10_isCell) dX10_reed_8 lX10_365 qX10_isCell (by rfl) (by rfl) (Nat.le_of_ble_eq_true rfl) (t_isCell _ _) (fun r8 μ8 e8 => ?_)
  obtain ⟨rfl, q8⟩ := e8
  obtain rfl := q8.symm
  refine bc_iconst (v := 1) dX10_reed_11 (by decide) ?_
  refine bc_iconst (v := 1) dX10_reed_12 (by decide) ?_
  refine bc_callV (z := mX10_may) (ci := 10) dX10_reed_13 lX10_236 qX10_may (by rfl) (by rfl) (by rfl) (by rfl) (Nat.le_of_ble_eq_true rfl) (t_mayN (k := 1) _ h _ (by decide) rfl (by decide)) (fun r13 μ13 e13 => ?_)
  obtain ⟨rfl, q13⟩ := e13
  obtain rfl := q13.symm
  refine bc_if_ne (tgt := 21) dX10_reed_16 (by decide) (fun h16 => absurd h16 (fun q => q rfl)) (fun h16 => ?_)
  refine bc_iconst (v := 0) dX10_reed_19 (by decide) ?_
  exact bc_ireturn dX10_reed_20 rfl rfl (⟨rfl, rfl⟩)
theorem t_reed {x y : Int32} (hE : mEnv M m n no nq nr nm) (h : 0 ≤ x ∧ x < 31 ∧ 0 ≤ y ∧ y < 31) : bc_C (d + 2) LM mX10_reed [.ref 0, .int x, .int y] m (fun r ν => r = some (.int (b01 (en M 10 31 y >>> (x &&& 31) &&& 1 = 1))) ∧ qS m ν) := by
  refine bc_enter (by decide) (Nat.le_of_ble_eq_true rfl) rfl ?_
  have e30 : (30 : Int32).toInt = 30 := rfl
  have e31 : (31 : Int32).toInt = 31 := rfl
  have hr := hE.2.2.2.2.2.1 x y h.1 (by have := h.2.1; rw [bn_lt, e31] at this; rw [bn_le, e30]; omega) h.2.2.1 (by have := h.2.2.2; rw [bn_lt, e31] at this; rw [bn_le, e30]; omega)
  refine bc_aload_n dX10_reed_0 rfl ?_
  refine bc_iconst (v := 0) dX10_reed_1 (by decide) ?_
  refine bc_put dX10_reed_2 fX10_3 ftX10 fpX10_0 rfl rfl (rfl) rfl ?_
  refine bc_aload_n dX10_reed_5 rfl ?_
  refine bc_iload_n dX10_reed_6 rfl ?_
  refine bc_iload_n dX10_reed_7 rfl ?_
  refine bc_callS (z := mX10_isCell) dX10_reed_8 lX10_365 qX10_isCell (by rfl) (by rfl) (Nat.le_of_ble_eq_true rfl) (t_isCell _ _) (fun r8 μ8 e8 => ?_)
  obtain ⟨rfl, q8⟩ := e8
  obtain rfl := q8.symm
  refine bc_iconst (v := 1) dX10_reed_11 (by decide) ?_
  refine bc_iconst (v := 1) dX10_reed_12 (by decide) ?_
  refine bc_callV (z := mX10_may) (ci := 10) dX10_reed_13 lX10_236 qX10_may (by rfl) (by rfl) (by rfl) (by rfl) (Nat.le_of_ble_eq_true rfl) (t_mayY (k := 1) _ h _ (by decide) rfl (by decide)) (fun r13 μ13 e13 => ?_)
  obtain ⟨rfl, q13⟩ := e13
  obtain rfl := q13.symm
  refine bc_if_ne (tgt := 21) dX10_reed_16 (by decide) (fun h16 => ?_) (fun h16 => absurd h16 (by decide))
  refine bc_aload_n dX10_reed_21 rfl ?_
  refine bc_iload_n dX10_reed_22 rfl ?_
  refine bc_iload_n dX10_reed_23 rfl ?_
  refine bc_callV (z := mX10_isReed) (ci := 10) dX10_reed_24 lX10_369 qX10_isReed (by rfl) (by rfl) (by rfl) (by rfl) (Nat.le_of_ble_eq_true rfl) (t_isReed _ _ hE.2.1.2.2.1 hE.2.2.1.1) (fun r24 μ24 e24 => ?_)
  obtain ⟨rfl, q24⟩ := e24
  obtain rfl := q24.symm
  refine bc_if_eq (tgt := 34) dX10_reed_27 (by decide) (fun h27 => ?_) (fun h27 => ?_)
  · refine bc_iconst (v := 0) dX10_reed_34 (by decide) ?_
    exact bc_ireturn dX10_reed_35 rfl rfl (⟨by rw [b01, if_neg (fun e => ite0.mp h27 (hr.mpr e))], qS_0⟩)
  · refine bc_iconst (v := 1) dX10_reed_30 (by decide) ?_
    refine bc_goto (tgt := 35) dX10_reed_31 (by decide) ?_
    exact bc_ireturn dX10_reed_35 rfl rfl (⟨by rw [b01, if_pos (hr.mp (Decidable.not_not.mp (fun e => h27 (ite0.mpr e))))], qS_0⟩)
theorem t_driftB {w : Int32} (h : ¬ (0 ≤ w ∧ w ≤ 1)) : bc_C (d + 2) LM mX10_drift [.ref 0, .int w] m (fun r ν => r = some (.int 0) ∧ ν = refM m 1 1) := by
  refine bc_enter (by decide) (Nat.le_of_ble_eq_true rfl) rfl ?_
  refine bc_aload_n dX10_drift_0 rfl ?_
  refine bc_iconst (v := 0) dX10_drift_1 (by decide) ?_
  refine bc_put dX10_drift_2 fX10_3 ftX10 fpX10_0 rfl rfl (rfl) rfl ?_
  refine bc_aload_n dX10_drift_5 rfl ?_
  refine bc_iload_n dX10_drift_6 rfl ?_
  refine bc_iconst (v := 0) dX10_drift_7 (by decide) ?_
  refine bc_iconst (v := 1) dX10_drift_8 (by decide) ?_
  refine bc_callS (z := mX10_within) dX10_drift_9 lX10_384 qX10_within (by rfl) (by rfl) (Nat.le_of_ble_eq_true rfl) (t_within _ _ _) (fun r9 μ9 e9 => ?_)
  obtain ⟨rfl, q9⟩ := e9
  obtain rfl := q9.symm
  refine bc_iconst (v := 1) dX10_drift_12 (by decide) ?_
  refine bc_iconst (v := 1) dX10_drift_13 (by decide) ?_
  refine bc_callV (z := mX10_may) (ci := 10) dX10_drift_14 lX10_236 qX10_may (by rfl) (by rfl) (by rfl) (by rfl) (Nat.le_of_ble_eq_true rfl) (t_mayN (k := 1) _ h _ (by decide) rfl (by decide)) (fun r14 μ14 e14 => ?_)
  obtain ⟨rfl, q14⟩ := e14
  obtain rfl := q14.symm
  refine bc_if_ne (tgt := 22) dX10_drift_17 (by decide) (fun h17 => absurd h17 (fun q => q rfl)) (fun h17 => ?_)
  refine bc_iconst (v := 0) dX10_drift_20 (by decide) ?_
  exact bc_ireturn dX10_drift_21 rfl rfl (⟨rfl, rfl⟩)
theorem t_drift {w : Nat} (hE : mEnv M m n no nq nr nm) (hN : sR (row 31 M) (m 19)) (hA : okA no (row 31 M)) (hw : w ≤ 1) : bc_C (d + 6) LM mX10_drift [.ref 0, .int (nI w)] m (fun r ν => r = some (.int (if w = 0 then eaM M 31 n no nq (lbM (M 32) 0 no) (M 31 4) else noM M 31 n no nq (lbM (M 32) 0 no) (M 31 4))) ∧ qS m ν) := by
  refine bc_enter (by decide) (Nat.le_of_ble_eq_true rfl) rfl ?_
  have hs := sR_cp (g := m 20) hN
  have h6 := hE.q6
  have h8 := hE.o8
  have hE1 : mEnv M (bc_us (bc_u m 0 0 0) 20 (cpN (m 19) (m 20) 33)) n no nq nr nm := hE.t0.s20 _
  have hc : w = 0 ∨ w = 1 := by omega
  rcases hc with rfl | rfl
  · skip
    refine bc_aload_n dX10_drift_0 rfl ?_
    refine bc_iconst (v := 0) dX10_drift_1 (by decide) ?_
    refine bc_put dX10_drift_2 fX10_3 ftX10 fpX10_0 rfl rfl (rfl) rfl ?_
    refine bc_aload_n dX10_drift_5 rfl ?_
    refine bc_iload_n dX10_drift_6 rfl ?_
    refine bc_iconst (v := 0) dX10_drift_7 (by decide) ?_
    refine bc_iconst (v := 1) dX10_drift_8 (by decide) ?_
    refine bc_callS (z := mX10_within) dX10_drift_9 lX10_384 qX10_within (by rfl) (by rfl) (Nat.le_of_ble_eq_true rfl) (t_within _ _ _) (fun r9 μ9 e9 => ?_)
    obtain ⟨rfl, q9⟩ := e9
    obtain rfl := q9.symm
    refine bc_iconst (v := 1) dX10_drift_12 (by decide) ?_
    refine bc_iconst (v := 1) dX10_drift_13 (by decide) ?_
    refine bc_callV (z := mX10_may) (ci := 10) dX10_drift_14 lX10_236 qX10_may (by rfl) (by rfl) (by rfl) (by rfl) (Nat.le_of_ble_eq_true rfl) (t_mayY (k := 1) _ (by decide) _ (by decide) rfl (by decide)) (fun r14 μ14 e14 => ?_)
    obtain ⟨rfl, q14⟩ := e14
    obtain rfl := q14.symm
    refine bc_if_ne (tgt := 22) dX10_drift_17 (by decide) (fun h17 => ?_) (fun h17 => absurd h17 (by decide))
    refine bc_aload_n dX10_drift_22 rfl ?_
    refine bc_callV (z := mX10_take) (ci := 10) dX10_drift_23 lX10_333 qX10_take (by rfl) (by rfl) (by rfl) (by rfl) (Nat.le_of_ble_eq_true rfl) (t_take) (fun r23 μ23 e23 => ?_)
    obtain ⟨rfl, q23⟩ := e23
    obtain rfl := q23.symm
    refine bc_aload_n dX10_drift_26 rfl ?_
    refine bc_iconst (v := 1) dX10_drift_27 (by decide) ?_
    refine bc_iload_n dX10_drift_28 rfl ?_
    refine bc_isub dX10_drift_29 ?_
    refine bc_callV (z := mX10_driftTo) (ci := 10) dX10_drift_30 lX10_372 qX10_driftTo (by rfl) (by rfl) (by rfl) (by rfl) (Nat.le_of_ble_eq_true rfl) (t_driftTo (j := 1) hE1 hs hA (by omega)) (fun r30 μ30 e30 => ?_)
    obtain ⟨rfl, h30⟩ := e30
    exact bc_ireturn dX10_drift_33 rfl rfl (⟨by rw [if_pos rfl, eaM, ms_now h6 h8 (Nat.le_refl _), ms_now h6 h8 (Nat.le_refl _)], qS.of (fun i a b e => by rw [h30 i a b, bc_us_ne _ _ e])⟩)
  · skip
    refine bc_aload_n dX10_drift_0 rfl ?_
    refine bc_iconst (v := 0) dX10_drift_1 (by decide) ?_
    refine bc_put dX10_drift_2 fX10_3 ftX10 fpX10_0 rfl rfl (rfl) rfl ?_
    refine bc_aload_n dX10_drift_5 rfl ?_
    refine bc_iload_n dX10_drift_6 rfl ?_
    refine bc_iconst (v := 0) dX10_drift_7 (by decide) ?_
    refine bc_iconst (v := 1) dX10_drift_8 (by decide) ?_
    refine bc_callS (z := mX10_within) dX10_drift_9 lX10_384 qX10_within (by rfl) (by rfl) (Nat.le_of_ble_eq_true rfl) (t_within _ _ _) (fun r9 μ9 e9 => ?_)
    obtain ⟨rfl, q9⟩ := e9
    obtain rfl := q9.symm
    refine bc_iconst (v := 1) dX10_drift_12 (by decide) ?_
    refine bc_iconst (v := 1) dX10_drift_13 (by decide) ?_
    refine bc_callV (z := mX10_may) (ci := 10) dX10_drift_14 lX10_236 qX10_may (by rfl) (by rfl) (by rfl) (by rfl) (Nat.le_of_ble_eq_true rfl) (t_mayY (k := 1) _ (by decide) _ (by decide) rfl (by decide)) (fun r14 μ14 e14 => ?_)
    obtain ⟨rfl, q14⟩ := e14
    obtain rfl := q14.symm
    refine bc_if_ne (tgt := 22) dX10_drift_17 (by decide) (fun h17 => ?_) (fun h17 => absurd h17 (by decide))
    refine bc_aload_n dX10_drift_22 rfl ?_
    refine bc_callV (z := mX10_take) (ci := 10) dX10_drift_23 lX10_333 qX10_take (by rfl) (by rfl) (by rfl) (by rfl) (Nat.le_of_ble_eq_true rfl) (t_take) (fun r23 μ23 e23 => ?_)
    obtain ⟨rfl, q23⟩ := e23
    obtain rfl := q23.symm
    refine bc_aload_n dX10_drift_26 rfl ?_
    refine bc_iconst (v := 1) dX10_drift_27 (by decide) ?_
    refine bc_iload_n dX10_drift_28 rfl ?_
    refine bc_isub dX10_drift_29 ?_
    refine bc_callV (z := mX10_driftTo) (ci := 10) dX10_drift_30 lX10_372 qX10_driftTo (by rfl) (by rfl) (by rfl) (by rfl) (Nat.le_of_ble_eq_true rfl) (t_driftTo (j := 0) hE1 hs hA (by omega)) (fun r30 μ30 e30 => ?_)
    obtain ⟨rfl, h30⟩ := e30
    exact bc_ireturn dX10_drift_33 rfl rfl (⟨by rw [if_neg (by decide), noM, ms_now h6 h8 (Nat.le_refl _), ms_now h6 h8 (Nat.le_refl _)], qS.of (fun i a b e => by rw [h30 i a b, bc_us_ne _ _ e])⟩)
theorem t_wouldB {a0 a1 a2 a3 a4 a5 a6 : Int32} (h : ¬ ((0 ≤ a0 ∧ a0 ≤ 72) ∧ (0 ≤ a1 ∧ a1 ≤ 99) ∧ (0 ≤ a2 ∧ a2 ≤ 8) ∧ (0 ≤ a3 ∧ a3 ≤ 72) ∧ (0 ≤ a4 ∧ a4 ≤ 99) ∧ (0 ≤ a5 ∧ a5 ≤ 3) ∧ (0 ≤ a6 ∧ a6 ≤ 900))) : bc_C (d + 2) LM mX10_would [.ref 0, .int a0, .int a1, .int a2, .int a3, .int a4, .int a5, .int a6] m (fun r ν => r = some (.int 0) ∧ ν = refM m 1 1) := by
  refine bc_enter (by decide) (Nat.le_of_ble_eq_true rfl) rfl ?_
  have bad : bc_W (d + 2) LM mX10_would 84 [.ref 0, .int a0, .int a1, .int a2, .int a3, .int a4, .int a5, .int a6] [.ref 0] (bc_u m 0 0 0) (fun r ν => r = some (.int 0) ∧ ν = refM m 1 1) := by
    refine bc_iconst (v := 0) dX10_would_84 (by decide) ?_
    refine bc_iconst (v := 1) dX10_would_85 (by decide) ?_
    refine bc_iconst (v := 1) dX10_would_86 (by decide) ?_
    refine bc_callV (z := mX10_may) (ci := 10) dX10_would_87 lX10_236 qX10_may (by rfl) (by rfl) (by rfl) (by rfl) (Nat.le_of_ble_eq_true rfl) (t_mayN (k := 1) False (fun x => x) _ (by decide) rfl (by decide)) (fun r87 μ87 e87 => ?_)
    obtain ⟨rfl, q87⟩ := e87
    obtain rfl := q87.symm
    refine bc_if_ne (tgt := 95) dX10_would_90 (by decide) (fun h90 => absurd h90 (fun q => q rfl)) (fun h90 => ?_)
    refine bc_iconst (v := 0) dX10_would_93 (by decide) ?_
    exact bc_ireturn dX10_would_94 rfl rfl (⟨rfl, rfl⟩)
  refine bc_aload_n dX10_would_0 rfl ?_
  refine bc_iconst (v := 0) dX10_would_1 (by decide) ?_
  refine bc_put dX10_would_2 fX10_3 ftX10 fpX10_0 rfl rfl (rfl) rfl ?_
  refine bc_aload_n dX10_would_5 rfl ?_
  refine bc_iload_n dX10_would_6 rfl ?_
  refine bc_iconst (v := 0) dX10_would_7 (by decide) ?_
  refine bc_bipush (v := 72) dX10_would_8 (by decide) ?_
  refine bc_callS (z := mX10_within) dX10_would_10 lX10_384 qX10_within (by rfl) (by rfl) (Nat.le_of_ble_eq_true rfl) (t_within _ _ _) (fun r10 μ10 e10 => ?_)
  obtain ⟨rfl, q10⟩ := e10
  obtain rfl := q10.symm
  refine bc_if_eq (tgt := 84) dX10_would_13 (by decide) (fun h13 => ?_) (fun h13 => ?_)
  · exact bad
  · refine bc_iload_n dX10_would_16 rfl ?_
    refine bc_iconst (v := 0) dX10_would_17 (by decide) ?_
    refine bc_bipush (v := 99) dX10_would_18 (by decide) ?_
    refine bc_callS (z := mX10_within) dX10_would_20 lX10_384 qX10_within (by rfl) (by rfl) (Nat.le_of_ble_eq_true rfl) (t_within _ _ _) (fun r20 μ20 e20 => ?_)
    obtain ⟨rfl, q20⟩ := e20
    obtain rfl := q20.symm
    refine bc_if_eq (tgt := 84) dX10_would_23 (by decide) (fun h23 => ?_) (fun h23 => ?_)
    · exact bad
    · refine bc_iload_n dX10_would_26 rfl ?_
      refine bc_iconst (v := 0) dX10_would_27 (by decide) ?_
      refine bc_bipush (v := 8) dX10_would_28 (by decide) ?_
      refine bc_callS (z := mX10_within) dX10_would_30 lX10_384 qX10_within (by rfl) (by rfl) (Nat.le_of_ble_eq_true rfl) (t_within _ _ _) (fun r30 μ30 e30 => ?_)
      obtain ⟨rfl, q30⟩ := e30
      obtain rfl := q30.symm
      refine bc_if_eq (tgt := 84) dX10_would_33 (by decide) (fun h33 => ?_) (fun h33 => ?_)
      · exact bad
      · refine bc_iload dX10_would_36 rfl ?_
        refine bc_iconst (v := 0) dX10_would_38 (by decide) ?_
        refine bc_bipush (v := 72) dX10_would_39 (by decide) ?_
        refine bc_callS (z := mX10_within) dX10_would_41 lX10_384 qX10_within (by rfl) (by rfl) (Nat.le_of_ble_eq_true rfl) (t_within _ _ _) (fun r41 μ41 e41 => ?_)
        obtain ⟨rfl, q41⟩ := e41
        obtain rfl := q41.symm
        refine bc_if_eq (tgt := 84) dX10_would_44 (by decide) (fun h44 => ?_) (fun h44 => ?_)
        · exact bad
        · refine bc_iload dX10_would_47 rfl ?_
          refine bc_iconst (v := 0) dX10_would_49 (by decide) ?_
          refine bc_bipush (v := 99) dX10_would_50 (by decide) ?_
          refine bc_callS (z := mX10_within) dX10_would_52 lX10_384 qX10_within (by rfl) (by rfl) (Nat.le_of_ble_eq_true rfl) (t_within _ _ _) (fun r52 μ52 e52 => ?_)
          obtain ⟨rfl, q52⟩ := e52
          obtain rfl := q52.symm
          refine bc_if_eq (tgt := 84) dX10_would_55 (by decide) (fun h55 => ?_) (fun h55 => ?_)
          · exact bad
          · refine bc_iload dX10_would_58 rfl ?_
            refine bc_iconst (v := 0) dX10_would_60 (by decide) ?_
            refine bc_iconst (v := 3) dX10_would_61 (by decide) ?_
            refine bc_callS (z := mX10_within) dX10_would_62 lX10_384 qX10_within (by rfl) (by rfl) (Nat.le_of_ble_eq_true rfl) (t_within _ _ _) (fun r62 μ62 e62 => ?_)
            obtain ⟨rfl, q62⟩ := e62
            obtain rfl := q62.symm
            refine bc_if_eq (tgt := 84) dX10_would_65 (by decide) (fun h65 => ?_) (fun h65 => ?_)
            · exact bad
            · refine bc_iload dX10_would_68 rfl ?_
              refine bc_iconst (v := 0) dX10_would_70 (by decide) ?_
              refine bc_sipush (v := 900) dX10_would_71 (by decide) ?_
              refine bc_callS (z := mX10_within) dX10_would_74 lX10_384 qX10_within (by rfl) (by rfl) (Nat.le_of_ble_eq_true rfl) (t_within _ _ _) (fun r74 μ74 e74 => ?_)
              obtain ⟨rfl, q74⟩ := e74
              obtain rfl := q74.symm
              refine bc_if_eq (tgt := 84) dX10_would_77 (by decide) (fun h77 => ?_) (fun h77 => ?_)
              · exact bad
              · exact absurd (⟨Decidable.not_not.mp (fun e => h13 (ite0.mpr e)), Decidable.not_not.mp (fun e => h23 (ite0.mpr e)), Decidable.not_not.mp (fun e => h33 (ite0.mpr e)), Decidable.not_not.mp (fun e => h44 (ite0.mpr e)), Decidable.not_not.mp (fun e => h55 (ite0.mpr e)), Decidable.not_not.mp (fun e => h65 (ite0.mpr e)), Decidable.not_not.mp (fun e => h77 (ite0.mpr e))⟩) h
theorem t_would {a0 a1 a2 a3 a4 a5 a6 : Int32} (hE : mEnv M m n no nq nr nm) (h : (0 ≤ a0 ∧ a0 ≤ 72) ∧ (0 ≤ a1 ∧ a1 ≤ 99) ∧ (0 ≤ a2 ∧ a2 ≤ 8) ∧ (0 ≤ a3 ∧ a3 ≤ 72) ∧ (0 ≤ a4 ∧ a4 ≤ 99) ∧ (0 ≤ a5 ∧ a5 ≤ 3) ∧ (0 ≤ a6 ∧ a6 ≤ 900)) : bc_C (d + 4) LM mX10_would [.ref 0, .int a0, .int a1, .int a2, .int a3, .int a4, .int a5, .int a6] m (fun r ν => r = some (.int (lawV (M 20) n (fcs a0 a1 a2 a3 a4 a5 a6))) ∧ qS m ν) := by
  refine bc_enter (by decide) (Nat.le_of_ble_eq_true rfl) rfl ?_
  obtain ⟨g0, g1, g2, g3, g4, g5, g6⟩ := h
  refine bc_aload_n dX10_would_0 rfl ?_
  refine bc_iconst (v := 0) dX10_would_1 (by decide) ?_
  refine bc_put dX10_would_2 fX10_3 ftX10 fpX10_0 rfl rfl (rfl) rfl ?_
  refine bc_aload_n dX10_would_5 rfl ?_
  refine bc_iload_n dX10_would_6 rfl ?_
  refine bc_iconst (v := 0) dX10_would_7 (by decide) ?_
  refine bc_bipush (v := 72) dX10_would_8 (by decide) ?_
  refine bc_callS (z := mX10_within) dX10_would_10 lX10_384 qX10_within (by rfl) (by rfl) (Nat.le_of_ble_eq_true rfl) (t_within _ _ _) (fun r10 μ10 e10 => ?_)
  obtain ⟨rfl, q10⟩ := e10
  obtain rfl := q10.symm
  refine bc_if_eq (tgt := 84) dX10_would_13 (by decide) (fun h13 => absurd h13 (fun e => ite0.mp e g0)) (fun h13 => ?_)
  refine bc_iload_n dX10_would_16 rfl ?_
  refine bc_iconst (v := 0) dX10_would_17 (by decide) ?_
  refine bc_bipush (v := 99) dX10_would_18 (by decide) ?_
  refine bc_callS (z := mX10_within) dX10_would_20 lX10_384 qX10_within (by rfl) (by rfl) (Nat.le_of_ble_eq_true rfl) (t_within _ _ _) (fun r20 μ20 e20 => ?_)
  obtain ⟨rfl, q20⟩ := e20
  obtain rfl := q20.symm
  refine bc_if_eq (tgt := 84) dX10_would_23 (by decide) (fun h23 => absurd h23 (fun e => ite0.mp e g1)) (fun h23 => ?_)
  refine bc_iload_n dX10_would_26 rfl ?_
  refine bc_iconst (v := 0) dX10_would_27 (by decide) ?_
  refine bc_bipush (v := 8) dX10_would_28 (by decide) ?_
  refine bc_callS (z := mX10_within) dX10_would_30 lX10_384 qX10_within (by rfl) (by rfl) (Nat.le_of_ble_eq_true rfl) (t_within _ _ _) (fun r30 μ30 e30 => ?_)
  obtain ⟨rfl, q30⟩ := e30
  obtain rfl := q30.symm
  refine bc_if_eq (tgt := 84) dX10_would_33 (by decide) (fun h33 => absurd h33 (fun e => ite0.mp e g2)) (fun h33 => ?_)
  refine bc_iload dX10_would_36 rfl ?_
  refine bc_iconst (v := 0) dX10_would_38 (by decide) ?_
  refine bc_bipush (v := 72) dX10_would_39 (by decide) ?_
  refine bc_callS (z := mX10_within) dX10_would_41 lX10_384 qX10_within (by rfl) (by rfl) (Nat.le_of_ble_eq_true rfl) (t_within _ _ _) (fun r41 μ41 e41 => ?_)
  obtain ⟨rfl, q41⟩ := e41
  obtain rfl := q41.symm
  refine bc_if_eq (tgt := 84) dX10_would_44 (by decide) (fun h44 => absurd h44 (fun e => ite0.mp e g3)) (fun h44 => ?_)
  refine bc_iload dX10_would_47 rfl ?_
  refine bc_iconst (v := 0) dX10_would_49 (by decide) ?_
  refine bc_bipush (v := 99) dX10_would_50 (by decide) ?_
  refine bc_callS (z := mX10_within) dX10_would_52 lX10_384 qX10_within (by rfl) (by rfl) (Nat.le_of_ble_eq_true rfl) (t_within _ _ _) (fun r52 μ52 e52 => ?_)
  obtain ⟨rfl, q52⟩ := e52
  obtain rfl := q52.symm
  refine bc_if_eq (tgt := 84) dX10_would_55 (by decide) (fun h55 => absurd h55 (fun e => ite0.mp e g4)) (fun h55 => ?_)
  refine bc_iload dX10_would_58 rfl ?_
  refine bc_iconst (v := 0) dX10_would_60 (by decide) ?_
  refine bc_iconst (v := 3) dX10_would_61 (by decide) ?_
  refine bc_callS (z := mX10_within) dX10_would_62 lX10_384 qX10_within (by rfl) (by rfl) (Nat.le_of_ble_eq_true rfl) (t_within _ _ _) (fun r62 μ62 e62 => ?_)
  obtain ⟨rfl, q62⟩ := e62
  obtain rfl := q62.symm
  refine bc_if_eq (tgt := 84) dX10_would_65 (by decide) (fun h65 => absurd h65 (fun e => ite0.mp e g5)) (fun h65 => ?_)
  refine bc_iload dX10_would_68 rfl ?_
  refine bc_iconst (v := 0) dX10_would_70 (by decide) ?_
  refine bc_sipush (v := 900) dX10_would_71 (by decide) ?_
  refine bc_callS (z := mX10_within) dX10_would_74 lX10_384 qX10_within (by rfl) (by rfl) (Nat.le_of_ble_eq_true rfl) (t_within _ _ _) (fun r74 μ74 e74 => ?_)
  obtain ⟨rfl, q74⟩ := e74
  obtain rfl := q74.symm
  refine bc_if_eq (tgt := 84) dX10_would_77 (by decide) (fun h77 => absurd h77 (fun e => ite0.mp e g6)) (fun h77 => ?_)
  refine bc_iconst (v := 1) dX10_would_80 (by decide) ?_
  refine bc_goto (tgt := 85) dX10_would_81 (by decide) ?_
  refine bc_iconst (v := 1) dX10_would_85 (by decide) ?_
  refine bc_iconst (v := 1) dX10_would_86 (by decide) ?_
  refine bc_callV (z := mX10_may) (ci := 10) dX10_would_87 lX10_236 qX10_may (by rfl) (by rfl) (by rfl) (by rfl) (Nat.le_of_ble_eq_true rfl) (t_mayY (k := 1) True trivial _ (by decide) rfl (by decide)) (fun r87 μ87 e87 => ?_)
  obtain ⟨rfl, q87⟩ := e87
  obtain rfl := q87.symm
  refine bc_if_ne (tgt := 95) dX10_would_90 (by decide) (fun h90 => ?_) (fun h90 => absurd h90 (by decide))
  refine bc_aload_n dX10_would_95 rfl ?_
  refine bc_iload_n dX10_would_96 rfl ?_
  refine bc_iload_n dX10_would_97 rfl ?_
  refine bc_iload_n dX10_would_98 rfl ?_
  refine bc_iload dX10_would_99 rfl ?_
  refine bc_iload dX10_would_101 rfl ?_
  refine bc_iload dX10_would_103 rfl ?_
  refine bc_iload dX10_would_105 rfl ?_
  refine bc_callV (z := mX10_leanOf) (ci := 10) dX10_would_107 lX10_358 qX10_leanOf (by rfl) (by rfl) (by rfl) (by rfl) (Nat.le_of_ble_eq_true rfl) (t_leanOf hE.1.2.2 hE.t0.2.2.2.2.2.2.2 _ _ _ _ _ _ _) (fun r107 μ107 e107 => ?_)
  obtain ⟨rfl, h107⟩ := e107
  exact bc_ireturn dX10_would_110 rfl rfl (⟨rfl, qS.of (fun i a b _ => h107 i a b)⟩)
theorem t_sideB {w : Int32} (h : ¬ (0 ≤ w ∧ w ≤ 3)) : bc_C (d + 2) LM mX10_side [.ref 0, .int w] m (fun r ν => r = some (.int 0) ∧ ν = refM m 1 1) := by
  refine bc_enter (by decide) (Nat.le_of_ble_eq_true rfl) rfl ?_
  refine bc_aload_n dX10_side_0 rfl ?_
  refine bc_iconst (v := 0) dX10_side_1 (by decide) ?_
  refine bc_put dX10_side_2 fX10_3 ftX10 fpX10_0 rfl rfl (rfl) rfl ?_
  refine bc_aload_n dX10_side_5 rfl ?_
  refine bc_iload_n dX10_side_6 rfl ?_
  refine bc_iconst (v := 0) dX10_side_7 (by decide) ?_
  refine bc_iconst (v := 3) dX10_side_8 (by decide) ?_
  refine bc_callS (z := mX10_within) dX10_side_9 lX10_384 qX10_within (by rfl) (by rfl) (Nat.le_of_ble_eq_true rfl) (t_within _ _ _) (fun r9 μ9 e9 => ?_)
  obtain ⟨rfl, q9⟩ := e9
  obtain rfl := q9.symm
  refine bc_iconst (v := 1) dX10_side_12 (by decide) ?_
  refine bc_iconst (v := 1) dX10_side_13 (by decide) ?_
  refine bc_callV (z := mX10_may) (ci := 10) dX10_side_14 lX10_236 qX10_may (by rfl) (by rfl) (by rfl) (by rfl) (Nat.le_of_ble_eq_true rfl) (t_mayN (k := 1) _ h _ (by decide) rfl (by decide)) (fun r14 μ14 e14 => ?_)
  obtain ⟨rfl, q14⟩ := e14
  obtain rfl := q14.symm
  refine bc_if_ne (tgt := 22) dX10_side_17 (by decide) (fun h17 => absurd h17 (fun q => q rfl)) (fun h17 => ?_)
  refine bc_iconst (v := 0) dX10_side_20 (by decide) ?_
  exact bc_ireturn dX10_side_21 rfl rfl (⟨rfl, rfl⟩)
theorem t_side {j : Nat} (hE : mEnv M m n no nq nr nm) (hN : sR (row 31 M) (m 19)) (hA : okA no (row 31 M)) (hj : j < 4) : bc_C (d + 5) LM mX10_side [.ref 0, .int (nI j)] m (fun r ν => r = some (.int (mS M 31 n no (lbM (M 32) 0 no) (M 31 4) j nq)) ∧ qS m ν) := by
  refine bc_enter (by decide) (Nat.le_of_ble_eq_true rfl) rfl ?_
  have hs := sR_cp (g := m 20) hN
  have h6 := hE.q6
  have h8 := hE.o8
  rw [← ms_now h6 h8 (Nat.le_refl _)]
  have loop : ∀ (c k : Nat) (ν : bc_M), k + c = nq → (∀ i, i ≠ 15 → i ≠ 16 → ν i = bc_us (bc_u m 0 0 0) 20 (cpN (m 19) (m 20) 33) i) → bc_W (d + 5) LM mX10_side 30 [.ref 0, .int (nI j), .int (msA M n no (row 31 M) j k), .int (nI k)] [] ν (fun r ν => r = some (.int (msA M n no (row 31 M) j nq)) ∧ qS m ν) := by
    intro c
    induction c with
    | zero =>
      intro k ν hk hν
      have hk : k = nq := by omega
      subst hk
      refine bc_iload_n dX10_side_30 rfl ?_
      refine bc_aload_n dX10_side_31 rfl ?_
      refine bc_geti dX10_side_32 fX10_182 (rfl) rfl ?_
      refine bc_icmp_ge (tgt := 68) dX10_side_35 (by decide) (fun h35 => ?_) (fun h35 => absurd h35 (fun q => q (bx_out (by rw [hν 0 (by decide) (by decide)]; exact hE.2.1.1) (Nat.le_refl _) (by omega))))
      refine bc_iload_n dX10_side_68 rfl ?_
      exact bc_ireturn dX10_side_69 rfl rfl (⟨rfl, qS.of (fun i a b e => by rw [hν i a b, bc_us_ne _ _ e])⟩)
    | succ c ih =>
      intro k ν hk hν
      have hEν : mEnv M ν n no nq nr nm := (hE.t0.s20 (cpN (m 19) (m 20) 33)).mv (fun i _ _ => by rw [hν 0 (by decide) (by decide)]) (fun i h1 h2 => hν i (by omega) (by omega))
      have hsν : sR (row 31 M) (ν 20) := by rw [hν 20 (by decide) (by decide)]; exact hs
      have e7 : ν 7 (2 * k) = M 4 k := (hEν.2.2.2.1 k (by omega)).1
      have h2 := fun (ν' : bc_M) (h : ∀ i, i ≠ 15 → i ≠ 16 → ν' i = bc_us (bc_u m 0 0 0) 20 (cpN (m 19) (m 20) 33) i) => ih (k + 1) ν' (by omega) h
      rw [msA_s (by omega)] at h2
      refine bc_iload_n dX10_side_30 rfl ?_
      refine bc_aload_n dX10_side_31 rfl ?_
      refine bc_geti dX10_side_32 fX10_182 (rfl) rfl ?_
      refine bc_icmp_ge (tgt := 68) dX10_side_35 (by decide) (fun h35 => absurd h35 (bx_in hEν.2.1.1 (by omega) (by omega))) (fun h35 => ?_)
      refine bc_iload_n dX10_side_38 rfl ?_
      refine bc_aload_n dX10_side_39 rfl ?_
      refine bc_getr dX10_side_40 fX10_35 (rfl) rfl ?_
      refine bc_iconst (v := 2) dX10_side_43 (by decide) ?_
      refine bc_iload_n dX10_side_44 rfl ?_
      refine bc_imul dX10_side_45 ?_
      refine bc_ialdE (k := 2 * k) dX10_side_46 (rfl) (ixM (a := 2) (b := k) (rfl) (rfl)) (⟨by omega, by decide⟩) ?_
      refine bc_iload_n dX10_side_47 rfl ?_
      refine bc_icmp_ne (tgt := 59) dX10_side_48 (by decide) (fun h48 => ?_) (fun h48 => ?_)
      · refine bc_iconst (v := 0) dX10_side_59 (by decide) ?_
        refine bc_iadd dX10_side_60 ?_
        refine bc_istore_n dX10_side_61 (by decide) rfl ?_
        refine bc_iinc1 dX10_side_62 rfl (by decide) rfl ?_
        refine bc_goto (tgt := 30) dX10_side_65 (by decide) ?_
        rw [bn_add1]
        rw [if_neg (fun e => h48 (e7.trans e))] at h2
        exact h2 _ hν
      · refine bc_aload_n dX10_side_51 rfl ?_
        refine bc_iload_n dX10_side_52 rfl ?_
        refine bc_callV (z := mX10_leanBy) (ci := 10) dX10_side_53 lX10_362 qX10_leanBy (by rfl) (by rfl) (by rfl) (by rfl) (Nat.le_of_ble_eq_true rfl) (t_leanBy hEν hsν hA (by omega)) (fun r53 μ53 e53 => ?_)
        obtain ⟨rfl, h53⟩ := e53
        refine bc_goto (tgt := 60) dX10_side_56 (by decide) ?_
        refine bc_iadd dX10_side_60 ?_
        refine bc_istore_n dX10_side_61 (by decide) rfl ?_
        refine bc_iinc1 dX10_side_62 rfl (by decide) rfl ?_
        refine bc_goto (tgt := 30) dX10_side_65 (by decide) ?_
        rw [bn_add1]
        rw [if_pos (e7.symm.trans h48)] at h2
        exact h2 _ (fun i a b => (h53 i a b).trans (hν i a b))
  refine bc_aload_n dX10_side_0 rfl ?_
  refine bc_iconst (v := 0) dX10_side_1 (by decide) ?_
  refine bc_put dX10_side_2 fX10_3 ftX10 fpX10_0 rfl rfl (rfl) rfl ?_
  refine bc_aload_n dX10_side_5 rfl ?_
  refine bc_iload_n dX10_side_6 rfl ?_
  refine bc_iconst (v := 0) dX10_side_7 (by decide) ?_
  refine bc_iconst (v := 3) dX10_side_8 (by decide) ?_
  refine bc_callS (z := mX10_within) dX10_side_9 lX10_384 qX10_within (by rfl) (by rfl) (Nat.le_of_ble_eq_true rfl) (t_within _ _ _) (fun r9 μ9 e9 => ?_)
  obtain ⟨rfl, q9⟩ := e9
  obtain rfl := q9.symm
  refine bc_iconst (v := 1) dX10_side_12 (by decide) ?_
  refine bc_iconst (v := 1) dX10_side_13 (by decide) ?_
  refine bc_callV (z := mX10_may) (ci := 10) dX10_side_14 lX10_236 qX10_may (by rfl) (by rfl) (by rfl) (by rfl) (Nat.le_of_ble_eq_true rfl) (t_mayY (k := 1) _ (wN (b := 3) (by omega) (by omega)) _ (by decide) rfl (by decide)) (fun r14 μ14 e14 => ?_)
  obtain ⟨rfl, q14⟩ := e14
  obtain rfl := q14.symm
  refine bc_if_ne (tgt := 22) dX10_side_17 (by decide) (fun h17 => ?_) (fun h17 => absurd h17 (by decide))
  refine bc_aload_n dX10_side_22 rfl ?_
  refine bc_callV (z := mX10_take) (ci := 10) dX10_side_23 lX10_333 qX10_take (by rfl) (by rfl) (by rfl) (by rfl) (Nat.le_of_ble_eq_true rfl) (t_take) (fun r23 μ23 e23 => ?_)
  obtain ⟨rfl, q23⟩ := e23
  obtain rfl := q23.symm
  refine bc_iconst (v := 0) dX10_side_26 (by decide) ?_
  refine bc_istore_n dX10_side_27 (by decide) rfl ?_
  refine bc_iconst (v := 0) dX10_side_28 (by decide) ?_
  refine bc_istore_n dX10_side_29 (by decide) rfl ?_
  exact loop nq 0 _ (by omega) (fun _ _ _ => rfl)
theorem t_sweetestB {w : Int32} (h : ¬ (0 ≤ w ∧ w ≤ 1)) : bc_C (d + 2) LM mX10_sweetest [.ref 0, .int w] m (fun r ν => r = some (.int 0) ∧ ν = refM m 1 1) := by
  refine bc_enter (by decide) (Nat.le_of_ble_eq_true rfl) rfl ?_
  refine bc_aload_n dX10_sweetest_0 rfl ?_
  refine bc_iconst (v := 0) dX10_sweetest_1 (by decide) ?_
  refine bc_put dX10_sweetest_2 fX10_3 ftX10 fpX10_0 rfl rfl (rfl) rfl ?_
  refine bc_aload_n dX10_sweetest_5 rfl ?_
  refine bc_iload_n dX10_sweetest_6 rfl ?_
  refine bc_iconst (v := 0) dX10_sweetest_7 (by decide) ?_
  refine bc_iconst (v := 1) dX10_sweetest_8 (by decide) ?_
  refine bc_callS (z := mX10_within) dX10_sweetest_9 lX10_384 qX10_within (by rfl) (by rfl) (Nat.le_of_ble_eq_true rfl) (t_within _ _ _) (fun r9 μ9 e9 => ?_)
  obtain ⟨rfl, q9⟩ := e9
  obtain rfl := q9.symm
  refine bc_iconst (v := 1) dX10_sweetest_12 (by decide) ?_
  refine bc_iconst (v := 1) dX10_sweetest_13 (by decide) ?_
  refine bc_callV (z := mX10_may) (ci := 10) dX10_sweetest_14 lX10_236 qX10_may (by rfl) (by rfl) (by rfl) (by rfl) (Nat.le_of_ble_eq_true rfl) (t_mayN (k := 1) _ h _ (by decide) rfl (by decide)) (fun r14 μ14 e14 => ?_)
  obtain ⟨rfl, q14⟩ := e14
  obtain rfl := q14.symm
  refine bc_if_ne (tgt := 22) dX10_sweetest_17 (by decide) (fun h17 => absurd h17 (fun q => q rfl)) (fun h17 => ?_)
  refine bc_iconst (v := 0) dX10_sweetest_20 (by decide) ?_
  exact bc_ireturn dX10_sweetest_21 rfl rfl (⟨rfl, rfl⟩)
theorem swM_cg {F G : Nat → Int32} : ∀ k, (∀ i, i < k → F i = G i) → swM F k = swM G k := by
  intro k
  induction k with
  | zero => intro _; rfl
  | succ k ih =>
    intro h
    simp only [swM]
    rw [ih (fun i hi => h i (by omega)), h k (by omega)]
theorem t_sweetest {w : Nat} (hE : mEnv M m n no nq nr nm) (hN : sR (row 31 M) (m 19)) (hA : okA no (row 31 M)) (hw : w ≤ 1) : bc_C (d + 5) LM mX10_sweetest [.ref 0, .int (nI w)] m (fun r ν => r = some (.int (if w = 0 then (swM (mL M 31 n no (lbM (M 32) 0 no) (M 31 4)) nq).1 else (swM (mL M 31 n no (lbM (M 32) 0 no) (M 31 4)) nq).2)) ∧ qS m ν) := by
  refine bc_enter (by decide) (Nat.le_of_ble_eq_true rfl) rfl ?_
  have hs := sR_cp (g := m 20) hN
  have h6 := hE.q6
  have h8 := hE.o8
  rw [← swM_cg nq (fun q hq => ln_now (n := n) h6 h8 hq)]
  obtain ⟨F, hF⟩ : ∃ F, F = lnA M n no (row 31 M) := ⟨_, rfl⟩
  rw [← hF]
  have loop : ∀ (c k : Nat) (ν : bc_M) (v5 : Value), v5.category = 1 → k + c = nq → (∀ i, i ≠ 15 → i ≠ 16 → ν i = bc_us (bc_u m 0 0 0) 20 (cpN (m 19) (m 20) 33) i) → bc_W (d + 5) LM mX10_sweetest 33 [.ref 0, .int (nI w), .int (swM F k).1, .int (swM F k).2, .int (nI k), v5] [] ν (fun r ν => r = some (.int (if w = 0 then (swM F nq).1 else (swM F nq).2)) ∧ qS m ν) := by
    intro c
    induction c with
    | zero =>
      intro k ν v5 c5 hk hν
      have hk : k = nq := by omega
      subst hk
      have w0 : nI w = 0 ↔ w = 0 := bn_eqN (b := 0) (by omega) (by omega)
      refine bc_iload dX10_sweetest_33 rfl ?_
      refine bc_aload_n dX10_sweetest_35 rfl ?_
      refine bc_geti dX10_sweetest_36 fX10_182 (rfl) rfl ?_
      refine bc_icmp_ge (tgt := 76) dX10_sweetest_39 (by decide) (fun h39 => ?_) (fun h39 => absurd h39 (fun q => q (bx_out (by rw [hν 0 (by decide) (by decide)]; exact hE.2.1.1) (Nat.le_refl _) (by omega))))
      refine bc_iload_n dX10_sweetest_76 rfl ?_
      refine bc_if_ne (tgt := 84) dX10_sweetest_77 (by decide) (fun h77 => ?_) (fun h77 => ?_)
      · refine bc_iload_n dX10_sweetest_84 rfl ?_
        exact bc_ireturn dX10_sweetest_85 rfl rfl (⟨by rw [if_neg (fun e => h77 (w0.mpr e))], qS.of (fun i a b e => by rw [hν i a b, bc_us_ne _ _ e])⟩)
      · refine bc_iload_n dX10_sweetest_80 rfl ?_
        refine bc_goto (tgt := 85) dX10_sweetest_81 (by decide) ?_
        exact bc_ireturn dX10_sweetest_85 rfl rfl (⟨by rw [if_pos (w0.mp h77)], qS.of (fun i a b e => by rw [hν i a b, bc_us_ne _ _ e])⟩)
    | succ c ih =>
      intro k ν v5 c5 hk hν
      have hEν : mEnv M ν n no nq nr nm := (hE.t0.s20 (cpN (m 19) (m 20) 33)).mv (fun i _ _ => by rw [hν 0 (by decide) (by decide)]) (fun i h1 h2 => hν i (by omega) (by omega))
      have hsν : sR (row 31 M) (ν 20) := by rw [hν 20 (by decide) (by decide)]; exact hs
      have yes : (swM F k).1 = -1 ∨ (swM F k).2 < F k → swM F (k + 1) = (nI k, F k) := fun h => by rw [swM, if_pos h]
      have no' : ¬ ((swM F k).1 = -1 ∨ (swM F k).2 < F k) → swM F (k + 1) = swM F k := fun h => by rw [swM, if_neg h]
      have h2 := fun (ν' : bc_M) (h : ∀ i, i ≠ 15 → i ≠ 16 → ν' i = bc_us (bc_u m 0 0 0) 20 (cpN (m 19) (m 20) 33) i) => ih (k + 1) ν' (.int (F k)) rfl (by omega) h
      refine bc_iload dX10_sweetest_33 rfl ?_
      refine bc_aload_n dX10_sweetest_35 rfl ?_
      refine bc_geti dX10_sweetest_36 fX10_182 (rfl) rfl ?_
      refine bc_icmp_ge (tgt := 76) dX10_sweetest_39 (by decide) (fun h39 => absurd h39 (bx_in hEν.2.1.1 (by omega) (by omega))) (fun h39 => ?_)
      refine bc_aload_n dX10_sweetest_42 rfl ?_
      refine bc_iload dX10_sweetest_43 rfl ?_
      refine bc_callV (z := mX10_leanBy) (ci := 10) dX10_sweetest_45 lX10_362 qX10_leanBy (by rfl) (by rfl) (by rfl) (by rfl) (Nat.le_of_ble_eq_true rfl) (t_leanBy hEν hsν hA (by omega)) (fun r45 μ45 e45 => ?_)
      obtain ⟨rfl, h45⟩ := e45
      rw [← hF]
      refine bc_istore dX10_sweetest_48 (by decide) rfl ?_
      refine bc_iload_n dX10_sweetest_50 rfl ?_
      refine bc_iconst (v := (-1)) dX10_sweetest_51 (by decide) ?_
      refine bc_icmp_eq (tgt := 64) dX10_sweetest_52 (by decide) (fun h52 => ?_) (fun h52 => ?_)
      · refine bc_iload dX10_sweetest_64 rfl ?_
        refine bc_istore_n dX10_sweetest_66 (by decide) rfl ?_
        refine bc_iload dX10_sweetest_67 rfl ?_
        refine bc_istore_n dX10_sweetest_69 (by decide) rfl ?_
        refine bc_iinc1 dX10_sweetest_70 rfl (by decide) rfl ?_
        refine bc_goto (tgt := 33) dX10_sweetest_73 (by decide) ?_
        rw [yes (.inl h52)] at h2
        rw [bn_add1]
        exact h2 _ (fun i a b => (h45 i a b).trans (hν i a b))
      · refine bc_iload dX10_sweetest_55 rfl ?_
        refine bc_iload_n dX10_sweetest_57 rfl ?_
        refine bc_icmp_gt (tgt := 64) dX10_sweetest_58 (by decide) (fun h58 => ?_) (fun h58 => ?_)
        · refine bc_iload dX10_sweetest_64 rfl ?_
          refine bc_istore_n dX10_sweetest_66 (by decide) rfl ?_
          refine bc_iload dX10_sweetest_67 rfl ?_
          refine bc_istore_n dX10_sweetest_69 (by decide) rfl ?_
          refine bc_iinc1 dX10_sweetest_70 rfl (by decide) rfl ?_
          refine bc_goto (tgt := 33) dX10_sweetest_73 (by decide) ?_
          rw [yes (.inr h58)] at h2
          rw [bn_add1]
          exact h2 _ (fun i a b => (h45 i a b).trans (hν i a b))
        · refine bc_goto (tgt := 70) dX10_sweetest_61 (by decide) ?_
          refine bc_iinc1 dX10_sweetest_70 rfl (by decide) rfl ?_
          refine bc_goto (tgt := 33) dX10_sweetest_73 (by decide) ?_
          rw [no' (fun e => e.elim h52 h58)] at h2
          rw [bn_add1]
          exact h2 _ (fun i a b => (h45 i a b).trans (hν i a b))
  refine bc_aload_n dX10_sweetest_0 rfl ?_
  refine bc_iconst (v := 0) dX10_sweetest_1 (by decide) ?_
  refine bc_put dX10_sweetest_2 fX10_3 ftX10 fpX10_0 rfl rfl (rfl) rfl ?_
  refine bc_aload_n dX10_sweetest_5 rfl ?_
  refine bc_iload_n dX10_sweetest_6 rfl ?_
  refine bc_iconst (v := 0) dX10_sweetest_7 (by decide) ?_
  refine bc_iconst (v := 1) dX10_sweetest_8 (by decide) ?_
  refine bc_callS (z := mX10_within) dX10_sweetest_9 lX10_384 qX10_within (by rfl) (by rfl) (Nat.le_of_ble_eq_true rfl) (t_within _ _ _) (fun r9 μ9 e9 => ?_)
  obtain ⟨rfl, q9⟩ := e9
  obtain rfl := q9.symm
  refine bc_iconst (v := 1) dX10_sweetest_12 (by decide) ?_
  refine bc_iconst (v := 1) dX10_sweetest_13 (by decide) ?_
  refine bc_callV (z := mX10_may) (ci := 10) dX10_sweetest_14 lX10_236 qX10_may (by rfl) (by rfl) (by rfl) (by rfl) (Nat.le_of_ble_eq_true rfl) (t_mayY (k := 1) _ (wN (b := 1) (by omega) (by omega)) _ (by decide) rfl (by decide)) (fun r14 μ14 e14 => ?_)
  obtain ⟨rfl, q14⟩ := e14
  obtain rfl := q14.symm
  refine bc_if_ne (tgt := 22) dX10_sweetest_17 (by decide) (fun h17 => ?_) (fun h17 => absurd h17 (by decide))
  refine bc_aload_n dX10_sweetest_22 rfl ?_
  refine bc_callV (z := mX10_take) (ci := 10) dX10_sweetest_23 lX10_333 qX10_take (by rfl) (by rfl) (by rfl) (by rfl) (Nat.le_of_ble_eq_true rfl) (t_take) (fun r23 μ23 e23 => ?_)
  obtain ⟨rfl, q23⟩ := e23
  obtain rfl := q23.symm
  refine bc_iconst (v := (-1)) dX10_sweetest_26 (by decide) ?_
  refine bc_istore_n dX10_sweetest_27 (by decide) rfl ?_
  refine bc_iconst (v := 0) dX10_sweetest_28 (by decide) ?_
  refine bc_istore_n dX10_sweetest_29 (by decide) rfl ?_
  refine bc_iconst (v := 0) dX10_sweetest_30 (by decide) ?_
  refine bc_istore dX10_sweetest_31 (by decide) rfl ?_
  exact loop nq 0 _ _ rfl (by omega) (fun _ _ _ => rfl)
theorem t_fault : bc_C d LM mX10_fault [.ref 0] m (fun r ν => r = some (.int (m 0 8)) ∧ qS m ν) := by
  refine bc_enter (by decide) (Nat.le_of_ble_eq_true rfl) rfl ?_
  refine bc_aload_n dX10_fault_0 rfl ?_
  refine bc_iconst (v := 0) dX10_fault_1 (by decide) ?_
  refine bc_put dX10_fault_2 fX10_3 ftX10 fpX10_0 rfl rfl (rfl) rfl ?_
  refine bc_aload_n dX10_fault_5 rfl ?_
  refine bc_geti dX10_fault_6 fX10_17 (rfl) rfl ?_
  exact bc_ireturn dX10_fault_9 rfl rfl (⟨rfl, qS_0⟩)
theorem t_status (w : Int32) (h0 : m 1 0 = M 0 12) (h1 : m 1 1 = M 0 13) : bc_C (d + 1) LM mX10_status [.ref 0, .int w] m (fun r ν => r = some (.int (staM M w)) ∧ qS m ν) := by
  refine bc_enter (by decide) (Nat.le_of_ble_eq_true rfl) rfl ?_
  by_cases hw0 : w = 0
  · subst hw0
    refine bc_aload_n dX10_status_0 rfl ?_
    refine bc_iconst (v := 0) dX10_status_1 (by decide) ?_
    refine bc_put dX10_status_2 fX10_3 ftX10 fpX10_0 rfl rfl (rfl) rfl ?_
    refine bc_iload_n dX10_status_5 rfl ?_
    refine bc_iconst (v := 0) dX10_status_6 (by decide) ?_
    refine bc_iconst (v := 1) dX10_status_7 (by decide) ?_
    refine bc_callS (z := mX10_within) dX10_status_8 lX10_384 qX10_within (by rfl) (by rfl) (Nat.le_of_ble_eq_true rfl) (t_within _ _ _) (fun r8 μ8 e8 => ?_)
    obtain ⟨rfl, q8⟩ := e8
    obtain rfl := q8.symm
    refine bc_if_eq (tgt := 23) dX10_status_11 (by decide) (fun h11 => absurd h11 (fun e => ite0.mp e (by decide))) (fun h11 => ?_)
    refine bc_aload_n dX10_status_14 rfl ?_
    refine bc_getr dX10_status_15 fX10_7 (rfl) rfl ?_
    refine bc_iload_n dX10_status_18 rfl ?_
    refine bc_ialdE (k := 0) dX10_status_19 (rfl) (rfl) (⟨by omega, by decide⟩) ?_
    refine bc_goto (tgt := 24) dX10_status_20 (by decide) ?_
    exact bc_ireturn dX10_status_24 rfl rfl (⟨congrArg (fun z => some (Value.int z)) h0, qS_0⟩)
  · by_cases hw1 : w = 1
    · subst hw1
      refine bc_aload_n dX10_status_0 rfl ?_
      refine bc_iconst (v := 0) dX10_status_1 (by decide) ?_
      refine bc_put dX10_status_2 fX10_3 ftX10 fpX10_0 rfl rfl (rfl) rfl ?_
      refine bc_iload_n dX10_status_5 rfl ?_
      refine bc_iconst (v := 0) dX10_status_6 (by decide) ?_
      refine bc_iconst (v := 1) dX10_status_7 (by decide) ?_
      refine bc_callS (z := mX10_within) dX10_status_8 lX10_384 qX10_within (by rfl) (by rfl) (Nat.le_of_ble_eq_true rfl) (t_within _ _ _) (fun r8 μ8 e8 => ?_)
      obtain ⟨rfl, q8⟩ := e8
      obtain rfl := q8.symm
      refine bc_if_eq (tgt := 23) dX10_status_11 (by decide) (fun h11 => absurd h11 (fun e => ite0.mp e (by decide))) (fun h11 => ?_)
      refine bc_aload_n dX10_status_14 rfl ?_
      refine bc_getr dX10_status_15 fX10_7 (rfl) rfl ?_
      refine bc_iload_n dX10_status_18 rfl ?_
      refine bc_ialdE (k := 1) dX10_status_19 (rfl) (rfl) (⟨by omega, by decide⟩) ?_
      refine bc_goto (tgt := 24) dX10_status_20 (by decide) ?_
      exact bc_ireturn dX10_status_24 rfl rfl (⟨congrArg (fun z => some (Value.int z)) h1, qS_0⟩)
    · have hb : ¬ (0 ≤ w ∧ w ≤ 1) := by
        rw [bn_le, bn_le, bn_0, show (1 : Int32).toInt = 1 from rfl]
        rw [bn_eq, bn_0] at hw0
        rw [bn_eq, show (1 : Int32).toInt = 1 from rfl] at hw1
        omega
      refine bc_aload_n dX10_status_0 rfl ?_
      refine bc_iconst (v := 0) dX10_status_1 (by decide) ?_
      refine bc_put dX10_status_2 fX10_3 ftX10 fpX10_0 rfl rfl (rfl) rfl ?_
      refine bc_iload_n dX10_status_5 rfl ?_
      refine bc_iconst (v := 0) dX10_status_6 (by decide) ?_
      refine bc_iconst (v := 1) dX10_status_7 (by decide) ?_
      refine bc_callS (z := mX10_within) dX10_status_8 lX10_384 qX10_within (by rfl) (by rfl) (Nat.le_of_ble_eq_true rfl) (t_within _ _ _) (fun r8 μ8 e8 => ?_)
      obtain ⟨rfl, q8⟩ := e8
      obtain rfl := q8.symm
      refine bc_if_eq (tgt := 23) dX10_status_11 (by decide) (fun h11 => ?_) (fun h11 => absurd h11 (fun e => e (ite0.mpr hb)))
      refine bc_iconst (v := (-1)) dX10_status_23 (by decide) ?_
      exact bc_ireturn dX10_status_24 rfl rfl (⟨by rw [staM, if_neg hw0, if_neg hw1], qS_0⟩)
theorem t_count (w : Int32) (h0 : m 0 59 = M 45 5) (h1 : m 0 2 = M 1 1) (h2 : m 0 40 = M 45 1) : bc_C d LM mX10_count [.ref 0, .int w] m (fun r ν => r = some (.int (couM M w)) ∧ qS m ν) := by
  refine bc_enter (by decide) (Nat.le_of_ble_eq_true rfl) rfl ?_
  refine bc_aload_n dX10_count_0 rfl ?_
  refine bc_iconst (v := 0) dX10_count_1 (by decide) ?_
  refine bc_put dX10_count_2 fX10_3 ftX10 fpX10_0 rfl rfl (rfl) rfl ?_
  refine bc_iload_n dX10_count_5 rfl ?_
  refine bc_if_ne (tgt := 16) dX10_count_6 (by decide) (fun h6 => ?_) (fun h6 => ?_)
  · refine bc_iload_n dX10_count_16 rfl ?_
    refine bc_iconst (v := 1) dX10_count_17 (by decide) ?_
    refine bc_icmp_ne (tgt := 28) dX10_count_18 (by decide) (fun h18 => ?_) (fun h18 => ?_)
    · refine bc_iload_n dX10_count_28 rfl ?_
      refine bc_iconst (v := 2) dX10_count_29 (by decide) ?_
      refine bc_icmp_ne (tgt := 40) dX10_count_30 (by decide) (fun h30 => ?_) (fun h30 => ?_)
      · refine bc_iconst (v := (-1)) dX10_count_40 (by decide) ?_
        exact bc_ireturn dX10_count_41 rfl rfl (⟨by rw [couM, if_neg h6, if_neg h18, if_neg h30], qS_0⟩)
      · refine bc_aload_n dX10_count_33 rfl ?_
        refine bc_geti dX10_count_34 fX10_204 (rfl) rfl ?_
        refine bc_goto (tgt := 41) dX10_count_37 (by decide) ?_
        exact bc_ireturn dX10_count_41 rfl rfl (⟨by rw [couM, if_neg h6, if_neg h18, if_pos h30]; exact congrArg (fun z => some (Value.int z)) h2, qS_0⟩)
    · refine bc_aload_n dX10_count_21 rfl ?_
      refine bc_geti dX10_count_22 fX10_115 (rfl) rfl ?_
      refine bc_goto (tgt := 41) dX10_count_25 (by decide) ?_
      exact bc_ireturn dX10_count_41 rfl rfl (⟨by rw [couM, if_neg h6, if_pos h18]; exact congrArg (fun z => some (Value.int z)) h1, qS_0⟩)
  · refine bc_aload_n dX10_count_9 rfl ?_
    refine bc_geti dX10_count_10 fX10_207 (rfl) rfl ?_
    refine bc_goto (tgt := 41) dX10_count_13 (by decide) ?_
    exact bc_ireturn dX10_count_41 rfl rfl (⟨by rw [couM, if_pos h6]; exact congrArg (fun z => some (Value.int z)) h0, qS_0⟩)
end T64
