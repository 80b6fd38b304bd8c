/-! the reference: sacks, leagues, the nearest, the heaviest, what lies around, bakers -/
section T66
variable {d : Nat} {m m1 ν M : bc_M} {n no nq nr nm : Nat} {A : Row}
/-- noses and strong ovens are told from 1 on -/
def nosB (M : bc_M) (no nq : Nat) : Prop := (∀ q, q < nq → 1 ≤ (M 5 q).toInt ∧ (M 5 q).toInt ≤ 99) ∧ ∀ o, o < no → 1 ≤ (M 7 o).toInt ∧ (M 7 o).toInt ≤ 9
theorem mn_sw (a b : Int32) : (if a < b then a else b) = if b < a then b else a := by
  by_cases h : a < b
  · rw [if_pos h, if_neg (Int32.not_lt.mpr (Int32.le_of_lt h))]
  · rw [if_neg h]
    by_cases h2 : b < a
    · rw [if_pos h2]
    · rw [if_neg h2]; exact Int32.le_antisymm (Int32.not_lt.mp h) (Int32.not_lt.mp h2)
theorem bit_cs (x : Int32) {o : Nat} (ho : o < 32) : x >>> (nI o &&& 31) &&& 1 = 1 ∨ x >>> (nI o &&& 31) &&& 1 = 0 := by
  rw [b_get x ho]
  cases bt x o
  · exact .inr rfl
  · exact .inl rfl
theorem t_givenBy (s b : Int32) (hE : mEnv M m n no nq nr nm) : bc_C d LM mX10_givenBy [.ref 0, .int s, .int b] m (fun r ν => r = some (.int (gvM (M 5) s b nq)) ∧ ν = m) := by
  refine bc_enter (by decide) (Nat.le_of_ble_eq_true rfl) rfl ?_
  have h6 := hE.q6
  have hnq := hE.2.1.1
  have loop : ∀ (c k : Nat), k + c = nq → bc_W d LM mX10_givenBy 5 [.ref 0, .int s, .int b, .int (gvM (M 5) s b k), .int (nI k)] [] m (fun r ν => r = some (.int (gvM (M 5) s b nq)) ∧ ν = m) := by
    intro c
    induction c with
    | zero =>
      intro k hk
      have hk : k = nq := by omega
      subst hk
      refine bc_iload dX10_givenBy_5 rfl ?_
      refine bc_aload_n dX10_givenBy_7 rfl ?_
      refine bc_geti dX10_givenBy_8 fX10_182 (rfl) rfl ?_
      refine bc_icmp_ge (tgt := 60) dX10_givenBy_11 (by decide) (fun h11 => ?_) (fun h11 => absurd h11 (fun q => q (bx_out hnq (Nat.le_refl _) (by omega))))
      refine bc_iload_n dX10_givenBy_60 rfl ?_
      exact bc_ireturn dX10_givenBy_61 rfl rfl (⟨rfl, rfl⟩)
    | succ c ih =>
      intro k hk
      have e5 := (hE.2.2.2.1 k (by omega)).2
      have h2 := ih (k + 1) (by omega)
      have next : ∀ v, v = (if M 5 k < b then M 5 k else b) → bc_W d LM mX10_givenBy 51 [.ref 0, .int s, .int b, .int (gvM (M 5) s b k), .int (nI k)] [.int v, .int (s >>> (nI k &&& 31) &&& 1), .int (gvM (M 5) s b k)] m (fun r ν => r = some (.int (gvM (M 5) s b nq)) ∧ ν = m) := by
        intro v hv
        rw [mn_sw] at hv
        have e : gvM (M 5) s b k + (s >>> (nI k &&& 31) &&& 1) * v = gvM (M 5) s b (k + 1) := by
          rcases bit_cs s (o := k) (by omega) with h | h
          · rw [gvM, if_pos h, h, Int32.one_mul, hv]
          · rw [gvM, if_neg (by rw [h]; decide), h, Int32.zero_mul, Int32.add_zero]
        refine bc_imul dX10_givenBy_51 ?_
        refine bc_iadd dX10_givenBy_52 ?_
        rw [e]
        refine bc_istore_n dX10_givenBy_53 (by decide) rfl ?_
        refine bc_iinc1 dX10_givenBy_54 rfl (by decide) rfl ?_
        refine bc_goto (tgt := 5) dX10_givenBy_57 (by decide) ?_
        rw [bn_add1]
        exact h2
      refine bc_iload dX10_givenBy_5 rfl ?_
      refine bc_aload_n dX10_givenBy_7 rfl ?_
      refine bc_geti dX10_givenBy_8 fX10_182 (rfl) rfl ?_
      refine bc_icmp_ge (tgt := 60) dX10_givenBy_11 (by decide) (fun h11 => absurd h11 (bx_in hnq (by omega) (by omega))) (fun h11 => ?_)
      refine bc_iload_n dX10_givenBy_14 rfl ?_
      refine bc_iload_n dX10_givenBy_15 rfl ?_
      refine bc_iload dX10_givenBy_16 rfl ?_
      refine bc_ishr dX10_givenBy_18 ?_
      refine bc_iconst (v := 1) dX10_givenBy_19 (by decide) ?_
      refine bc_iand dX10_givenBy_20 ?_
      refine bc_aload_n dX10_givenBy_21 rfl ?_
      refine bc_getr dX10_givenBy_22 fX10_35 (rfl) rfl ?_
      refine bc_iconst (v := 2) dX10_givenBy_25 (by decide) ?_
      refine bc_iload dX10_givenBy_26 rfl ?_
      refine bc_imul dX10_givenBy_28 ?_
      refine bc_iconst (v := 1) dX10_givenBy_29 (by decide) ?_
      refine bc_iadd dX10_givenBy_30 ?_
      refine bc_ialdE (k := (2 * k) + 1) dX10_givenBy_31 (rfl) (ixA (a := 2 * k) (b := 1) (ixM (a := 2) (b := k) (rfl) (rfl)) (rfl)) (⟨by omega, by decide⟩) ?_
      refine bc_iload_n dX10_givenBy_32 rfl ?_
      refine bc_icmp_ge (tgt := 50) dX10_givenBy_33 (by decide) (fun h33 => ?_) (fun h33 => ?_)
      · refine bc_iload_n dX10_givenBy_50 rfl ?_
        exact next _ (by rw [if_neg (by rw [← e5]; exact Int32.not_lt.mpr h33)])
      · refine bc_aload_n dX10_givenBy_36 rfl ?_
        refine bc_getr dX10_givenBy_37 fX10_35 (rfl) rfl ?_
        refine bc_iconst (v := 2) dX10_givenBy_40 (by decide) ?_
        refine bc_iload dX10_givenBy_41 rfl ?_
        refine bc_imul dX10_givenBy_43 ?_
        refine bc_iconst (v := 1) dX10_givenBy_44 (by decide) ?_
        refine bc_iadd dX10_givenBy_45 ?_
        refine bc_ialdE (k := (2 * k) + 1) dX10_givenBy_46 (rfl) (ixA (a := 2 * k) (b := 1) (ixM (a := 2) (b := k) (rfl) (rfl)) (rfl)) (⟨by omega, by decide⟩) ?_
        refine bc_goto (tgt := 51) dX10_givenBy_47 (by decide) ?_
        exact next _ (by rw [if_pos (by rw [← e5]; exact Int32.not_le.mp h33)]; exact e5)
  refine bc_iconst (v := 0) dX10_givenBy_0 (by decide) ?_
  refine bc_istore_n dX10_givenBy_1 (by decide) rfl ?_
  refine bc_iconst (v := 0) dX10_givenBy_2 (by decide) ?_
  refine bc_istore dX10_givenBy_3 (by decide) rfl ?_
  exact loop nq 0 (by omega)
theorem gv_0 {ns : Nat → Int32} {s : Int32} : ∀ k, (∀ q, q < k → 1 ≤ (ns q).toInt) → gvM ns s (nI 0) k = 0 := by
  intro k
  induction k with
  | zero => intro _; rfl
  | succ k ih =>
    intro h
    have h0 : nI 0 < ns k := by rw [bn_lt, bn_ti (by omega)]; have := h k (by omega); omega
    rw [gvM, ih (fun q hq => h q (by omega)), if_pos h0]
    split <;> rfl
theorem t_sacksB1 {q s N : Int32} (hE : mEnv M m n no nq nr nm) (h : ¬ (0 ≤ q ∧ q < nI nq)) : bc_C (d + 2) LM mX10_sacks [.ref 0, .int q, .int s, .int N] m (fun r ν => r = some (.int 0) ∧ ν = refM m 1 0) := by
  refine bc_enter (by decide) (Nat.le_of_ble_eq_true rfl) rfl ?_
  refine bc_aload_n dX10_sacks_0 rfl ?_
  refine bc_iconst (v := 0) dX10_sacks_1 (by decide) ?_
  refine bc_put dX10_sacks_2 fX10_3 ftX10 fpX10_0 rfl rfl (rfl) rfl ?_
  refine bc_aload_n dX10_sacks_5 rfl ?_
  refine bc_iload_n dX10_sacks_6 rfl ?_
  refine bc_iconst (v := 1) dX10_sacks_7 (by decide) ?_
  refine bc_callV (z := mX10_isQuarter) (ci := 10) dX10_sacks_8 lX10_390 qX10_isQuarter (by rfl) (by rfl) (by rfl) (by rfl) (Nat.le_of_ble_eq_true rfl) (t_isQuarterN hE.2.1.1 hE.q6 h rfl (by decide)) (fun r8 μ8 e8 => ?_)
  obtain ⟨rfl, q8⟩ := e8
  obtain rfl := q8.symm
  refine bc_if_eq (tgt := 53) dX10_sacks_11 (by decide) (fun h11 => ?_) (fun h11 => absurd h11 (fun q => q rfl))
  refine bc_iconst (v := 0) dX10_sacks_53 (by decide) ?_
  exact bc_ireturn dX10_sacks_54 rfl rfl (⟨rfl, rfl⟩)
theorem t_sacksB2 {q s N : Int32} (hE : mEnv M m n no nq nr nm) (hq : 0 ≤ q ∧ q < nI nq) (h : ¬ (0 ≤ s ∧ s < nI (2 ^ nq) ∧ 0 ≤ N ∧ N ≤ 999)) : bc_C (d + 2) LM mX10_sacks [.ref 0, .int q, .int s, .int N] m (fun r ν => r = some (.int 0) ∧ ν = refM m 2 1) := by
  refine bc_enter (by decide) (Nat.le_of_ble_eq_true rfl) rfl ?_
  have h2 := qss nq hE.q6
  have bad : bc_W (d + 2) LM mX10_sacks 44 [.ref 0, .int q, .int s, .int N, .null] [.ref 0] (bc_u m 0 0 0) (fun r ν => r = some (.int 0) ∧ ν = refM m 2 1) := by
    refine bc_iconst (v := 0) dX10_sacks_44 (by decide) ?_
    refine bc_iconst (v := 2) dX10_sacks_45 (by decide) ?_
    refine bc_iconst (v := 1) dX10_sacks_46 (by decide) ?_
    refine bc_callV (z := mX10_may) (ci := 10) dX10_sacks_47 lX10_236 qX10_may (by rfl) (by rfl) (by rfl) (by rfl) (Nat.le_of_ble_eq_true rfl) (t_mayN (k := 1) False (fun x => x) _ (by decide) rfl (by decide)) (fun r47 μ47 e47 => ?_)
    obtain ⟨rfl, q47⟩ := e47
    obtain rfl := q47.symm
    refine bc_if_ne (tgt := 55) dX10_sacks_50 (by decide) (fun h50 => absurd h50 (fun q => q rfl)) (fun h50 => ?_)
    refine bc_iconst (v := 0) dX10_sacks_53 (by decide) ?_
    exact bc_ireturn dX10_sacks_54 rfl rfl (⟨rfl, rfl⟩)
  refine bc_aload_n dX10_sacks_0 rfl ?_
  refine bc_iconst (v := 0) dX10_sacks_1 (by decide) ?_
  refine bc_put dX10_sacks_2 fX10_3 ftX10 fpX10_0 rfl rfl (rfl) rfl ?_
  refine bc_aload_n dX10_sacks_5 rfl ?_
  refine bc_iload_n dX10_sacks_6 rfl ?_
  refine bc_iconst (v := 1) dX10_sacks_7 (by decide) ?_
  refine bc_callV (z := mX10_isQuarter) (ci := 10) dX10_sacks_8 lX10_390 qX10_isQuarter (by rfl) (by rfl) (by rfl) (by rfl) (Nat.le_of_ble_eq_true rfl) (t_isQuarterY hE.2.1.1 hE.q6 hq rfl (by decide)) (fun r8 μ8 e8 => ?_)
  obtain ⟨rfl, q8⟩ := e8
  obtain rfl := q8.symm
  refine bc_if_eq (tgt := 53) dX10_sacks_11 (by decide) (fun h11 => absurd h11 (by decide)) (fun h11 => ?_)
  refine bc_aload_n dX10_sacks_14 rfl ?_
  refine bc_iload_n dX10_sacks_15 rfl ?_
  refine bc_if_lt (tgt := 44) dX10_sacks_16 (by decide) (fun h16 => ?_) (fun h16 => ?_)
  · exact bad
  · refine bc_iload_n dX10_sacks_19 rfl ?_
    refine bc_iconst (v := 1) dX10_sacks_20 (by decide) ?_
    refine bc_aload_n dX10_sacks_21 rfl ?_
    refine bc_geti dX10_sacks_22 fX10_182 (rfl) rfl ?_
    rw [show bc_u m 0 0 0 0 25 = nI nq from hE.2.1.1]
    refine bc_ishl dX10_sacks_25 ?_
    rw [h2.1]
    refine bc_icmp_ge (tgt := 44) dX10_sacks_26 (by decide) (fun h26 => ?_) (fun h26 => ?_)
    · exact bad
    · refine bc_iload_n dX10_sacks_29 rfl ?_
      refine bc_iconst (v := 0) dX10_sacks_30 (by decide) ?_
      refine bc_sipush (v := 999) dX10_sacks_31 (by decide) ?_
      refine bc_callS (z := mX10_within) dX10_sacks_34 lX10_384 qX10_within (by rfl) (by rfl) (Nat.le_of_ble_eq_true rfl) (t_within _ _ _) (fun r34 μ34 e34 => ?_)
      obtain ⟨rfl, q34⟩ := e34
      obtain rfl := q34.symm
      refine bc_if_eq (tgt := 44) dX10_sacks_37 (by decide) (fun h37 => ?_) (fun h37 => ?_)
      · exact bad
      · exact absurd ⟨Int32.not_lt.mp h16, Int32.not_le.mp h26, Decidable.not_not.mp (fun e => h37 (ite0.mpr e))⟩ h
theorem t_sacks {q : Nat} {s N : Int32} (hE : mEnv M m n no nq nr nm) (hB : nosB M no nq) (hq : q < nq) (h : 0 ≤ s ∧ s < nI (2 ^ nq) ∧ 0 ≤ N ∧ N ≤ 999) : bc_C (d + 2) LM mX10_sacks [.ref 0, .int (nI q), .int s, .int N] m (fun r ν => r = some (.int (sacM M nq q s N)) ∧ qS m ν) := by
  refine bc_enter (by decide) (Nat.le_of_ble_eq_true rfl) rfl ?_
  have h6 := hE.q6
  have h2 := qss nq h6
  have e5 : m 7 (2 * q + 1) = M 5 q := (hE.2.2.2.1 q hq).2
  obtain ⟨G, hG⟩ : ∃ G : Nat → Int32, G = fun i => gvM (M 5) s (nI i) nq := ⟨_, rfl⟩
  have hS : sacM M nq q s N = if s >>> (nI q &&& 31) &&& 1 = 0 then 0 else (if skF G N 99 < M 5 q then skF G N 99 else M 5 q) := by rw [hG]; rfl
  rw [hS]
  have loop : ∀ i, i ≤ 99 → skF G N i = skF G N 99 → bc_W (d + 2) LM mX10_sacks 59 [.ref 0, .int (nI q), .int s, .int N, .int (nI i)] [] (bc_u m 0 0 0) (fun r ν => r = some (.int (if s >>> (nI q &&& 31) &&& 1 = 0 then 0 else (if skF G N 99 < M 5 q then skF G N 99 else M 5 q))) ∧ qS m ν) := by
    intro i
    induction i with
    | zero =>
      intro _ he
      have hg : gvM (M 5) s (nI 0) nq = 0 := gv_0 nq (fun q hq => (hB.1 q hq).1)
      rw [← he, show skF G N 0 = nI 0 from rfl, ← mn_sw]
      refine bc_aload_n dX10_sacks_59 rfl ?_
      refine bc_iload_n dX10_sacks_60 rfl ?_
      refine bc_iload dX10_sacks_61 rfl ?_
      refine bc_callV (z := mX10_givenBy) (ci := 10) dX10_sacks_63 lX10_431 qX10_givenBy (by rfl) (by rfl) (by rfl) (by rfl) (Nat.le_of_ble_eq_true rfl) (t_givenBy _ _ hE.t0) (fun r63 μ63 e63 => ?_)
      obtain ⟨rfl, q63⟩ := e63
      obtain rfl := q63.symm
      rw [hg]
      refine bc_iload_n dX10_sacks_66 rfl ?_
      refine bc_icmp_le (tgt := 76) dX10_sacks_67 (by decide) (fun h67 => ?_) (fun h67 => absurd h67 (fun q => q h.2.2.1))
      refine bc_iload_n dX10_sacks_76 rfl ?_
      refine bc_iload_n dX10_sacks_77 rfl ?_
      refine bc_ishr dX10_sacks_78 ?_
      refine bc_iconst (v := 1) dX10_sacks_79 (by decide) ?_
      refine bc_iand dX10_sacks_80 ?_
      refine bc_if_ne (tgt := 86) dX10_sacks_81 (by decide) (fun h81 => ?_) (fun h81 => ?_)
      · refine bc_aload_n dX10_sacks_86 rfl ?_
        refine bc_getr dX10_sacks_87 fX10_35 (rfl) rfl ?_
        refine bc_iconst (v := 2) dX10_sacks_90 (by decide) ?_
        refine bc_iload_n dX10_sacks_91 rfl ?_
        refine bc_imul dX10_sacks_92 ?_
        refine bc_iconst (v := 1) dX10_sacks_93 (by decide) ?_
        refine bc_iadd dX10_sacks_94 ?_
        refine bc_ialdE (k := (2 * q) + 1) dX10_sacks_95 (rfl) (ixA (a := 2 * q) (b := 1) (ixM (a := 2) (b := q) (rfl) (rfl)) (rfl)) (⟨by omega, by decide⟩) ?_
        refine bc_iload dX10_sacks_96 rfl ?_
        refine bc_icmp_ge (tgt := 114) dX10_sacks_98 (by decide) (fun h98 => ?_) (fun h98 => ?_)
        · refine bc_iload dX10_sacks_114 rfl ?_
          exact bc_ireturn dX10_sacks_116 rfl rfl (⟨by rw [if_neg h81, if_neg (by rw [← e5]; exact Int32.not_lt.mpr h98)], qS_0⟩)
        · refine bc_aload_n dX10_sacks_101 rfl ?_
          refine bc_getr dX10_sacks_102 fX10_35 (rfl) rfl ?_
          refine bc_iconst (v := 2) dX10_sacks_105 (by decide) ?_
          refine bc_iload_n dX10_sacks_106 rfl ?_
          refine bc_imul dX10_sacks_107 ?_
          refine bc_iconst (v := 1) dX10_sacks_108 (by decide) ?_
          refine bc_iadd dX10_sacks_109 ?_
          refine bc_ialdE (k := (2 * q) + 1) dX10_sacks_110 (rfl) (ixA (a := 2 * q) (b := 1) (ixM (a := 2) (b := q) (rfl) (rfl)) (rfl)) (⟨by omega, by decide⟩) ?_
          refine bc_goto (tgt := 116) dX10_sacks_111 (by decide) ?_
          exact bc_ireturn dX10_sacks_116 rfl rfl (⟨by rw [if_neg h81, if_pos (by rw [← e5]; exact Int32.not_le.mp h98)]; exact congrArg (fun z => some (Value.int z)) e5, qS_0⟩)
      · refine bc_iconst (v := 0) dX10_sacks_84 (by decide) ?_
        exact bc_ireturn dX10_sacks_85 rfl rfl (⟨by rw [if_pos h81], qS_0⟩)
    | succ i ih =>
      intro hi he
      have eG : gvM (M 5) s (nI (i + 1)) nq = G (i + 1) := by rw [hG]
      by_cases hc : N < G (i + 1)
      · have h3 := ih (by omega) (by rw [← he, skF, if_pos hc])
        refine bc_aload_n dX10_sacks_59 rfl ?_
        refine bc_iload_n dX10_sacks_60 rfl ?_
        refine bc_iload dX10_sacks_61 rfl ?_
        refine bc_callV (z := mX10_givenBy) (ci := 10) dX10_sacks_63 lX10_431 qX10_givenBy (by rfl) (by rfl) (by rfl) (by rfl) (Nat.le_of_ble_eq_true rfl) (t_givenBy _ _ hE.t0) (fun r63 μ63 e63 => ?_)
        obtain ⟨rfl, q63⟩ := e63
        obtain rfl := q63.symm
        rw [eG]
        refine bc_iload_n dX10_sacks_66 rfl ?_
        refine bc_icmp_le (tgt := 76) dX10_sacks_67 (by decide) (fun h67 => absurd h67 (Int32.not_le.mpr hc)) (fun h67 => ?_)
        refine bc_iinc (v := nI i) dX10_sacks_70 rfl (bn_m1 (t := i + 1) (by omega)) (by decide) rfl ?_
        refine bc_goto (tgt := 59) dX10_sacks_73 (by decide) ?_
        exact h3
      · have hv : skF G N 99 = nI (i + 1) := by rw [← he, skF, if_neg hc]
        rw [hv, ← mn_sw]
        refine bc_aload_n dX10_sacks_59 rfl ?_
        refine bc_iload_n dX10_sacks_60 rfl ?_
        refine bc_iload dX10_sacks_61 rfl ?_
        refine bc_callV (z := mX10_givenBy) (ci := 10) dX10_sacks_63 lX10_431 qX10_givenBy (by rfl) (by rfl) (by rfl) (by rfl) (Nat.le_of_ble_eq_true rfl) (t_givenBy _ _ hE.t0) (fun r63 μ63 e63 => ?_)
        obtain ⟨rfl, q63⟩ := e63
        obtain rfl := q63.symm
        rw [eG]
        refine bc_iload_n dX10_sacks_66 rfl ?_
        refine bc_icmp_le (tgt := 76) dX10_sacks_67 (by decide) (fun h67 => ?_) (fun h67 => absurd h67 (fun q => q (Int32.not_lt.mp hc)))
        refine bc_iload_n dX10_sacks_76 rfl ?_
        refine bc_iload_n dX10_sacks_77 rfl ?_
        refine bc_ishr dX10_sacks_78 ?_
        refine bc_iconst (v := 1) dX10_sacks_79 (by decide) ?_
        refine bc_iand dX10_sacks_80 ?_
        refine bc_if_ne (tgt := 86) dX10_sacks_81 (by decide) (fun h81 => ?_) (fun h81 => ?_)
        · refine bc_aload_n dX10_sacks_86 rfl ?_
          refine bc_getr dX10_sacks_87 fX10_35 (rfl) rfl ?_
          refine bc_iconst (v := 2) dX10_sacks_90 (by decide) ?_
          refine bc_iload_n dX10_sacks_91 rfl ?_
          refine bc_imul dX10_sacks_92 ?_
          refine bc_iconst (v := 1) dX10_sacks_93 (by decide) ?_
          refine bc_iadd dX10_sacks_94 ?_
          refine bc_ialdE (k := (2 * q) + 1) dX10_sacks_95 (rfl) (ixA (a := 2 * q) (b := 1) (ixM (a := 2) (b := q) (rfl) (rfl)) (rfl)) (⟨by omega, by decide⟩) ?_
          refine bc_iload dX10_sacks_96 rfl ?_
          refine bc_icmp_ge (tgt := 114) dX10_sacks_98 (by decide) (fun h98 => ?_) (fun h98 => ?_)
          · refine bc_iload dX10_sacks_114 rfl ?_
            exact bc_ireturn dX10_sacks_116 rfl rfl (⟨by rw [if_neg h81, if_neg (by rw [← e5]; exact Int32.not_lt.mpr h98)], qS_0⟩)
          · refine bc_aload_n dX10_sacks_101 rfl ?_
            refine bc_getr dX10_sacks_102 fX10_35 (rfl) rfl ?_
            refine bc_iconst (v := 2) dX10_sacks_105 (by decide) ?_
            refine bc_iload_n dX10_sacks_106 rfl ?_
            refine bc_imul dX10_sacks_107 ?_
            refine bc_iconst (v := 1) dX10_sacks_108 (by decide) ?_
            refine bc_iadd dX10_sacks_109 ?_
            refine bc_ialdE (k := (2 * q) + 1) dX10_sacks_110 (rfl) (ixA (a := 2 * q) (b := 1) (ixM (a := 2) (b := q) (rfl) (rfl)) (rfl)) (⟨by omega, by decide⟩) ?_
            refine bc_goto (tgt := 116) dX10_sacks_111 (by decide) ?_
            exact bc_ireturn dX10_sacks_116 rfl rfl (⟨by rw [if_neg h81, if_pos (by rw [← e5]; exact Int32.not_le.mp h98)]; exact congrArg (fun z => some (Value.int z)) e5, qS_0⟩)
        · refine bc_iconst (v := 0) dX10_sacks_84 (by decide) ?_
          exact bc_ireturn dX10_sacks_85 rfl rfl (⟨by rw [if_pos h81], qS_0⟩)
  refine bc_aload_n dX10_sacks_0 rfl ?_
  refine bc_iconst (v := 0) dX10_sacks_1 (by decide) ?_
  refine bc_put dX10_sacks_2 fX10_3 ftX10 fpX10_0 rfl rfl (rfl) rfl ?_
  refine bc_aload_n dX10_sacks_5 rfl ?_
  refine bc_iload_n dX10_sacks_6 rfl ?_
  refine bc_iconst (v := 1) dX10_sacks_7 (by decide) ?_
  refine bc_callV (z := mX10_isQuarter) (ci := 10) dX10_sacks_8 lX10_390 qX10_isQuarter (by rfl) (by rfl) (by rfl) (by rfl) (Nat.le_of_ble_eq_true rfl) (t_isQuarterY hE.2.1.1 h6 (gq hq (by omega)) rfl (by decide)) (fun r8 μ8 e8 => ?_)
  obtain ⟨rfl, q8⟩ := e8
  obtain rfl := q8.symm
  refine bc_if_eq (tgt := 53) dX10_sacks_11 (by decide) (fun h11 => absurd h11 (by decide)) (fun h11 => ?_)
  refine bc_aload_n dX10_sacks_14 rfl ?_
  refine bc_iload_n dX10_sacks_15 rfl ?_
  refine bc_if_lt (tgt := 44) dX10_sacks_16 (by decide) (fun h16 => absurd h16 (Int32.not_lt.mpr h.1)) (fun h16 => ?_)
  refine bc_iload_n dX10_sacks_19 rfl ?_
  refine bc_iconst (v := 1) dX10_sacks_20 (by decide) ?_
  refine bc_aload_n dX10_sacks_21 rfl ?_
  refine bc_geti dX10_sacks_22 fX10_182 (rfl) rfl ?_
  rw [show bc_u m 0 0 0 0 25 = nI nq from hE.2.1.1]
  refine bc_ishl dX10_sacks_25 ?_
  rw [h2.1]
  refine bc_icmp_ge (tgt := 44) dX10_sacks_26 (by decide) (fun h26 => absurd h26 (Int32.not_le.mpr h.2.1)) (fun h26 => ?_)
  refine bc_iload_n dX10_sacks_29 rfl ?_
  refine bc_iconst (v := 0) dX10_sacks_30 (by decide) ?_
  refine bc_sipush (v := 999) dX10_sacks_31 (by decide) ?_
  refine bc_callS (z := mX10_within) dX10_sacks_34 lX10_384 qX10_within (by rfl) (by rfl) (Nat.le_of_ble_eq_true rfl) (t_within _ _ _) (fun r34 μ34 e34 => ?_)
  obtain ⟨rfl, q34⟩ := e34
  obtain rfl := q34.symm
  refine bc_if_eq (tgt := 44) dX10_sacks_37 (by decide) (fun h37 => absurd h37 (fun e => ite0.mp e h.2.2)) (fun h37 => ?_)
  refine bc_iconst (v := 1) dX10_sacks_40 (by decide) ?_
  refine bc_goto (tgt := 45) dX10_sacks_41 (by decide) ?_
  refine bc_iconst (v := 2) dX10_sacks_45 (by decide) ?_
  refine bc_iconst (v := 1) dX10_sacks_46 (by decide) ?_
  refine bc_callV (z := mX10_may) (ci := 10) dX10_sacks_47 lX10_236 qX10_may (by rfl) (by rfl) (by rfl) (by rfl) (Nat.le_of_ble_eq_true rfl) (t_mayY (k := 1) True trivial _ (by decide) rfl (by decide)) (fun r47 μ47 e47 => ?_)
  obtain ⟨rfl, q47⟩ := e47
  obtain rfl := q47.symm
  refine bc_if_ne (tgt := 55) dX10_sacks_50 (by decide) (fun h50 => ?_) (fun h50 => absurd h50 (by decide))
  refine bc_bipush (v := 99) dX10_sacks_55 (by decide) ?_
  refine bc_istore dX10_sacks_57 (by decide) rfl ?_
  exact loop 99 (by omega) rfl
theorem t_isLeague (s : Int32) (hE : mEnv M m n no nq nr nm) : bc_C (d + 1) LM mX10_isLeague [.ref 0, .int s] m (fun r ν => r = some (.int (if lgB (M 5) nq s = true then 1 else 0)) ∧ ν = m) := by
  refine bc_enter (by decide) (Nat.le_of_ble_eq_true rfl) rfl ?_
  refine bc_iconst (v := 2) dX10_isLeague_0 (by decide) ?_
  refine bc_aload_n dX10_isLeague_1 rfl ?_
  refine bc_iload_n dX10_isLeague_2 rfl ?_
  refine bc_bipush (v := 99) dX10_isLeague_3 (by decide) ?_
  refine bc_callV (z := mX10_givenBy) (ci := 10) dX10_isLeague_5 lX10_431 qX10_givenBy (by rfl) (by rfl) (by rfl) (by rfl) (Nat.le_of_ble_eq_true rfl) (t_givenBy _ _ hE) (fun r5 μ5 e5 => ?_)
  obtain ⟨rfl, q5⟩ := e5
  obtain rfl := q5.symm
  refine bc_imul dX10_isLeague_8 ?_
  refine bc_aload_n dX10_isLeague_9 rfl ?_
  refine bc_iconst (v := 1) dX10_isLeague_10 (by decide) ?_
  refine bc_aload_n dX10_isLeague_11 rfl ?_
  refine bc_geti dX10_isLeague_12 fX10_182 (rfl) rfl ?_
  rw [hE.2.1.1]
  refine bc_ishl dX10_isLeague_15 ?_
  refine bc_iconst (v := 1) dX10_isLeague_16 (by decide) ?_
  refine bc_isub dX10_isLeague_17 ?_
  refine bc_bipush (v := 99) dX10_isLeague_18 (by decide) ?_
  refine bc_callV (z := mX10_givenBy) (ci := 10) dX10_isLeague_20 lX10_431 qX10_givenBy (by rfl) (by rfl) (by rfl) (by rfl) (Nat.le_of_ble_eq_true rfl) (t_givenBy _ _ hE) (fun r20 μ20 e20 => ?_)
  obtain ⟨rfl, q20⟩ := e20
  obtain rfl := q20.symm
  refine bc_icmp_le (tgt := 30) dX10_isLeague_23 (by decide) (fun h23 => ?_) (fun h23 => ?_)
  · refine bc_iconst (v := 0) dX10_isLeague_30 (by decide) ?_
    exact bc_ireturn dX10_isLeague_31 rfl rfl (⟨by rw [lgB, decide_eq_false (Int32.not_lt.mpr h23)]; rfl, rfl⟩)
  · refine bc_iconst (v := 1) dX10_isLeague_26 (by decide) ?_
    refine bc_goto (tgt := 31) dX10_isLeague_27 (by decide) ?_
    exact bc_ireturn dX10_isLeague_31 rfl rfl (⟨by rw [lgB, decide_eq_true (Int32.not_le.mp h23)]; rfl, rfl⟩)
theorem t_leagues (hE : mEnv M m n no nq nr nm) : bc_C (d + 2) LM mX10_leagues [.ref 0] m (fun r ν => r = some (.int (nI (ctM (fun s => lgB (M 5) nq (nI s)) (2 ^ nq)))) ∧ qS m ν) := by
  refine bc_enter (by decide) (Nat.le_of_ble_eq_true rfl) rfl ?_
  have h2 := qss nq hE.q6
  have loop : ∀ (c k : Nat), k + c = 2 ^ nq → bc_W (d + 2) LM mX10_leagues 9 [.ref 0, .int (nI (ctM (fun s => lgB (M 5) nq (nI s)) k)), .int (nI k)] [] (bc_u m 0 0 0) (fun r ν => r = some (.int (nI (ctM (fun s => lgB (M 5) nq (nI s)) (2 ^ nq)))) ∧ qS m ν) := by
    intro c
    induction c with
    | zero =>
      intro k hk
      have hk : k = 2 ^ nq := by omega
      refine bc_iload_n dX10_leagues_9 rfl ?_
      refine bc_iconst (v := 1) dX10_leagues_10 (by decide) ?_
      refine bc_aload_n dX10_leagues_11 rfl ?_
      refine bc_geti dX10_leagues_12 fX10_182 (rfl) rfl ?_
      rw [show bc_u m 0 0 0 0 25 = nI nq from hE.2.1.1]
      refine bc_ishl dX10_leagues_15 ?_
      rw [h2.1]
      refine bc_icmp_ge (tgt := 41) dX10_leagues_16 (by decide) (fun h16 => ?_) (fun h16 => absurd h16 (fun q => q (bx_out rfl (by omega) (by omega))))
      refine bc_iload_n dX10_leagues_41 rfl ?_
      exact bc_ireturn dX10_leagues_42 rfl rfl (⟨by rw [hk], qS_0⟩)
    | succ c ih =>
      intro k hk
      have h3 := ih (k + 1) (by omega)
      refine bc_iload_n dX10_leagues_9 rfl ?_
      refine bc_iconst (v := 1) dX10_leagues_10 (by decide) ?_
      refine bc_aload_n dX10_leagues_11 rfl ?_
      refine bc_geti dX10_leagues_12 fX10_182 (rfl) rfl ?_
      rw [show bc_u m 0 0 0 0 25 = nI nq from hE.2.1.1]
      refine bc_ishl dX10_leagues_15 ?_
      rw [h2.1]
      refine bc_icmp_ge (tgt := 41) dX10_leagues_16 (by decide) (fun h16 => absurd h16 (bx_in rfl (by omega) (by omega))) (fun h16 => ?_)
      refine bc_iload_n dX10_leagues_19 rfl ?_
      refine bc_aload_n dX10_leagues_20 rfl ?_
      refine bc_iload_n dX10_leagues_21 rfl ?_
      refine bc_callV (z := mX10_isLeague) (ci := 10) dX10_leagues_22 lX10_434 qX10_isLeague (by rfl) (by rfl) (by rfl) (by rfl) (Nat.le_of_ble_eq_true rfl) (t_isLeague _ hE.t0) (fun r22 μ22 e22 => ?_)
      obtain ⟨rfl, q22⟩ := e22
      obtain rfl := q22.symm
      refine bc_if_eq (tgt := 32) dX10_leagues_25 (by decide) (fun h25 => ?_) (fun h25 => ?_)
      · refine bc_iconst (v := 0) dX10_leagues_32 (by decide) ?_
        refine bc_iadd dX10_leagues_33 ?_
        refine bc_istore_n dX10_leagues_34 (by decide) rfl ?_
        refine bc_iinc1 dX10_leagues_35 rfl (by decide) rfl ?_
        refine bc_goto (tgt := 9) dX10_leagues_38 (by decide) ?_
        rw [show ctM (fun s => lgB (M 5) nq (nI s)) (k + 1) = ctM (fun s => lgB (M 5) nq (nI s)) k by rw [ctM, if_neg (ite0.mp h25)]] at h3
        rw [bn_add1, Int32.add_zero]
        exact h3
      · refine bc_iconst (v := 1) dX10_leagues_28 (by decide) ?_
        refine bc_goto (tgt := 33) dX10_leagues_29 (by decide) ?_
        refine bc_iadd dX10_leagues_33 ?_
        refine bc_istore_n dX10_leagues_34 (by decide) rfl ?_
        refine bc_iinc1 dX10_leagues_35 rfl (by decide) rfl ?_
        refine bc_goto (tgt := 9) dX10_leagues_38 (by decide) ?_
        rw [show ctM (fun s => lgB (M 5) nq (nI s)) (k + 1) = ctM (fun s => lgB (M 5) nq (nI s)) k + 1 by rw [ctM, if_pos (Decidable.not_not.mp (fun q => h25 (ite0.mpr q)))]] at h3
        rw [bn_add1, bn_add1]
        exact h3
  refine bc_aload_n dX10_leagues_0 rfl ?_
  refine bc_iconst (v := 0) dX10_leagues_1 (by decide) ?_
  refine bc_put dX10_leagues_2 fX10_3 ftX10 fpX10_0 rfl rfl (rfl) rfl ?_
  refine bc_iconst (v := 0) dX10_leagues_5 (by decide) ?_
  refine bc_istore_n dX10_leagues_6 (by decide) rfl ?_
  refine bc_iconst (v := 0) dX10_leagues_7 (by decide) ?_
  refine bc_istore_n dX10_leagues_8 (by decide) rfl ?_
  exact loop (2 ^ nq) 0 (by omega)
theorem t_keyB {q : Int32} (hE : mEnv M m n no nq nr nm) (h : ¬ (0 ≤ q ∧ q < nI nq)) : bc_C (d + 2) LM mX10_key [.ref 0, .int q] m (fun r ν => r = some (.int 0) ∧ ν = refM m 1 0) := by
  refine bc_enter (by decide) (Nat.le_of_ble_eq_true rfl) rfl ?_
  refine bc_aload_n dX10_key_0 rfl ?_
  refine bc_iconst (v := 0) dX10_key_1 (by decide) ?_
  refine bc_put dX10_key_2 fX10_3 ftX10 fpX10_0 rfl rfl (rfl) rfl ?_
  refine bc_aload_n dX10_key_5 rfl ?_
  refine bc_iload_n dX10_key_6 rfl ?_
  refine bc_iconst (v := 1) dX10_key_7 (by decide) ?_
  refine bc_callV (z := mX10_isQuarter) (ci := 10) dX10_key_8 lX10_390 qX10_isQuarter (by rfl) (by rfl) (by rfl) (by rfl) (Nat.le_of_ble_eq_true rfl) (t_isQuarterN hE.2.1.1 hE.q6 h rfl (by decide)) (fun r8 μ8 e8 => ?_)
  obtain ⟨rfl, q8⟩ := e8
  obtain rfl := q8.symm
  refine bc_if_ne (tgt := 16) dX10_key_11 (by decide) (fun h11 => absurd h11 (fun q => q rfl)) (fun h11 => ?_)
  refine bc_iconst (v := 0) dX10_key_14 (by decide) ?_
  exact bc_ireturn dX10_key_15 rfl rfl (⟨rfl, rfl⟩)
theorem and_bit (x : Int32) {q : Nat} (hq : q < 32) : ¬ (x &&& 1 <<< (nI q &&& 31) = 0) ↔ x >>> (nI q &&& 31) &&& 1 = 1 := by
  rw [b_is x hq]
  constructor
  · intro h
    by_cases hb : bt x q = true
    · exact hb
    · exfalso
      refine h (b_ext (fun i hi => ?_))
      rw [b_and, b_sh1 hq hi, b_0]
      by_cases e : i = q
      · subst e; simp at hb; rw [hb]; rfl
      · rw [decide_eq_false e, Bool.and_false]
  · intro h e
    have h1 : bt (x &&& 1 <<< (nI q &&& 31)) q = false := by rw [e]; exact b_0 q
    rw [b_and, b_sh1 hq hq, h, decide_eq_true rfl] at h1
    exact absurd h1 (by decide)
theorem t_key {q : Nat} (hE : mEnv M m n no nq nr nm) (hq : q < nq) : bc_C (d + 2) LM mX10_key [.ref 0, .int (nI q)] m (fun r ν => r = some (.int (nI (ctM (kyB (M 5) nq q) (2 ^ nq)))) ∧ qS m ν) := by
  refine bc_enter (by decide) (Nat.le_of_ble_eq_true rfl) rfl ?_
  have h6 := hE.q6
  have h2 := qss nq hE.q6
  have loop : ∀ (c k : Nat), k + c = 2 ^ nq → bc_W (d + 2) LM mX10_key 20 [.ref 0, .int (nI q), .int (nI (ctM (kyB (M 5) nq q) k)), .int (nI k)] [] (bc_u m 0 0 0) (fun r ν => r = some (.int (nI (ctM (kyB (M 5) nq q) (2 ^ nq)))) ∧ qS m ν) := by
    intro c
    induction c with
    | zero =>
      intro k hk
      have hk : k = 2 ^ nq := by omega
      refine bc_iload_n dX10_key_20 rfl ?_
      refine bc_iconst (v := 1) dX10_key_21 (by decide) ?_
      refine bc_aload_n dX10_key_22 rfl ?_
      refine bc_geti dX10_key_23 fX10_182 (rfl) rfl ?_
      rw [show bc_u m 0 0 0 0 25 = nI nq from hE.2.1.1]
      refine bc_ishl dX10_key_26 ?_
      rw [h2.1]
      refine bc_icmp_ge (tgt := 75) dX10_key_27 (by decide) (fun h27 => ?_) (fun h27 => absurd h27 (fun q => q (bx_out rfl (by omega) (by omega))))
      refine bc_iload_n dX10_key_75 rfl ?_
      exact bc_ireturn dX10_key_76 rfl rfl (⟨by rw [hk], qS_0⟩)
    | succ c ih =>
      intro k hk
      have h3 := ih (k + 1) (by omega)
      have no' : kyB (M 5) nq q k = false → bc_W (d + 2) LM mX10_key 66 [.ref 0, .int (nI q), .int (nI (ctM (kyB (M 5) nq q) k)), .int (nI k)] [.int (nI (ctM (kyB (M 5) nq q) k))] (bc_u m 0 0 0) (fun r ν => r = some (.int (nI (ctM (kyB (M 5) nq q) (2 ^ nq)))) ∧ qS m ν) := by
        intro hb
        rw [show ctM (kyB (M 5) nq q) (k + 1) = ctM (kyB (M 5) nq q) k by rw [ctM, if_neg (by rw [hb]; decide)]] at h3
        refine bc_iconst (v := 0) dX10_key_66 (by decide) ?_
        refine bc_iadd dX10_key_67 ?_
        refine bc_istore_n dX10_key_68 (by decide) rfl ?_
        refine bc_iinc1 dX10_key_69 rfl (by decide) rfl ?_
        refine bc_goto (tgt := 20) dX10_key_72 (by decide) ?_
        rw [bn_add1, Int32.add_zero]
        exact h3
      have ab := and_bit (nI k) (q := q) (by omega)
      refine bc_iload_n dX10_key_20 rfl ?_
      refine bc_iconst (v := 1) dX10_key_21 (by decide) ?_
      refine bc_aload_n dX10_key_22 rfl ?_
      refine bc_geti dX10_key_23 fX10_182 (rfl) rfl ?_
      rw [show bc_u m 0 0 0 0 25 = nI nq from hE.2.1.1]
      refine bc_ishl dX10_key_26 ?_
      rw [h2.1]
      refine bc_icmp_ge (tgt := 75) dX10_key_27 (by decide) (fun h27 => absurd h27 (bx_in rfl (by omega) (by omega))) (fun h27 => ?_)
      refine bc_iload_n dX10_key_30 rfl ?_
      refine bc_iload_n dX10_key_31 rfl ?_
      refine bc_iload_n dX10_key_32 rfl ?_
      refine bc_ishr dX10_key_33 ?_
      refine bc_iconst (v := 1) dX10_key_34 (by decide) ?_
      refine bc_iand dX10_key_35 ?_
      refine bc_iconst (v := 1) dX10_key_36 (by decide) ?_
      refine bc_icmp_ne (tgt := 66) dX10_key_37 (by decide) (fun h37 => ?_) (fun h37 => ?_)
      · exact no' (by rw [kyB, decide_eq_false (fun e => h37 (ab.mp e))]; rfl)
      · refine bc_aload_n dX10_key_40 rfl ?_
        refine bc_iload_n dX10_key_41 rfl ?_
        refine bc_callV (z := mX10_isLeague) (ci := 10) dX10_key_42 lX10_434 qX10_isLeague (by rfl) (by rfl) (by rfl) (by rfl) (Nat.le_of_ble_eq_true rfl) (t_isLeague _ hE.t0) (fun r42 μ42 e42 => ?_)
        obtain ⟨rfl, q42⟩ := e42
        obtain rfl := q42.symm
        refine bc_if_eq (tgt := 66) dX10_key_45 (by decide) (fun h45 => ?_) (fun h45 => ?_)
        · exact no' (by rw [kyB, show lgB (M 5) nq (nI k) = false by simpa using ite0.mp h45, Bool.false_and, Bool.and_false])
        · refine bc_aload_n dX10_key_48 rfl ?_
          refine bc_iload_n dX10_key_49 rfl ?_
          refine bc_iconst (v := 1) dX10_key_50 (by decide) ?_
          refine bc_iload_n dX10_key_51 rfl ?_
          refine bc_ishl dX10_key_52 ?_
          refine bc_iconst (v := (-1)) dX10_key_53 (by decide) ?_
          refine bc_ixor dX10_key_54 ?_
          refine bc_iand dX10_key_55 ?_
          refine bc_callV (z := mX10_isLeague) (ci := 10) dX10_key_56 lX10_434 qX10_isLeague (by rfl) (by rfl) (by rfl) (by rfl) (Nat.le_of_ble_eq_true rfl) (t_isLeague _ hE.t0) (fun r56 μ56 e56 => ?_)
          obtain ⟨rfl, q56⟩ := e56
          obtain rfl := q56.symm
          refine bc_if_ne (tgt := 66) dX10_key_59 (by decide) (fun h59 => ?_) (fun h59 => ?_)
          · exact no' (by rw [kyB, show lgB (M 5) nq (nI k &&& (1 <<< (nI q &&& 31) ^^^ -1)) = true from Decidable.not_not.mp (fun e => h59 (ite0.mpr e)), Bool.not_true, Bool.and_false, Bool.and_false])
          · refine bc_iconst (v := 1) dX10_key_62 (by decide) ?_
            refine bc_goto (tgt := 67) dX10_key_63 (by decide) ?_
            refine bc_iadd dX10_key_67 ?_
            refine bc_istore_n dX10_key_68 (by decide) rfl ?_
            refine bc_iinc1 dX10_key_69 rfl (by decide) rfl ?_
            refine bc_goto (tgt := 20) dX10_key_72 (by decide) ?_
            have hb : kyB (M 5) nq q k = true := by
              rw [kyB, decide_eq_true (ab.mpr h37), show lgB (M 5) nq (nI k) = true from Decidable.not_not.mp (fun e => h45 (ite0.mpr e)), show lgB (M 5) nq (nI k &&& (1 <<< (nI q &&& 31) ^^^ -1)) = false by simpa using ite0.mp h59]
              rfl
            rw [show ctM (kyB (M 5) nq q) (k + 1) = ctM (kyB (M 5) nq q) k + 1 by rw [ctM, if_pos hb]] at h3
            rw [bn_add1, bn_add1]
            exact h3
  refine bc_aload_n dX10_key_0 rfl ?_
  refine bc_iconst (v := 0) dX10_key_1 (by decide) ?_
  refine bc_put dX10_key_2 fX10_3 ftX10 fpX10_0 rfl rfl (rfl) rfl ?_
  refine bc_aload_n dX10_key_5 rfl ?_
  refine bc_iload_n dX10_key_6 rfl ?_
  refine bc_iconst (v := 1) dX10_key_7 (by decide) ?_
  refine bc_callV (z := mX10_isQuarter) (ci := 10) dX10_key_8 lX10_390 qX10_isQuarter (by rfl) (by rfl) (by rfl) (by rfl) (Nat.le_of_ble_eq_true rfl) (t_isQuarterY hE.2.1.1 h6 (gq hq (by omega)) rfl (by decide)) (fun r8 μ8 e8 => ?_)
  obtain ⟨rfl, q8⟩ := e8
  obtain rfl := q8.symm
  refine bc_if_ne (tgt := 16) dX10_key_11 (by decide) (fun h11 => ?_) (fun h11 => absurd h11 (by decide))
  refine bc_iconst (v := 0) dX10_key_16 (by decide) ?_
  refine bc_istore_n dX10_key_17 (by decide) rfl ?_
  refine bc_iconst (v := 0) dX10_key_18 (by decide) ?_
  refine bc_istore_n dX10_key_19 (by decide) rfl ?_
  exact loop (2 ^ nq) 0 (by omega)
/-! the nearest, the heaviest -/
theorem t_nearestB {w : Int32} (h : ¬ (0 ≤ w ∧ w ≤ 1)) : bc_C (d + 2) LM mX10_nearest [.ref 0, .int w] m (fun r ν => r = some (.int 0) ∧ ν = refM m 1 1) := by
  refine bc_enter (by decide) (Nat.le_of_ble_eq_true rfl) rfl ?_
  refine bc_aload_n dX10_nearest_0 rfl ?_
  refine bc_iconst (v := 0) dX10_nearest_1 (by decide) ?_
  refine bc_put dX10_nearest_2 fX10_3 ftX10 fpX10_0 rfl rfl (rfl) rfl ?_
  refine bc_aload_n dX10_nearest_5 rfl ?_
  refine bc_iload_n dX10_nearest_6 rfl ?_
  refine bc_iconst (v := 0) dX10_nearest_7 (by decide) ?_
  refine bc_iconst (v := 1) dX10_nearest_8 (by decide) ?_
  refine bc_callS (z := mX10_within) dX10_nearest_9 lX10_384 qX10_within (by rfl) (by rfl) (Nat.le_of_ble_eq_true rfl) (t_within _ _ _) (fun r9 μ9 e9 => ?_)
  obtain ⟨rfl, q9⟩ := e9
  obtain rfl := q9.symm
  refine bc_iconst (v := 1) dX10_nearest_12 (by decide) ?_
  refine bc_iconst (v := 1) dX10_nearest_13 (by decide) ?_
  refine bc_callV (z := mX10_may) (ci := 10) dX10_nearest_14 lX10_236 qX10_may (by rfl) (by rfl) (by rfl) (by rfl) (Nat.le_of_ble_eq_true rfl) (t_mayN (k := 1) _ h _ (by decide) rfl (by decide)) (fun r14 μ14 e14 => ?_)
  obtain ⟨rfl, q14⟩ := e14
  obtain rfl := q14.symm
  refine bc_if_ne (tgt := 22) dX10_nearest_17 (by decide) (fun h17 => absurd h17 (fun q => q rfl)) (fun h17 => ?_)
  refine bc_iconst (v := 0) dX10_nearest_20 (by decide) ?_
  exact bc_ireturn dX10_nearest_21 rfl rfl (⟨rfl, rfl⟩)
theorem nr_at {F : Nat → Int32} : ∀ k, (nrM F k = (-1, -1) ∧ k = 0) ∨ ∃ j, j < k ∧ nrM F k = (nI j, F j) := by
  intro k
  induction k with
  | zero => exact .inl ⟨rfl, rfl⟩
  | succ k ih =>
    right
    rw [nrM]
    by_cases h : (nrM F k).1 = -1 ∨ F k < (nrM F k).2
    · rw [if_pos h]; exact ⟨k, by omega, rfl⟩
    · rw [if_neg h]
      rcases ih with ⟨e, rfl⟩ | ⟨j, hj, e⟩
      · rw [e] at h; exact absurd (.inl rfl) h
      · exact ⟨j, by omega, e⟩
theorem nI_m1 {j : Nat} (h : j < 2147483648) : ¬ nI j = -1 := by
  rw [bn_eq, bn_ti h, show (-1 : Int32).toInt = -1 from rfl]; omega
theorem t_nearest {w : Nat} (hE : mEnv M m n no nq nr nm) (hN : sR (row 31 M) (m 19)) (hw : w ≤ 1) : bc_C (d + 2) LM mX10_nearest [.ref 0, .int (nI w)] m (fun r ν => r = some (.int (if w = 0 then (nrM (farM M) nm).1 else (nrM (farM M) nm).2)) ∧ qS m ν) := by
  refine bc_enter (by decide) (Nat.le_of_ble_eq_true rfl) rfl ?_
  have h6 := hE.2.2.1.2
  have hnm : bc_u m 0 0 0 0 28 = nI nm := hE.2.1.2.2.2
  have w0 : nI w = 0 ↔ w = 0 := bn_eqN (b := 0) (by omega) (by omega)
  have loop : ∀ (c k : Nat), k + c = nm → bc_W (d + 2) LM mX10_nearest 26 [.ref 0, .int (nI w), .int (nrM (farM M) k).1, .int (nI k)] [] (bc_u m 0 0 0) (fun r ν => r = some (.int (if w = 0 then (nrM (farM M) nm).1 else (nrM (farM M) nm).2)) ∧ qS m ν) := by
    intro c
    induction c with
    | zero =>
      intro k hk
      have hk : k = nm := by omega
      subst hk
      rcases nr_at (F := farM M) k with ⟨e, -⟩ | ⟨j, hj, e⟩
      · rw [e]
        refine bc_iload_n dX10_nearest_26 rfl ?_
        refine bc_aload_n dX10_nearest_27 rfl ?_
        refine bc_geti dX10_nearest_28 fX10_191 (rfl) rfl ?_
        refine bc_icmp_ge (tgt := 64) dX10_nearest_31 (by decide) (fun h31 => ?_) (fun h31 => absurd h31 (fun q => q (bx_out hnm (Nat.le_refl _) (by omega))))
        refine bc_iload_n dX10_nearest_64 rfl ?_
        refine bc_if_eq (tgt := 73) dX10_nearest_65 (by decide) (fun h65 => ?_) (fun h65 => ?_)
        · refine bc_iload_n dX10_nearest_73 rfl ?_
          refine bc_goto (tgt := 82) dX10_nearest_74 (by decide) ?_
          exact bc_ireturn dX10_nearest_82 rfl rfl (⟨by rw [if_pos (w0.mp h65)], qS_0⟩)
        · refine bc_iload_n dX10_nearest_68 rfl ?_
          refine bc_iconst (v := (-1)) dX10_nearest_69 (by decide) ?_
          refine bc_icmp_ne (tgt := 77) dX10_nearest_70 (by decide) (fun h70 => absurd h70 (fun q => q rfl)) (fun h70 => ?_)
          refine bc_iload_n dX10_nearest_73 rfl ?_
          refine bc_goto (tgt := 82) dX10_nearest_74 (by decide) ?_
          exact bc_ireturn dX10_nearest_82 rfl rfl (⟨by rw [if_neg (fun q => h65 (w0.mpr q))], qS_0⟩)
      · rw [e]
        refine bc_iload_n dX10_nearest_26 rfl ?_
        refine bc_aload_n dX10_nearest_27 rfl ?_
        refine bc_geti dX10_nearest_28 fX10_191 (rfl) rfl ?_
        refine bc_icmp_ge (tgt := 64) dX10_nearest_31 (by decide) (fun h31 => ?_) (fun h31 => absurd h31 (fun q => q (bx_out hnm (Nat.le_refl _) (by omega))))
        refine bc_iload_n dX10_nearest_64 rfl ?_
        refine bc_if_eq (tgt := 73) dX10_nearest_65 (by decide) (fun h65 => ?_) (fun h65 => ?_)
        · refine bc_iload_n dX10_nearest_73 rfl ?_
          refine bc_goto (tgt := 82) dX10_nearest_74 (by decide) ?_
          exact bc_ireturn dX10_nearest_82 rfl rfl (⟨by rw [if_pos (w0.mp h65)], qS_0⟩)
        · refine bc_iload_n dX10_nearest_68 rfl ?_
          refine bc_iconst (v := (-1)) dX10_nearest_69 (by decide) ?_
          refine bc_icmp_ne (tgt := 77) dX10_nearest_70 (by decide) (fun h70 => ?_) (fun h70 => absurd h70 (nI_m1 (by omega)))
          refine bc_aload_n dX10_nearest_77 rfl ?_
          refine bc_iload_n dX10_nearest_78 rfl ?_
          refine bc_callV (z := mX10_farOf) (ci := 10) dX10_nearest_79 lX10_398 qX10_farOf (by rfl) (by rfl) (by rfl) (by rfl) (Nat.le_of_ble_eq_true rfl) (t_farOf hE.t0 hN (by omega)) (fun r79 μ79 e79 => ?_)
          obtain ⟨rfl, q79⟩ := e79
          obtain rfl := q79.symm
          exact bc_ireturn dX10_nearest_82 rfl rfl (⟨by rw [if_neg (fun q => h65 (w0.mpr q))], qS_0⟩)
    | succ c ih =>
      intro k hk
      have h3 := ih (k + 1) (by omega)
      have yes : (nrM (farM M) k).1 = -1 ∨ farM M k < (nrM (farM M) k).2 → (nrM (farM M) (k + 1)).1 = nI k := fun h => by rw [nrM, if_pos h]
      have no' : ¬ ((nrM (farM M) k).1 = -1 ∨ farM M k < (nrM (farM M) k).2) → (nrM (farM M) (k + 1)).1 = (nrM (farM M) k).1 := fun h => by rw [nrM, if_neg h]
      rcases nr_at (F := farM M) k with ⟨e, -⟩ | ⟨j, hj, e⟩
      · rw [yes (.inl (by rw [e]))] at h3
        rw [e]
        refine bc_iload_n dX10_nearest_26 rfl ?_
        refine bc_aload_n dX10_nearest_27 rfl ?_
        refine bc_geti dX10_nearest_28 fX10_191 (rfl) rfl ?_
        refine bc_icmp_ge (tgt := 64) dX10_nearest_31 (by decide) (fun h31 => absurd h31 (bx_in hnm (by omega) (by omega))) (fun h31 => ?_)
        refine bc_iload_n dX10_nearest_34 rfl ?_
        refine bc_iconst (v := (-1)) dX10_nearest_35 (by decide) ?_
        refine bc_icmp_eq (tgt := 52) dX10_nearest_36 (by decide) (fun h36 => ?_) (fun h36 => absurd h36 (fun q => q rfl))
        refine bc_iload_n dX10_nearest_52 rfl ?_
        refine bc_goto (tgt := 57) dX10_nearest_53 (by decide) ?_
        refine bc_istore_n dX10_nearest_57 (by decide) rfl ?_
        refine bc_iinc1 dX10_nearest_58 rfl (by decide) rfl ?_
        refine bc_goto (tgt := 26) dX10_nearest_61 (by decide) ?_
        rw [bn_add1]
        exact h3
      · rw [e]
        rw [e] at yes no'
        refine bc_iload_n dX10_nearest_26 rfl ?_
        refine bc_aload_n dX10_nearest_27 rfl ?_
        refine bc_geti dX10_nearest_28 fX10_191 (rfl) rfl ?_
        refine bc_icmp_ge (tgt := 64) dX10_nearest_31 (by decide) (fun h31 => absurd h31 (bx_in hnm (by omega) (by omega))) (fun h31 => ?_)
        refine bc_iload_n dX10_nearest_34 rfl ?_
        refine bc_iconst (v := (-1)) dX10_nearest_35 (by decide) ?_
        refine bc_icmp_eq (tgt := 52) dX10_nearest_36 (by decide) (fun h36 => absurd h36 (nI_m1 (by omega))) (fun h36 => ?_)
        refine bc_aload_n dX10_nearest_39 rfl ?_
        refine bc_iload_n dX10_nearest_40 rfl ?_
        refine bc_callV (z := mX10_farOf) (ci := 10) dX10_nearest_41 lX10_398 qX10_farOf (by rfl) (by rfl) (by rfl) (by rfl) (Nat.le_of_ble_eq_true rfl) (t_farOf hE.t0 hN (by omega)) (fun r41 μ41 e41 => ?_)
        obtain ⟨rfl, q41⟩ := e41
        obtain rfl := q41.symm
        refine bc_aload_n dX10_nearest_44 rfl ?_
        refine bc_iload_n dX10_nearest_45 rfl ?_
        refine bc_callV (z := mX10_farOf) (ci := 10) dX10_nearest_46 lX10_398 qX10_farOf (by rfl) (by rfl) (by rfl) (by rfl) (Nat.le_of_ble_eq_true rfl) (t_farOf hE.t0 hN (by omega)) (fun r46 μ46 e46 => ?_)
        obtain ⟨rfl, q46⟩ := e46
        obtain rfl := q46.symm
        refine bc_icmp_ge (tgt := 56) dX10_nearest_49 (by decide) (fun h49 => ?_) (fun h49 => ?_)
        · refine bc_iload_n dX10_nearest_56 rfl ?_
          refine bc_istore_n dX10_nearest_57 (by decide) rfl ?_
          refine bc_iinc1 dX10_nearest_58 rfl (by decide) rfl ?_
          refine bc_goto (tgt := 26) dX10_nearest_61 (by decide) ?_
          rw [no' (fun q => q.elim (nI_m1 (by omega)) (Int32.not_lt.mpr h49))] at h3
          rw [bn_add1]
          exact h3
        · refine bc_iload_n dX10_nearest_52 rfl ?_
          refine bc_goto (tgt := 57) dX10_nearest_53 (by decide) ?_
          refine bc_istore_n dX10_nearest_57 (by decide) rfl ?_
          refine bc_iinc1 dX10_nearest_58 rfl (by decide) rfl ?_
          refine bc_goto (tgt := 26) dX10_nearest_61 (by decide) ?_
          rw [yes (.inr (Int32.not_le.mp h49))] at h3
          rw [bn_add1]
          exact h3
  refine bc_aload_n dX10_nearest_0 rfl ?_
  refine bc_iconst (v := 0) dX10_nearest_1 (by decide) ?_
  refine bc_put dX10_nearest_2 fX10_3 ftX10 fpX10_0 rfl rfl (rfl) rfl ?_
  refine bc_aload_n dX10_nearest_5 rfl ?_
  refine bc_iload_n dX10_nearest_6 rfl ?_
  refine bc_iconst (v := 0) dX10_nearest_7 (by decide) ?_
  refine bc_iconst (v := 1) dX10_nearest_8 (by decide) ?_
  refine bc_callS (z := mX10_within) dX10_nearest_9 lX10_384 qX10_within (by rfl) (by rfl) (Nat.le_of_ble_eq_true rfl) (t_within _ _ _) (fun r9 μ9 e9 => ?_)
  obtain ⟨rfl, q9⟩ := e9
  obtain rfl := q9.symm
  refine bc_iconst (v := 1) dX10_nearest_12 (by decide) ?_
  refine bc_iconst (v := 1) dX10_nearest_13 (by decide) ?_
  refine bc_callV (z := mX10_may) (ci := 10) dX10_nearest_14 lX10_236 qX10_may (by rfl) (by rfl) (by rfl) (by rfl) (Nat.le_of_ble_eq_true rfl) (t_mayY (k := 1) _ (wN (b := 1) (by omega) (by omega)) _ (by decide) rfl (by decide)) (fun r14 μ14 e14 => ?_)
  obtain ⟨rfl, q14⟩ := e14
  obtain rfl := q14.symm
  refine bc_if_ne (tgt := 22) dX10_nearest_17 (by decide) (fun h17 => ?_) (fun h17 => absurd h17 (by decide))
  refine bc_iconst (v := (-1)) dX10_nearest_22 (by decide) ?_
  refine bc_istore_n dX10_nearest_23 (by decide) rfl ?_
  refine bc_iconst (v := 0) dX10_nearest_24 (by decide) ?_
  refine bc_istore_n dX10_nearest_25 (by decide) rfl ?_
  exact loop nm 0 (by omega)
theorem t_heaviestB {w : Int32} (h : ¬ (0 ≤ w ∧ w ≤ 1)) : bc_C (d + 2) LM mX10_heaviest [.ref 0, .int w] m (fun r ν => r = some (.int 0) ∧ ν = refM m 1 1) := by
  refine bc_enter (by decide) (Nat.le_of_ble_eq_true rfl) rfl ?_
  refine bc_aload_n dX10_heaviest_0 rfl ?_
  refine bc_iconst (v := 0) dX10_heaviest_1 (by decide) ?_
  refine bc_put dX10_heaviest_2 fX10_3 ftX10 fpX10_0 rfl rfl (rfl) rfl ?_
  refine bc_aload_n dX10_heaviest_5 rfl ?_
  refine bc_iload_n dX10_heaviest_6 rfl ?_
  refine bc_iconst (v := 0) dX10_heaviest_7 (by decide) ?_
  refine bc_iconst (v := 1) dX10_heaviest_8 (by decide) ?_
  refine bc_callS (z := mX10_within) dX10_heaviest_9 lX10_384 qX10_within (by rfl) (by rfl) (Nat.le_of_ble_eq_true rfl) (t_within _ _ _) (fun r9 μ9 e9 => ?_)
  obtain ⟨rfl, q9⟩ := e9
  obtain rfl := q9.symm
  refine bc_iconst (v := 1) dX10_heaviest_12 (by decide) ?_
  refine bc_iconst (v := 1) dX10_heaviest_13 (by decide) ?_
  refine bc_callV (z := mX10_may) (ci := 10) dX10_heaviest_14 lX10_236 qX10_may (by rfl) (by rfl) (by rfl) (by rfl) (Nat.le_of_ble_eq_true rfl) (t_mayN (k := 1) _ h _ (by decide) rfl (by decide)) (fun r14 μ14 e14 => ?_)
  obtain ⟨rfl, q14⟩ := e14
  obtain rfl := q14.symm
  refine bc_if_ne (tgt := 22) dX10_heaviest_17 (by decide) (fun h17 => absurd h17 (fun q => q rfl)) (fun h17 => ?_)
  refine bc_iconst (v := 0) dX10_heaviest_20 (by decide) ?_
  exact bc_ireturn dX10_heaviest_21 rfl rfl (⟨rfl, rfl⟩)
theorem nt_nn {sd ns : Nat → Int32} {q : Int32} : ∀ k, k ≤ 1000 → (∀ i, i < k → 1 ≤ (ns i).toInt ∧ (ns i).toInt ≤ 99) → 0 ≤ (ntM sd ns q k).toInt ∧ (ntM sd ns q k).toInt ≤ 99 * k := by
  intro k
  induction k with
  | zero => intro _ _; show 0 ≤ (0 : Int32).toInt ∧ (0 : Int32).toInt ≤ 99 * ((0 : Nat) : Int); decide
  | succ k ih =>
    intro hk h
    have h1 := ih (by omega) (fun i hi => h i (by omega))
    have h2 := h k (by omega)
    rw [ntM]
    split
    · rw [Int32.toInt_add, Int.bmod_eq_of_le (by omega) (by omega)]; omega
    · omega
/-- the reference begins at nothing -/
def hwM (N : Nat → Int32) : Nat → Int32 × Int32
  | 0 => (0, 0)
  | k + 1 => if (hwM N k).2 < N k then (nI k, N k) else hwM N k
theorem hw_hv {N : Nat → Int32} (h0 : 0 ≤ (N 0).toInt) : ∀ k, hwM N (k + 1) = hvM N k := by
  intro k
  induction k with
  | zero =>
    show (if (0 : Int32) < N 0 then (nI 0, N 0) else (0, 0)) = (0, N 0)
    by_cases h : 0 < N 0
    · rw [if_pos h]; rfl
    · rw [if_neg h]
      have e : N 0 = 0 := by
        rw [bn_lt, bn_0] at h
        rw [bn_eq, bn_0]; omega
      rw [e]
  | succ k ih => rw [hwM, ih, hvM]
theorem t_heaviest {w : Nat} (hE : mEnv M m n no nq nr nm) (hB : nosB M no nq) (hw : w ≤ 1) : bc_C (d + 2) LM mX10_heaviest [.ref 0, .int (nI w)] m (fun r ν => r = some (.int (if w = 0 then (hvM (fun j => ntM (M 4) (M 5) (nI j) nq) 3).1 else (hvM (fun j => ntM (M 4) (M 5) (nI j) nq) 3).2)) ∧ qS m ν) := by
  refine bc_enter (by decide) (Nat.le_of_ble_eq_true rfl) rfl ?_
  have h6 := hE.q6
  have hnq : bc_u m 0 0 0 0 25 = nI nq := hE.2.1.1
  have w0 : nI w = 0 ↔ w = 0 := bn_eqN (b := 0) (by omega) (by omega)
  obtain ⟨N, hNd⟩ : ∃ N : Nat → Int32, N = fun j => ntM (M 4) (M 5) (nI j) nq := ⟨_, rfl⟩
  have h0 : 0 ≤ (N 0).toInt := by rw [hNd]; exact (nt_nn nq (by omega) hB.1).1
  rw [← hNd, ← hw_hv h0]
  have loop : ∀ (c k : Nat) (v5 v6 : Value), v5.category = 1 → v6.category = 1 → k + c = 4 → bc_W (d + 2) LM mX10_heaviest 29 [.ref 0, .int (nI w), .int (hwM N k).1, .int (hwM N k).2, .int (nI k), v5, v6] [] (bc_u m 0 0 0) (fun r ν => r = some (.int (if w = 0 then (hwM N (3 + 1)).1 else (hwM N (3 + 1)).2)) ∧ qS m ν) := by
    intro c
    induction c with
    | zero =>
      intro k v5 v6 c5 c6 hk
      have hk : k = 4 := by omega
      subst hk
      refine bc_iload dX10_heaviest_29 rfl ?_
      refine bc_iconst (v := 4) dX10_heaviest_31 (by decide) ?_
      refine bc_icmp_ge (tgt := 111) dX10_heaviest_32 (by decide) (fun h32 => ?_) (fun h32 => absurd h32 (by decide))
      refine bc_iload_n dX10_heaviest_111 rfl ?_
      refine bc_if_ne (tgt := 119) dX10_heaviest_112 (by decide) (fun h112 => ?_) (fun h112 => ?_)
      · refine bc_iload_n dX10_heaviest_119 rfl ?_
        exact bc_ireturn dX10_heaviest_120 rfl rfl (⟨by rw [if_neg (fun q => h112 (w0.mpr q))], qS_0⟩)
      · refine bc_iload_n dX10_heaviest_115 rfl ?_
        refine bc_goto (tgt := 120) dX10_heaviest_116 (by decide) ?_
        exact bc_ireturn dX10_heaviest_120 rfl rfl (⟨by rw [if_pos (w0.mp h112)], qS_0⟩)
    | succ c ih =>
      intro k v5 v6 c5 c6 hk
      have inner : ∀ (e j : Nat), j + e = nq → bc_W (d + 2) LM mX10_heaviest 41 [.ref 0, .int (nI w), .int (hwM N k).1, .int (hwM N k).2, .int (nI k), .int (ntM (M 4) (M 5) (nI k) j), .int (nI j)] [] (bc_u m 0 0 0) (fun r ν => r = some (.int (if w = 0 then (hwM N (3 + 1)).1 else (hwM N (3 + 1)).2)) ∧ qS m ν) := by
        intro e
        induction e with
        | zero =>
          intro j hj
          have hj : j = nq := by omega
          subst hj
          have h3 := ih (k + 1) (.int (ntM (M 4) (M 5) (nI k) j)) (.int (nI j)) rfl rfl (by omega)
          have eN : ntM (M 4) (M 5) (nI k) j = N k := by rw [hNd]
          rw [eN] at h3 ⊢
          refine bc_iload dX10_heaviest_41 rfl ?_
          refine bc_aload_n dX10_heaviest_43 rfl ?_
          refine bc_geti dX10_heaviest_44 fX10_182 (rfl) rfl ?_
          refine bc_icmp_ge (tgt := 90) dX10_heaviest_47 (by decide) (fun h47 => ?_) (fun h47 => absurd h47 (fun q => q (bx_out hnq (Nat.le_refl _) (by omega))))
          refine bc_iload dX10_heaviest_90 rfl ?_
          refine bc_iload_n dX10_heaviest_92 rfl ?_
          refine bc_icmp_gt (tgt := 99) dX10_heaviest_93 (by decide) (fun h93 => ?_) (fun h93 => ?_)
          · refine bc_iload dX10_heaviest_99 rfl ?_
            refine bc_istore_n dX10_heaviest_101 (by decide) rfl ?_
            refine bc_iload dX10_heaviest_102 rfl ?_
            refine bc_istore_n dX10_heaviest_104 (by decide) rfl ?_
            refine bc_iinc1 dX10_heaviest_105 rfl (by decide) rfl ?_
            refine bc_goto (tgt := 29) dX10_heaviest_108 (by decide) ?_
            rw [hwM, if_pos h93] at h3
            rw [bn_add1]
            exact h3
          · refine bc_goto (tgt := 105) dX10_heaviest_96 (by decide) ?_
            refine bc_iinc1 dX10_heaviest_105 rfl (by decide) rfl ?_
            refine bc_goto (tgt := 29) dX10_heaviest_108 (by decide) ?_
            rw [hwM, if_neg h93] at h3
            rw [bn_add1]
            exact h3
        | succ e ie =>
          intro j hj
          have h3 := ie (j + 1) (by omega)
          have e4 : m 7 (2 * j) = M 4 j := (hE.2.2.2.1 j (by omega)).1
          have e5 : m 7 (2 * j + 1) = M 5 j := (hE.2.2.2.1 j (by omega)).2
          refine bc_iload dX10_heaviest_41 rfl ?_
          refine bc_aload_n dX10_heaviest_43 rfl ?_
          refine bc_geti dX10_heaviest_44 fX10_182 (rfl) rfl ?_
          refine bc_icmp_ge (tgt := 90) dX10_heaviest_47 (by decide) (fun h47 => absurd h47 (bx_in hnq (by omega) (by omega))) (fun h47 => ?_)
          refine bc_iload dX10_heaviest_50 rfl ?_
          refine bc_aload_n dX10_heaviest_52 rfl ?_
          refine bc_getr dX10_heaviest_53 fX10_35 (rfl) rfl ?_
          refine bc_iconst (v := 2) dX10_heaviest_56 (by decide) ?_
          refine bc_iload dX10_heaviest_57 rfl ?_
          refine bc_imul dX10_heaviest_59 ?_
          refine bc_ialdE (k := 2 * j) dX10_heaviest_60 (rfl) (ixM (a := 2) (b := j) (rfl) (rfl)) (⟨by omega, by decide⟩) ?_
          refine bc_iload dX10_heaviest_61 rfl ?_
          refine bc_icmp_ne (tgt := 80) dX10_heaviest_63 (by decide) (fun h63 => ?_) (fun h63 => ?_)
          · refine bc_iconst (v := 0) dX10_heaviest_80 (by decide) ?_
            refine bc_iadd dX10_heaviest_81 ?_
            refine bc_istore dX10_heaviest_82 (by decide) rfl ?_
            refine bc_iinc1 dX10_heaviest_84 rfl (by decide) rfl ?_
            refine bc_goto (tgt := 41) dX10_heaviest_87 (by decide) ?_
            rw [show ntM (M 4) (M 5) (nI k) (j + 1) = ntM (M 4) (M 5) (nI k) j by rw [ntM, if_neg (fun q => h63 (e4.trans q))]] at h3
            rw [bn_add1, Int32.add_zero]
            exact h3
          · refine bc_aload_n dX10_heaviest_66 rfl ?_
            refine bc_getr dX10_heaviest_67 fX10_35 (rfl) rfl ?_
            refine bc_iconst (v := 2) dX10_heaviest_70 (by decide) ?_
            refine bc_iload dX10_heaviest_71 rfl ?_
            refine bc_imul dX10_heaviest_73 ?_
            refine bc_iconst (v := 1) dX10_heaviest_74 (by decide) ?_
            refine bc_iadd dX10_heaviest_75 ?_
            refine bc_ialdE (k := (2 * j) + 1) dX10_heaviest_76 (rfl) (ixA (a := 2 * j) (b := 1) (ixM (a := 2) (b := j) (rfl) (rfl)) (rfl)) (⟨by omega, by decide⟩) ?_
            refine bc_goto (tgt := 81) dX10_heaviest_77 (by decide) ?_
            refine bc_iadd dX10_heaviest_81 ?_
            refine bc_istore dX10_heaviest_82 (by decide) rfl ?_
            refine bc_iinc1 dX10_heaviest_84 rfl (by decide) rfl ?_
            refine bc_goto (tgt := 41) dX10_heaviest_87 (by decide) ?_
            rw [show ntM (M 4) (M 5) (nI k) (j + 1) = ntM (M 4) (M 5) (nI k) j + M 5 j by rw [ntM, if_pos (e4.symm.trans h63)], ← e5] at h3
            rw [bn_add1]
            exact h3
      refine bc_iload dX10_heaviest_29 rfl ?_
      refine bc_iconst (v := 4) dX10_heaviest_31 (by decide) ?_
      refine bc_icmp_ge (tgt := 111) dX10_heaviest_32 (by decide) (fun h32 => absurd h32 (by rw [show (4 : Int32) = nI 4 from rfl, bn_leN (by omega) (by omega)]; omega)) (fun h32 => ?_)
      refine bc_iconst (v := 0) dX10_heaviest_35 (by decide) ?_
      refine bc_istore dX10_heaviest_36 (by decide) rfl ?_
      refine bc_iconst (v := 0) dX10_heaviest_38 (by decide) ?_
      refine bc_istore dX10_heaviest_39 (by decide) rfl ?_
      exact inner nq 0 (by omega)
  refine bc_aload_n dX10_heaviest_0 rfl ?_
  refine bc_iconst (v := 0) dX10_heaviest_1 (by decide) ?_
  refine bc_put dX10_heaviest_2 fX10_3 ftX10 fpX10_0 rfl rfl (rfl) rfl ?_
  refine bc_aload_n dX10_heaviest_5 rfl ?_
  refine bc_iload_n dX10_heaviest_6 rfl ?_
  refine bc_iconst (v := 0) dX10_heaviest_7 (by decide) ?_
  refine bc_iconst (v := 1) dX10_heaviest_8 (by decide) ?_
  refine bc_callS (z := mX10_within) dX10_heaviest_9 lX10_384 qX10_within (by rfl) (by rfl) (Nat.le_of_ble_eq_true rfl) (t_within _ _ _) (fun r9 μ9 e9 => ?_)
  obtain ⟨rfl, q9⟩ := e9
  obtain rfl := q9.symm
  refine bc_iconst (v := 1) dX10_heaviest_12 (by decide) ?_
  refine bc_iconst (v := 1) dX10_heaviest_13 (by decide) ?_
  refine bc_callV (z := mX10_may) (ci := 10) dX10_heaviest_14 lX10_236 qX10_may (by rfl) (by rfl) (by rfl) (by rfl) (Nat.le_of_ble_eq_true rfl) (t_mayY (k := 1) _ (wN (b := 1) (by omega) (by omega)) _ (by decide) rfl (by decide)) (fun r14 μ14 e14 => ?_)
  obtain ⟨rfl, q14⟩ := e14
  obtain rfl := q14.symm
  refine bc_if_ne (tgt := 22) dX10_heaviest_17 (by decide) (fun h17 => ?_) (fun h17 => absurd h17 (by decide))
  refine bc_iconst (v := 0) dX10_heaviest_22 (by decide) ?_
  refine bc_istore_n dX10_heaviest_23 (by decide) rfl ?_
  refine bc_iconst (v := 0) dX10_heaviest_24 (by decide) ?_
  refine bc_istore_n dX10_heaviest_25 (by decide) rfl ?_
  refine bc_iconst (v := 0) dX10_heaviest_26 (by decide) ?_
  refine bc_istore dX10_heaviest_27 (by decide) rfl ?_
  exact loop 4 0 _ _ rfl rfl (by omega)
/-! what lies around -/
theorem t_across {L : bc_L} {j : Nat} (hj : j < 4) : bc_C d L mX10_across [.int (nI j)] m (fun r ν => r = some (.int (wxM j)) ∧ ν = m) := by
  refine bc_enter (by decide) (Nat.le_of_ble_eq_true rfl) rfl ?_
  have hc : j = 0 ∨ j = 1 ∨ j = 2 ∨ j = 3 := by omega
  rcases hc with rfl | rfl | rfl | rfl
  · skip
    refine bc_iload_n dX10_across_0 rfl ?_
    refine bc_iconst (v := 1) dX10_across_1 (by decide) ?_
    refine bc_icmp_ne (tgt := 9) dX10_across_2 (by decide) (fun h2 => ?_) (fun h2 => absurd h2 (by decide))
    refine bc_iload_n dX10_across_9 rfl ?_
    refine bc_iconst (v := 3) dX10_across_10 (by decide) ?_
    refine bc_icmp_ne (tgt := 18) dX10_across_11 (by decide) (fun h11 => ?_) (fun h11 => absurd h11 (by decide))
    refine bc_iconst (v := 0) dX10_across_18 (by decide) ?_
    exact bc_ireturn dX10_across_19 rfl rfl (⟨rfl, rfl⟩)
  · skip
    refine bc_iload_n dX10_across_0 rfl ?_
    refine bc_iconst (v := 1) dX10_across_1 (by decide) ?_
    refine bc_icmp_ne (tgt := 9) dX10_across_2 (by decide) (fun h2 => absurd h2 (fun q => q rfl)) (fun h2 => ?_)
    refine bc_iconst (v := 1) dX10_across_5 (by decide) ?_
    refine bc_goto (tgt := 19) dX10_across_6 (by decide) ?_
    exact bc_ireturn dX10_across_19 rfl rfl (⟨rfl, rfl⟩)
  · skip
    refine bc_iload_n dX10_across_0 rfl ?_
    refine bc_iconst (v := 1) dX10_across_1 (by decide) ?_
    refine bc_icmp_ne (tgt := 9) dX10_across_2 (by decide) (fun h2 => ?_) (fun h2 => absurd h2 (by decide))
    refine bc_iload_n dX10_across_9 rfl ?_
    refine bc_iconst (v := 3) dX10_across_10 (by decide) ?_
    refine bc_icmp_ne (tgt := 18) dX10_across_11 (by decide) (fun h11 => ?_) (fun h11 => absurd h11 (by decide))
    refine bc_iconst (v := 0) dX10_across_18 (by decide) ?_
    exact bc_ireturn dX10_across_19 rfl rfl (⟨rfl, rfl⟩)
  · skip
    refine bc_iload_n dX10_across_0 rfl ?_
    refine bc_iconst (v := 1) dX10_across_1 (by decide) ?_
    refine bc_icmp_ne (tgt := 9) dX10_across_2 (by decide) (fun h2 => ?_) (fun h2 => absurd h2 (by decide))
    refine bc_iload_n dX10_across_9 rfl ?_
    refine bc_iconst (v := 3) dX10_across_10 (by decide) ?_
    refine bc_icmp_ne (tgt := 18) dX10_across_11 (by decide) (fun h11 => absurd h11 (fun q => q rfl)) (fun h11 => ?_)
    refine bc_iconst (v := (-1)) dX10_across_14 (by decide) ?_
    refine bc_goto (tgt := 19) dX10_across_15 (by decide) ?_
    exact bc_ireturn dX10_across_19 rfl rfl (⟨rfl, rfl⟩)
theorem t_along {L : bc_L} {j : Nat} (hj : j < 4) : bc_C d L mX10_along [.int (nI j)] m (fun r ν => r = some (.int (wyM j)) ∧ ν = m) := by
  refine bc_enter (by decide) (Nat.le_of_ble_eq_true rfl) rfl ?_
  have hc : j = 0 ∨ j = 1 ∨ j = 2 ∨ j = 3 := by omega
  rcases hc with rfl | rfl | rfl | rfl
  · skip
    refine bc_iload_n dX10_along_0 rfl ?_
    refine bc_if_ne (tgt := 8) dX10_along_1 (by decide) (fun h1 => absurd h1 (fun q => q rfl)) (fun h1 => ?_)
    refine bc_iconst (v := 1) dX10_along_4 (by decide) ?_
    refine bc_goto (tgt := 18) dX10_along_5 (by decide) ?_
    exact bc_ireturn dX10_along_18 rfl rfl (⟨rfl, rfl⟩)
  · skip
    refine bc_iload_n dX10_along_0 rfl ?_
    refine bc_if_ne (tgt := 8) dX10_along_1 (by decide) (fun h1 => ?_) (fun h1 => absurd h1 (by decide))
    refine bc_iload_n dX10_along_8 rfl ?_
    refine bc_iconst (v := 2) dX10_along_9 (by decide) ?_
    refine bc_icmp_ne (tgt := 17) dX10_along_10 (by decide) (fun h10 => ?_) (fun h10 => absurd h10 (by decide))
    refine bc_iconst (v := 0) dX10_along_17 (by decide) ?_
    exact bc_ireturn dX10_along_18 rfl rfl (⟨rfl, rfl⟩)
  · skip
    refine bc_iload_n dX10_along_0 rfl ?_
    refine bc_if_ne (tgt := 8) dX10_along_1 (by decide) (fun h1 => ?_) (fun h1 => absurd h1 (by decide))
    refine bc_iload_n dX10_along_8 rfl ?_
    refine bc_iconst (v := 2) dX10_along_9 (by decide) ?_
    refine bc_icmp_ne (tgt := 17) dX10_along_10 (by decide) (fun h10 => absurd h10 (fun q => q rfl)) (fun h10 => ?_)
    refine bc_iconst (v := (-1)) dX10_along_13 (by decide) ?_
    refine bc_goto (tgt := 18) dX10_along_14 (by decide) ?_
    exact bc_ireturn dX10_along_18 rfl rfl (⟨rfl, rfl⟩)
  · skip
    refine bc_iload_n dX10_along_0 rfl ?_
    refine bc_if_ne (tgt := 8) dX10_along_1 (by decide) (fun h1 => ?_) (fun h1 => absurd h1 (by decide))
    refine bc_iload_n dX10_along_8 rfl ?_
    refine bc_iconst (v := 2) dX10_along_9 (by decide) ?_
    refine bc_icmp_ne (tgt := 17) dX10_along_10 (by decide) (fun h10 => ?_) (fun h10 => absurd h10 (by decide))
    refine bc_iconst (v := 0) dX10_along_17 (by decide) ?_
    exact bc_ireturn dX10_along_18 rfl rfl (⟨rfl, rfl⟩)
theorem t_isFree (x y : Int32) (hE : mEnv M m n no nq nr nm) : bc_C (d + 1) LM mX10_isFree [.ref 0, .int x, .int y] m (fun r ν => r = some (.int (if opB M x y = true then 1 else 0)) ∧ ν = m) := by
  refine bc_enter (by decide) (Nat.le_of_ble_eq_true rfl) rfl ?_
  have ho := hE.op x y
  refine bc_iload_n dX10_isFree_0 rfl ?_
  refine bc_iload_n dX10_isFree_1 rfl ?_
  refine bc_callS (z := mX10_isCell) dX10_isFree_2 lX10_365 qX10_isCell (by rfl) (by rfl) (Nat.le_of_ble_eq_true rfl) (t_isCell _ _) (fun r2 μ2 e2 => ?_)
  obtain ⟨rfl, q2⟩ := e2
  obtain rfl := q2.symm
  refine bc_if_eq (tgt := 21) dX10_isFree_5 (by decide) (fun h5 => ?_) (fun h5 => ?_)
  · refine bc_iconst (v := 0) dX10_isFree_21 (by decide) ?_
    exact bc_ireturn dX10_isFree_22 rfl rfl (⟨by rw [if_neg (fun q => ite0.mp h5 (ho.mp q).1)], rfl⟩)
  · refine bc_aload_n dX10_isFree_8 rfl ?_
    refine bc_iload_n dX10_isFree_9 rfl ?_
    refine bc_iload_n dX10_isFree_10 rfl ?_
    refine bc_callV (z := mX10_isReed) (ci := 10) dX10_isFree_11 lX10_369 qX10_isReed (by rfl) (by rfl) (by rfl) (by rfl) (Nat.le_of_ble_eq_true rfl) (t_isReed _ _ hE.2.1.2.2.1 hE.2.2.1.1) (fun r11 μ11 e11 => ?_)
    obtain ⟨rfl, q11⟩ := e11
    obtain rfl := q11.symm
    refine bc_if_ne (tgt := 21) dX10_isFree_14 (by decide) (fun h14 => ?_) (fun h14 => ?_)
    · refine bc_iconst (v := 0) dX10_isFree_21 (by decide) ?_
      exact bc_ireturn dX10_isFree_22 rfl rfl (⟨by rw [if_neg (fun q => h14 (ite0.mpr (ho.mp q).2))], rfl⟩)
    · refine bc_iconst (v := 1) dX10_isFree_17 (by decide) ?_
      refine bc_goto (tgt := 22) dX10_isFree_18 (by decide) ?_
      exact bc_ireturn dX10_isFree_22 rfl rfl (⟨by rw [if_pos (ho.mpr ⟨Decidable.not_not.mp (fun q => h5 (ite0.mpr q)), ite0.mp h14⟩)], rfl⟩)
theorem t_roomB {w : Int32} (h : ¬ (0 ≤ w ∧ w ≤ 3)) : bc_C (d + 2) LM mX10_room [.ref 0, .int w] m (fun r ν => r = some (.int 0) ∧ ν = refM m 1 1) := by
  refine bc_enter (by decide) (Nat.le_of_ble_eq_true rfl) rfl ?_
  refine bc_aload_n dX10_room_0 rfl ?_
  refine bc_iconst (v := 0) dX10_room_1 (by decide) ?_
  refine bc_put dX10_room_2 fX10_3 ftX10 fpX10_0 rfl rfl (rfl) rfl ?_
  refine bc_aload_n dX10_room_5 rfl ?_
  refine bc_iload_n dX10_room_6 rfl ?_
  refine bc_iconst (v := 0) dX10_room_7 (by decide) ?_
  refine bc_iconst (v := 3) dX10_room_8 (by decide) ?_
  refine bc_callS (z := mX10_within) dX10_room_9 lX10_384 qX10_within (by rfl) (by rfl) (Nat.le_of_ble_eq_true rfl) (t_within _ _ _) (fun r9 μ9 e9 => ?_)
  obtain ⟨rfl, q9⟩ := e9
  obtain rfl := q9.symm
  refine bc_iconst (v := 1) dX10_room_12 (by decide) ?_
  refine bc_iconst (v := 1) dX10_room_13 (by decide) ?_
  refine bc_callV (z := mX10_may) (ci := 10) dX10_room_14 lX10_236 qX10_may (by rfl) (by rfl) (by rfl) (by rfl) (Nat.le_of_ble_eq_true rfl) (t_mayN (k := 1) _ h _ (by decide) rfl (by decide)) (fun r14 μ14 e14 => ?_)
  obtain ⟨rfl, q14⟩ := e14
  obtain rfl := q14.symm
  refine bc_if_ne (tgt := 22) dX10_room_17 (by decide) (fun h17 => absurd h17 (fun q => q rfl)) (fun h17 => ?_)
  refine bc_iconst (v := 0) dX10_room_20 (by decide) ?_
  exact bc_ireturn dX10_room_21 rfl rfl (⟨rfl, rfl⟩)
theorem opB_in {x y : Int32} (h : opB M x y = true) : (0 ≤ x.toInt ∧ x.toInt ≤ 30) ∧ 0 ≤ y.toInt ∧ y.toInt ≤ 30 := by
  obtain ⟨a, b, ha, hb, e⟩ := opB_rng h
  have e1 : x = nI a := congrArg Prod.fst e
  have e2 : y = nI b := congrArg Prod.snd e
  rw [e1, e2, bn_ti (by omega), bn_ti (by omega)]
  omega
theorem far31 {x y : Nat} (hx : x ≤ 30) (hy : y ≤ 30) {j : Nat} (hj : j < 4) : ¬ opB M (nI x + nI 31 * wxM j) (nI y + nI 31 * wyM j) = true := by
  intro h
  have h1 := opB_in h
  have hc : j = 0 ∨ j = 1 ∨ j = 2 ∨ j = 3 := by omega
  rcases hc with rfl | rfl | rfl | rfl
  · have e : nI y + nI 31 * wyM 0 = nI (y + 31) := by rw [← bn_add]; rfl
    have h2 := h1.2; rw [e, bn_ti (by omega)] at h2; omega
  · have e : nI x + nI 31 * wxM 1 = nI (x + 31) := by rw [← bn_add]; rfl
    have h2 := h1.1; rw [e, bn_ti (by omega)] at h2; omega
  · have e : nI y + nI 31 * wyM 2 = nI y + (-31) := rfl
    have h2 := h1.2; rw [e, Int32.toInt_add, bn_ti (by omega), show (-31 : Int32).toInt = -31 from rfl, Int.bmod_eq_of_le (by omega) (by omega)] at h2; omega
  · have e : nI x + nI 31 * wxM 3 = nI x + (-31) := rfl
    have h2 := h1.1; rw [e, Int32.toInt_add, bn_ti (by omega), show (-31 : Int32).toInt = -31 from rfl, Int.bmod_eq_of_le (by omega) (by omega)] at h2; omega
theorem t_room {j : Nat} (hE : mEnv M m n no nq nr nm) (hN : sR (row 31 M) (m 19)) (hA : okA no (row 31 M)) (hj : j ≤ 3) : bc_C (d + 2) LM mX10_room [.ref 0, .int (nI j)] m (fun r ν => r = some (.int (rmM (fun i => opB M (M 31 2 + nI i * wxM j) (M 31 3 + nI i * wyM j)) 30 0)) ∧ qS m ν) := by
  refine bc_enter (by decide) (Nat.le_of_ble_eq_true rfl) rfl ?_
  obtain ⟨a, b, ha, hb, eab⟩ := hA.2.2.2
  have e1 : M 31 2 = nI a := congrArg Prod.fst eab
  have e2 : M 31 3 = nI b := congrArg Prod.snd eab
  have n1 : m 19 28 = M 31 2 := hN.2.2.2.2.1
  have n2 : m 19 29 = M 31 3 := hN.2.2.2.2.2.1
  obtain ⟨B, hB⟩ : ∃ B : Nat → Bool, B = fun i => opB M (M 31 2 + nI i * wxM j) (M 31 3 + nI i * wyM j) := ⟨_, rfl⟩
  have h31 : ¬ B 31 = true := by rw [hB]; show ¬ opB M _ _ = true; rw [e1, e2]; exact far31 ha hb (by omega)
  rw [← hB]
  have loop : ∀ (c k : Nat), k + c = 30 → bc_W (d + 2) LM mX10_room 24 [.ref 0, .int (nI j), .int (nI k)] [] (bc_u m 0 0 0) (fun r ν => r = some (.int (rmM B c k)) ∧ qS m ν) := by
    intro c
    induction c with
    | zero =>
      intro k hk
      have hk : k = 30 := by omega
      subst hk
      refine bc_aload_n dX10_room_24 rfl ?_
      refine bc_aload_n dX10_room_25 rfl ?_
      refine bc_getr dX10_room_26 fX10_71 (rfl) rfl ?_
      refine bc_bipush (v := 28) dX10_room_29 (by decide) ?_
      refine bc_ialdE (k := 28) dX10_room_31 (rfl) (rfl) (⟨by omega, by decide⟩) ?_
      refine bc_iload_n dX10_room_32 rfl ?_
      refine bc_callS (z := mX10_across) dX10_room_33 lX10_407 qX10_across (by rfl) (by rfl) (Nat.le_of_ble_eq_true rfl) (t_across (j := j) (by omega)) (fun r33 μ33 e33 => ?_)
      obtain ⟨rfl, q33⟩ := e33
      obtain rfl := q33.symm
      refine bc_iload_n dX10_room_36 rfl ?_
      refine bc_iconst (v := 1) dX10_room_37 (by decide) ?_
      refine bc_iadd dX10_room_38 ?_
      refine bc_imul dX10_room_39 ?_
      refine bc_iadd dX10_room_40 ?_
      refine bc_aload_n dX10_room_41 rfl ?_
      refine bc_getr dX10_room_42 fX10_71 (rfl) rfl ?_
      refine bc_bipush (v := 29) dX10_room_45 (by decide) ?_
      refine bc_ialdE (k := 29) dX10_room_47 (rfl) (rfl) (⟨by omega, by decide⟩) ?_
      refine bc_iload_n dX10_room_48 rfl ?_
      refine bc_callS (z := mX10_along) dX10_room_49 lX10_410 qX10_along (by rfl) (by rfl) (Nat.le_of_ble_eq_true rfl) (t_along (j := j) (by omega)) (fun r49 μ49 e49 => ?_)
      obtain ⟨rfl, q49⟩ := e49
      obtain rfl := q49.symm
      refine bc_iload_n dX10_room_52 rfl ?_
      refine bc_iconst (v := 1) dX10_room_53 (by decide) ?_
      refine bc_iadd dX10_room_54 ?_
      refine bc_imul dX10_room_55 ?_
      refine bc_iadd dX10_room_56 ?_
      rw [show bc_u m 0 0 0 19 28 = M 31 2 from n1, show bc_u m 0 0 0 19 29 = M 31 3 from n2, bn_add1, Int32.mul_comm (wxM j), Int32.mul_comm (wyM j)]
      refine bc_callV (z := mX10_isFree) (ci := 10) dX10_room_57 lX10_413 qX10_isFree (by rfl) (by rfl) (by rfl) (by rfl) (Nat.le_of_ble_eq_true rfl) (t_isFree _ _ hE.t0) (fun r57 μ57 e57 => ?_)
      obtain ⟨rfl, q57⟩ := e57
      obtain rfl := q57.symm
      refine bc_if_eq (tgt := 69) dX10_room_60 (by decide) (fun h60 => ?_) (fun h60 => absurd h60 (fun q => q (ite0.mpr (by rw [hB] at h31; exact h31))))
      refine bc_iload_n dX10_room_69 rfl ?_
      exact bc_ireturn dX10_room_70 rfl rfl (⟨rfl, qS_0⟩)
    | succ c ih =>
      intro k hk
      refine bc_aload_n dX10_room_24 rfl ?_
      refine bc_aload_n dX10_room_25 rfl ?_
      refine bc_getr dX10_room_26 fX10_71 (rfl) rfl ?_
      refine bc_bipush (v := 28) dX10_room_29 (by decide) ?_
      refine bc_ialdE (k := 28) dX10_room_31 (rfl) (rfl) (⟨by omega, by decide⟩) ?_
      refine bc_iload_n dX10_room_32 rfl ?_
      refine bc_callS (z := mX10_across) dX10_room_33 lX10_407 qX10_across (by rfl) (by rfl) (Nat.le_of_ble_eq_true rfl) (t_across (j := j) (by omega)) (fun r33 μ33 e33 => ?_)
      obtain ⟨rfl, q33⟩ := e33
      obtain rfl := q33.symm
      refine bc_iload_n dX10_room_36 rfl ?_
      refine bc_iconst (v := 1) dX10_room_37 (by decide) ?_
      refine bc_iadd dX10_room_38 ?_
      refine bc_imul dX10_room_39 ?_
      refine bc_iadd dX10_room_40 ?_
      refine bc_aload_n dX10_room_41 rfl ?_
      refine bc_getr dX10_room_42 fX10_71 (rfl) rfl ?_
      refine bc_bipush (v := 29) dX10_room_45 (by decide) ?_
      refine bc_ialdE (k := 29) dX10_room_47 (rfl) (rfl) (⟨by omega, by decide⟩) ?_
      refine bc_iload_n dX10_room_48 rfl ?_
      refine bc_callS (z := mX10_along) dX10_room_49 lX10_410 qX10_along (by rfl) (by rfl) (Nat.le_of_ble_eq_true rfl) (t_along (j := j) (by omega)) (fun r49 μ49 e49 => ?_)
      obtain ⟨rfl, q49⟩ := e49
      obtain rfl := q49.symm
      refine bc_iload_n dX10_room_52 rfl ?_
      refine bc_iconst (v := 1) dX10_room_53 (by decide) ?_
      refine bc_iadd dX10_room_54 ?_
      refine bc_imul dX10_room_55 ?_
      refine bc_iadd dX10_room_56 ?_
      rw [show bc_u m 0 0 0 19 28 = M 31 2 from n1, show bc_u m 0 0 0 19 29 = M 31 3 from n2, bn_add1, Int32.mul_comm (wxM j), Int32.mul_comm (wyM j)]
      refine bc_callV (z := mX10_isFree) (ci := 10) dX10_room_57 lX10_413 qX10_isFree (by rfl) (by rfl) (by rfl) (by rfl) (Nat.le_of_ble_eq_true rfl) (t_isFree _ _ hE.t0) (fun r57 μ57 e57 => ?_)
      obtain ⟨rfl, q57⟩ := e57
      obtain rfl := q57.symm
      refine bc_if_eq (tgt := 69) dX10_room_60 (by decide) (fun h60 => ?_) (fun h60 => ?_)
      · refine bc_iload_n dX10_room_69 rfl ?_
        exact bc_ireturn dX10_room_70 rfl rfl (⟨by rw [rmM, if_neg (by rw [hB]; exact ite0.mp h60)], qS_0⟩)
      · refine bc_iinc1 dX10_room_63 rfl (by decide) rfl ?_
        refine bc_goto (tgt := 24) dX10_room_66 (by decide) ?_
        rw [bn_add1, rmM, if_pos (by rw [hB]; exact Decidable.not_not.mp (fun q => h60 (ite0.mpr q)))]
        exact ih (k + 1) (by omega)
  refine bc_aload_n dX10_room_0 rfl ?_
  refine bc_iconst (v := 0) dX10_room_1 (by decide) ?_
  refine bc_put dX10_room_2 fX10_3 ftX10 fpX10_0 rfl rfl (rfl) rfl ?_
  refine bc_aload_n dX10_room_5 rfl ?_
  refine bc_iload_n dX10_room_6 rfl ?_
  refine bc_iconst (v := 0) dX10_room_7 (by decide) ?_
  refine bc_iconst (v := 3) dX10_room_8 (by decide) ?_
  refine bc_callS (z := mX10_within) dX10_room_9 lX10_384 qX10_within (by rfl) (by rfl) (Nat.le_of_ble_eq_true rfl) (t_within _ _ _) (fun r9 μ9 e9 => ?_)
  obtain ⟨rfl, q9⟩ := e9
  obtain rfl := q9.symm
  refine bc_iconst (v := 1) dX10_room_12 (by decide) ?_
  refine bc_iconst (v := 1) dX10_room_13 (by decide) ?_
  refine bc_callV (z := mX10_may) (ci := 10) dX10_room_14 lX10_236 qX10_may (by rfl) (by rfl) (by rfl) (by rfl) (Nat.le_of_ble_eq_true rfl) (t_mayY (k := 1) _ (wN (b := 3) (by omega) (by omega)) _ (by decide) rfl (by decide)) (fun r14 μ14 e14 => ?_)
  obtain ⟨rfl, q14⟩ := e14
  obtain rfl := q14.symm
  refine bc_if_ne (tgt := 22) dX10_room_17 (by decide) (fun h17 => ?_) (fun h17 => absurd h17 (by decide))
  refine bc_iconst (v := 0) dX10_room_22 (by decide) ?_
  refine bc_istore_n dX10_room_23 (by decide) rfl ?_
  exact loop 30 0 (by omega)
theorem t_coolB {w : Int32} (h : ¬ (0 ≤ w ∧ w ≤ 1)) : bc_C (d + 2) LM mX10_cool [.ref 0, .int w] m (fun r ν => r = some (.int 0) ∧ ν = refM m 1 1) := by
  refine bc_enter (by decide) (Nat.le_of_ble_eq_true rfl) rfl ?_
  refine bc_aload_n dX10_cool_0 rfl ?_
  refine bc_iconst (v := 0) dX10_cool_1 (by decide) ?_
  refine bc_put dX10_cool_2 fX10_3 ftX10 fpX10_0 rfl rfl (rfl) rfl ?_
  refine bc_aload_n dX10_cool_5 rfl ?_
  refine bc_iload_n dX10_cool_6 rfl ?_
  refine bc_iconst (v := 0) dX10_cool_7 (by decide) ?_
  refine bc_iconst (v := 1) dX10_cool_8 (by decide) ?_
  refine bc_callS (z := mX10_within) dX10_cool_9 lX10_384 qX10_within (by rfl) (by rfl) (Nat.le_of_ble_eq_true rfl) (t_within _ _ _) (fun r9 μ9 e9 => ?_)
  obtain ⟨rfl, q9⟩ := e9
  obtain rfl := q9.symm
  refine bc_iconst (v := 1) dX10_cool_12 (by decide) ?_
  refine bc_iconst (v := 1) dX10_cool_13 (by decide) ?_
  refine bc_callV (z := mX10_may) (ci := 10) dX10_cool_14 lX10_236 qX10_may (by rfl) (by rfl) (by rfl) (by rfl) (Nat.le_of_ble_eq_true rfl) (t_mayN (k := 1) _ h _ (by decide) rfl (by decide)) (fun r14 μ14 e14 => ?_)
  obtain ⟨rfl, q14⟩ := e14
  obtain rfl := q14.symm
  refine bc_if_ne (tgt := 22) dX10_cool_17 (by decide) (fun h17 => absurd h17 (fun q => q rfl)) (fun h17 => ?_)
  refine bc_iconst (v := 0) dX10_cool_20 (by decide) ?_
  exact bc_ireturn dX10_cool_21 rfl rfl (⟨rfl, rfl⟩)
/-- bits of ovens that are cool -/
def cbM (hl : Nat → Int32) : Nat → Int32
  | 0 => 0
  | k + 1 => if 0 < hl k then cbM hl k else cbM hl k ||| 1 <<< (nI k &&& 31)
theorem cb_bt (hl : Nat → Int32) : ∀ k, k ≤ 32 → ∀ i, i < 32 → bt (cbM hl k) i = (decide (i < k) && !decide (0 < hl i)) := by
  intro k
  induction k with
  | zero => intro _ i hi; exact b_0 i
  | succ k ih =>
    intro hk i hi
    rw [cbM]
    by_cases h : 0 < hl k
    · rw [if_pos h, ih (by omega) i hi]
      by_cases e : i = k
      · subst e; simp [h]
      · rw [decide_eq_decide.mpr (show i < k ↔ i < k + 1 by omega)]
    · rw [if_neg h, b_or, ih (by omega) i hi, b_sh1 (by omega) hi]
      by_cases e : i = k
      · subst e; simp [h]
      · rw [decide_eq_false e, Bool.or_false, decide_eq_decide.mpr (show i < k ↔ i < k + 1 by omega)]
theorem all_bt : ∀ b, b ≤ 8 → ∀ i, i < 32 → bt ((1 : Int32) <<< (nI b &&& 31) - 1) i = decide (i < b) := by decide +kernel
theorem cb_coolv (h8 : no ≤ 8) : cbM (M 32) no = coolv M no := by
  refine b_ext (fun i hi => ?_)
  rw [cb_bt _ no (by omega) i hi, coolv, b_and, all_bt no h8 i hi, b_xor, b_m1 i hi, lbM_bt _ _ no (by omega) i hi]
  by_cases h : i < no
  · rw [decide_eq_true h]; simp
  · rw [decide_eq_false h]; simp
theorem coolv_is (h8 : no ≤ 8) {o : Nat} (ho : o < no) : (coolv M no >>> (nI o &&& 31) &&& 1 = 1) ↔ ¬ 0 < M 32 o := by
  rw [b_is _ (by omega), ← cb_coolv h8, cb_bt _ no (by omega) o (by omega), decide_eq_true ho]
  simp
theorem cl_at {c : Int32} {sg : Nat → Int32} : ∀ k, (∀ o, o < k → 1 ≤ (sg o).toInt) → (clM c sg k = (-1, 0)) ∨ ∃ j, j < k ∧ clM c sg k = (nI j, sg j) := by
  intro k
  induction k with
  | zero => intro _; exact .inl rfl
  | succ k ih =>
    intro h
    rw [clM]
    by_cases hc : c >>> (nI k &&& 31) &&& 1 = 1 ∧ (clM c sg k).2 < sg k
    · rw [if_pos hc]; exact .inr ⟨k, by omega, rfl⟩
    · rw [if_neg hc]
      rcases ih (fun o ho => h o (by omega)) with e | ⟨j, hj, e⟩
      · exact .inl e
      · exact .inr ⟨j, by omega, e⟩
theorem t_cool {w : Nat} (hE : mEnv M m n no nq nr nm) (hB : nosB M no nq) (hN : sR (row 31 M) (m 19)) (hw : w ≤ 1) : bc_C (d + 2) LM mX10_cool [.ref 0, .int (nI w)] m (fun r ν => r = some (.int (if w = 0 then coolv M no else (clM (coolv M no) (M 7) no).1)) ∧ qS m ν) := by
  refine bc_enter (by decide) (Nat.le_of_ble_eq_true rfl) rfl ?_
  have h8 := hE.o8
  have hno : bc_u m 0 0 0 0 26 = nI no := hE.2.1.2.1
  have w0 : nI w = 0 ↔ w = 0 := bn_eqN (b := 0) (by omega) (by omega)
  have loop : ∀ (c k : Nat), k + c = no → bc_W (d + 2) LM mX10_cool 29 [.ref 0, .int (nI w), .int (cbM (M 32) k), .int (clM (coolv M no) (M 7) k).1, .int (nI k)] [] (bc_u m 0 0 0) (fun r ν => r = some (.int (if w = 0 then coolv M no else (clM (coolv M no) (M 7) no).1)) ∧ qS m ν) := by
    intro c
    induction c with
    | zero =>
      intro k hk
      have hk : k = no := by omega
      subst hk
      rw [cb_coolv h8]
      refine bc_iload dX10_cool_29 rfl ?_
      refine bc_aload_n dX10_cool_31 rfl ?_
      refine bc_geti dX10_cool_32 fX10_185 (rfl) rfl ?_
      refine bc_icmp_ge (tgt := 102) dX10_cool_35 (by decide) (fun h35 => ?_) (fun h35 => absurd h35 (fun q => q (bx_out hno (Nat.le_refl _) (by omega))))
      refine bc_iload_n dX10_cool_102 rfl ?_
      refine bc_if_ne (tgt := 110) dX10_cool_103 (by decide) (fun h103 => ?_) (fun h103 => ?_)
      · refine bc_iload_n dX10_cool_110 rfl ?_
        exact bc_ireturn dX10_cool_111 rfl rfl (⟨by rw [if_neg (fun q => h103 (w0.mpr q))], qS_0⟩)
      · refine bc_iload_n dX10_cool_106 rfl ?_
        refine bc_goto (tgt := 111) dX10_cool_107 (by decide) ?_
        exact bc_ireturn dX10_cool_111 rfl rfl (⟨by rw [if_pos (w0.mp h103)], qS_0⟩)
    | succ c ih =>
      intro k hk
      have h3 := ih (k + 1) (by omega)
      have en : m 19 k = M 32 k := (hN.1 k (by omega)).trans (row_hl (by omega))
      have eb := coolv_is (M := M) h8 (o := k) (by omega)
      have e7 : m 8 (2 * k + 1) = M 7 k := (hE.2.2.2.2.1 k (by omega)).2
      have yes : ∀ v : Int32, ¬ 0 < M 32 k → v = (clM (coolv M no) (M 7) (k + 1)).1 → bc_W (d + 2) LM mX10_cool 95 [.ref 0, .int (nI w), .int (cbM (M 32) k ||| 1 <<< (nI k &&& 31)), .int (clM (coolv M no) (M 7) k).1, .int (nI k)] [.int v] (bc_u m 0 0 0) (fun r ν => r = some (.int (if w = 0 then coolv M no else (clM (coolv M no) (M 7) no).1)) ∧ qS m ν) := by
        intro v hv he
        subst he
        rw [show cbM (M 32) (k + 1) = cbM (M 32) k ||| 1 <<< (nI k &&& 31) by rw [cbM, if_neg hv]] at h3
        refine bc_istore_n dX10_cool_95 (by decide) rfl ?_
        refine bc_iinc1 dX10_cool_96 rfl (by decide) rfl ?_
        refine bc_goto (tgt := 29) dX10_cool_99 (by decide) ?_
        rw [bn_add1]
        exact h3
      rcases cl_at (c := coolv M no) (sg := M 7) k (fun o ho => (hB.2 o (by omega)).1) with e | ⟨j, hj, e⟩
      · have hy : ¬ 0 < M 32 k → (clM (coolv M no) (M 7) (k + 1)).1 = nI k := by
          intro hv
          rw [clM, if_pos ⟨eb.mpr hv, by rw [e]; show (0 : Int32) < _; rw [bn_lt, bn_0]; have := (hB.2 k (by omega)).1; omega⟩]
        rw [e] at yes ⊢
        refine bc_iload dX10_cool_29 rfl ?_
        refine bc_aload_n dX10_cool_31 rfl ?_
        refine bc_geti dX10_cool_32 fX10_185 (rfl) rfl ?_
        refine bc_icmp_ge (tgt := 102) dX10_cool_35 (by decide) (fun h35 => absurd h35 (bx_in hno (by omega) (by omega))) (fun h35 => ?_)
        refine bc_aload_n dX10_cool_38 rfl ?_
        refine bc_getr dX10_cool_39 fX10_71 (rfl) rfl ?_
        refine bc_iconst (v := 0) dX10_cool_42 (by decide) ?_
        refine bc_iload dX10_cool_43 rfl ?_
        refine bc_iadd dX10_cool_45 ?_
        refine bc_ialdE (k := k) dX10_cool_46 (rfl) (ix0 (rfl)) (⟨by omega, by decide⟩) ?_
        refine bc_if_le (tgt := 53) dX10_cool_47 (by decide) (fun h47 => ?_) (fun h47 => ?_)
        · refine bc_iload_n dX10_cool_53 rfl ?_
          refine bc_iconst (v := 1) dX10_cool_54 (by decide) ?_
          refine bc_iload dX10_cool_55 rfl ?_
          refine bc_ishl dX10_cool_57 ?_
          refine bc_ior dX10_cool_58 ?_
          refine bc_istore_n dX10_cool_59 (by decide) rfl ?_
          refine bc_iload_n dX10_cool_60 rfl ?_
          refine bc_iconst (v := (-1)) dX10_cool_61 (by decide) ?_
          refine bc_icmp_eq (tgt := 89) dX10_cool_62 (by decide) (fun h62 => ?_) (fun h62 => absurd h62 (fun q => q rfl))
          refine bc_iload dX10_cool_89 rfl ?_
          refine bc_goto (tgt := 95) dX10_cool_91 (by decide) ?_
          have hv : ¬ 0 < M 32 k := by rw [← en]; exact Int32.not_lt.mpr h47
          exact yes _ hv (hy hv).symm
        · refine bc_goto (tgt := 96) dX10_cool_50 (by decide) ?_
          refine bc_iinc1 dX10_cool_96 rfl (by decide) rfl ?_
          refine bc_goto (tgt := 29) dX10_cool_99 (by decide) ?_
          have hv : 0 < M 32 k := by rw [← en]; exact Int32.not_le.mp h47
          rw [show cbM (M 32) (k + 1) = cbM (M 32) k by rw [cbM, if_pos hv], show clM (coolv M no) (M 7) (k + 1) = clM (coolv M no) (M 7) k by rw [clM, if_neg (fun q => eb.mp q.1 hv)], e] at h3
          rw [bn_add1]
          exact h3
      · have e7j : m 8 (2 * j + 1) = M 7 j := (hE.2.2.2.2.1 j (by omega)).2
        rw [e] at yes ⊢
        refine bc_iload dX10_cool_29 rfl ?_
        refine bc_aload_n dX10_cool_31 rfl ?_
        refine bc_geti dX10_cool_32 fX10_185 (rfl) rfl ?_
        refine bc_icmp_ge (tgt := 102) dX10_cool_35 (by decide) (fun h35 => absurd h35 (bx_in hno (by omega) (by omega))) (fun h35 => ?_)
        refine bc_aload_n dX10_cool_38 rfl ?_
        refine bc_getr dX10_cool_39 fX10_71 (rfl) rfl ?_
        refine bc_iconst (v := 0) dX10_cool_42 (by decide) ?_
        refine bc_iload dX10_cool_43 rfl ?_
        refine bc_iadd dX10_cool_45 ?_
        refine bc_ialdE (k := k) dX10_cool_46 (rfl) (ix0 (rfl)) (⟨by omega, by decide⟩) ?_
        refine bc_if_le (tgt := 53) dX10_cool_47 (by decide) (fun h47 => ?_) (fun h47 => ?_)
        · refine bc_iload_n dX10_cool_53 rfl ?_
          refine bc_iconst (v := 1) dX10_cool_54 (by decide) ?_
          refine bc_iload dX10_cool_55 rfl ?_
          refine bc_ishl dX10_cool_57 ?_
          refine bc_ior dX10_cool_58 ?_
          refine bc_istore_n dX10_cool_59 (by decide) rfl ?_
          refine bc_iload_n dX10_cool_60 rfl ?_
          refine bc_iconst (v := (-1)) dX10_cool_61 (by decide) ?_
          refine bc_icmp_eq (tgt := 89) dX10_cool_62 (by decide) (fun h62 => absurd h62 (nI_m1 (by omega))) (fun h62 => ?_)
          refine bc_aload_n dX10_cool_65 rfl ?_
          refine bc_getr dX10_cool_66 fX10_38 (rfl) rfl ?_
          refine bc_iconst (v := 2) dX10_cool_69 (by decide) ?_
          refine bc_iload dX10_cool_70 rfl ?_
          refine bc_imul dX10_cool_72 ?_
          refine bc_iconst (v := 1) dX10_cool_73 (by decide) ?_
          refine bc_iadd dX10_cool_74 ?_
          refine bc_ialdE (k := (2 * k) + 1) dX10_cool_75 (rfl) (ixA (a := 2 * k) (b := 1) (ixM (a := 2) (b := k) (rfl) (rfl)) (rfl)) (⟨by omega, by decide⟩) ?_
          refine bc_aload_n dX10_cool_76 rfl ?_
          refine bc_getr dX10_cool_77 fX10_38 (rfl) rfl ?_
          refine bc_iconst (v := 2) dX10_cool_80 (by decide) ?_
          refine bc_iload_n dX10_cool_81 rfl ?_
          refine bc_imul dX10_cool_82 ?_
          refine bc_iconst (v := 1) dX10_cool_83 (by decide) ?_
          refine bc_iadd dX10_cool_84 ?_
          refine bc_ialdE (k := (2 * j) + 1) dX10_cool_85 (rfl) (ixA (a := 2 * j) (b := 1) (ixM (a := 2) (b := j) (rfl) (rfl)) (rfl)) (⟨by omega, by decide⟩) ?_
          rw [show bc_u m 0 0 0 8 (2 * k + 1) = M 7 k from e7, show bc_u m 0 0 0 8 (2 * j + 1) = M 7 j from e7j]
          refine bc_icmp_le (tgt := 94) dX10_cool_86 (by decide) (fun h86 => ?_) (fun h86 => ?_)
          · refine bc_iload_n dX10_cool_94 rfl ?_
            have hv : ¬ 0 < M 32 k := by rw [← en]; exact Int32.not_lt.mpr h47
            exact yes _ hv (by rw [clM, if_neg (fun q => by have q2 := q.2; rw [e] at q2; exact Int32.not_lt.mpr h86 q2), e])
          · refine bc_iload dX10_cool_89 rfl ?_
            refine bc_goto (tgt := 95) dX10_cool_91 (by decide) ?_
            have hv : ¬ 0 < M 32 k := by rw [← en]; exact Int32.not_lt.mpr h47
            exact yes _ hv (by rw [clM, if_pos ⟨eb.mpr hv, by rw [e]; exact Int32.not_le.mp h86⟩])
        · refine bc_goto (tgt := 96) dX10_cool_50 (by decide) ?_
          refine bc_iinc1 dX10_cool_96 rfl (by decide) rfl ?_
          refine bc_goto (tgt := 29) dX10_cool_99 (by decide) ?_
          have hv : 0 < M 32 k := by rw [← en]; exact Int32.not_le.mp h47
          rw [show cbM (M 32) (k + 1) = cbM (M 32) k by rw [cbM, if_pos hv], show clM (coolv M no) (M 7) (k + 1) = clM (coolv M no) (M 7) k by rw [clM, if_neg (fun q => eb.mp q.1 hv)], e] at h3
          rw [bn_add1]
          exact h3
  refine bc_aload_n dX10_cool_0 rfl ?_
  refine bc_iconst (v := 0) dX10_cool_1 (by decide) ?_
  refine bc_put dX10_cool_2 fX10_3 ftX10 fpX10_0 rfl rfl (rfl) rfl ?_
  refine bc_aload_n dX10_cool_5 rfl ?_
  refine bc_iload_n dX10_cool_6 rfl ?_
  refine bc_iconst (v := 0) dX10_cool_7 (by decide) ?_
  refine bc_iconst (v := 1) dX10_cool_8 (by decide) ?_
  refine bc_callS (z := mX10_within) dX10_cool_9 lX10_384 qX10_within (by rfl) (by rfl) (Nat.le_of_ble_eq_true rfl) (t_within _ _ _) (fun r9 μ9 e9 => ?_)
  obtain ⟨rfl, q9⟩ := e9
  obtain rfl := q9.symm
  refine bc_iconst (v := 1) dX10_cool_12 (by decide) ?_
  refine bc_iconst (v := 1) dX10_cool_13 (by decide) ?_
  refine bc_callV (z := mX10_may) (ci := 10) dX10_cool_14 lX10_236 qX10_may (by rfl) (by rfl) (by rfl) (by rfl) (Nat.le_of_ble_eq_true rfl) (t_mayY (k := 1) _ (wN (b := 1) (by omega) (by omega)) _ (by decide) rfl (by decide)) (fun r14 μ14 e14 => ?_)
  obtain ⟨rfl, q14⟩ := e14
  obtain rfl := q14.symm
  refine bc_if_ne (tgt := 22) dX10_cool_17 (by decide) (fun h17 => ?_) (fun h17 => absurd h17 (by decide))
  refine bc_iconst (v := 0) dX10_cool_22 (by decide) ?_
  refine bc_istore_n dX10_cool_23 (by decide) rfl ?_
  refine bc_iconst (v := (-1)) dX10_cool_24 (by decide) ?_
  refine bc_istore_n dX10_cool_25 (by decide) rfl ?_
  refine bc_iconst (v := 0) dX10_cool_26 (by decide) ?_
  refine bc_istore dX10_cool_27 (by decide) rfl ?_
  exact loop no 0 (by omega)
def alB (B : Nat → Bool) : Nat → Bool
  | 0 => true
  | k + 1 => alB B k && B k
theorem sf_al {k : Nat} : alB (fun j => opB M (M 8 k + wxM j) (M 9 k + wyM j)) 4 = sfB M k := by
  show ((((true && opB M (M 8 k + 0) (M 9 k + 1)) && opB M (M 8 k + 1) (M 9 k + 0)) && opB M (M 8 k + 0) (M 9 k + -1)) && opB M (M 8 k + -1) (M 9 k + 0)) = _
  rw [Int32.add_zero, Int32.add_zero, ← Int32.sub_eq_add_neg, ← Int32.sub_eq_add_neg, sfB]
  cases opB M (M 8 k) (M 9 k + 1) <;> cases opB M (M 8 k + 1) (M 9 k) <;> cases opB M (M 8 k) (M 9 k - 1) <;> cases opB M (M 8 k - 1) (M 9 k) <;> rfl
theorem t_safe (hE : mEnv M m n no nq nr nm) : bc_C (d + 2) LM mX10_safe [.ref 0] m (fun r ν => r = some (.int (sfM (sfB M) nm)) ∧ qS m ν) := by
  refine bc_enter (by decide) (Nat.le_of_ble_eq_true rfl) rfl ?_
  have h6 := hE.2.2.1.2
  have hnm : bc_u m 0 0 0 0 28 = nI nm := hE.2.1.2.2.2
  have loop : ∀ (c k : Nat) (v3 v4 : Value), v3.category = 1 → v4.category = 1 → k + c = nm → bc_W (d + 2) LM mX10_safe 9 [.ref 0, .int (sfM (sfB M) k), .int (nI k), v3, v4] [] (bc_u m 0 0 0) (fun r ν => r = some (.int (sfM (sfB M) nm)) ∧ qS m ν) := by
    intro c
    induction c with
    | zero =>
      intro k v3 v4 c3 c4 hk
      have hk : k = nm := by omega
      subst hk
      refine bc_iload_n dX10_safe_9 rfl ?_
      refine bc_aload_n dX10_safe_10 rfl ?_
      refine bc_geti dX10_safe_11 fX10_191 (rfl) rfl ?_
      refine bc_icmp_ge (tgt := 101) dX10_safe_14 (by decide) (fun h14 => ?_) (fun h14 => absurd h14 (fun q => q (bx_out hnm (Nat.le_refl _) (by omega))))
      refine bc_iload_n dX10_safe_101 rfl ?_
      exact bc_ireturn dX10_safe_102 rfl rfl (⟨rfl, qS_0⟩)
    | succ c ih =>
      intro k v3 v4 c3 c4 hk
      obtain ⟨B, hB⟩ : ∃ B : Nat → Bool, B = fun j => opB M (M 8 k + wxM j) (M 9 k + wyM j) := ⟨_, rfl⟩
      have e := hE.2.2.2.2.2.2.1 k (by omega)
      have inner : ∀ (r j : Nat), j + r = 4 → bc_W (d + 2) LM mX10_safe 22 [.ref 0, .int (sfM (sfB M) k), .int (nI k), .int (if alB B j = true then 1 else 0), .int (nI j)] [] (bc_u m 0 0 0) (fun r ν => r = some (.int (sfM (sfB M) nm)) ∧ qS m ν) := by
        intro r
        induction r with
        | zero =>
          intro j hj
          have hj : j = 4 := by omega
          subst hj
          have h3 := ih (k + 1) (.int (if alB B 4 = true then 1 else 0)) (.int (nI 4)) rfl rfl (by omega)
          have e4 : alB B 4 = sfB M k := by rw [hB]; exact sf_al
          rw [e4] at h3 ⊢
          refine bc_iload dX10_safe_22 rfl ?_
          refine bc_iconst (v := 4) dX10_safe_24 (by decide) ?_
          refine bc_icmp_ge (tgt := 81) dX10_safe_25 (by decide) (fun h25 => ?_) (fun h25 => absurd h25 (by decide))
          refine bc_iload_n dX10_safe_81 rfl ?_
          refine bc_iload_n dX10_safe_82 rfl ?_
          refine bc_if_eq (tgt := 92) dX10_safe_83 (by decide) (fun h83 => ?_) (fun h83 => ?_)
          · refine bc_iconst (v := 0) dX10_safe_92 (by decide) ?_
            refine bc_ior dX10_safe_93 ?_
            refine bc_istore_n dX10_safe_94 (by decide) rfl ?_
            refine bc_iinc1 dX10_safe_95 rfl (by decide) rfl ?_
            refine bc_goto (tgt := 9) dX10_safe_98 (by decide) ?_
            rw [show sfM (sfB M) (k + 1) = sfM (sfB M) k by rw [sfM, if_neg (ite0.mp h83)]] at h3
            rw [bn_add1, Int32.or_zero]
            exact h3
          · refine bc_iconst (v := 1) dX10_safe_86 (by decide) ?_
            refine bc_iload_n dX10_safe_87 rfl ?_
            refine bc_ishl dX10_safe_88 ?_
            refine bc_goto (tgt := 93) dX10_safe_89 (by decide) ?_
            refine bc_ior dX10_safe_93 ?_
            refine bc_istore_n dX10_safe_94 (by decide) rfl ?_
            refine bc_iinc1 dX10_safe_95 rfl (by decide) rfl ?_
            refine bc_goto (tgt := 9) dX10_safe_98 (by decide) ?_
            rw [show sfM (sfB M) (k + 1) = sfM (sfB M) k ||| 1 <<< (nI k &&& 31) by rw [sfM, if_pos (Decidable.not_not.mp (fun q => h83 (ite0.mpr q)))]] at h3
            rw [bn_add1]
            exact h3
        | succ r ir =>
          intro j hj
          have h3 := ir (j + 1) (by omega)
          have no' : alB B (j + 1) = false → bc_W (d + 2) LM mX10_safe 73 [.ref 0, .int (sfM (sfB M) k), .int (nI k), .int (if alB B j = true then 1 else 0), .int (nI j)] [] (bc_u m 0 0 0) (fun r ν => r = some (.int (sfM (sfB M) nm)) ∧ qS m ν) := by
            intro hb
            rw [hb] at h3
            refine bc_iconst (v := 0) dX10_safe_73 (by decide) ?_
            refine bc_istore_n dX10_safe_74 (by decide) rfl ?_
            refine bc_iinc1 dX10_safe_75 rfl (by decide) rfl ?_
            refine bc_goto (tgt := 22) dX10_safe_78 (by decide) ?_
            rw [bn_add1]
            exact h3
          refine bc_iload dX10_safe_22 rfl ?_
          refine bc_iconst (v := 4) dX10_safe_24 (by decide) ?_
          refine bc_icmp_ge (tgt := 81) dX10_safe_25 (by decide) (fun h25 => absurd h25 (by rw [show (4 : Int32) = nI 4 from rfl, bn_leN (by omega) (by omega)]; omega)) (fun h25 => ?_)
          refine bc_iload_n dX10_safe_28 rfl ?_
          refine bc_if_eq (tgt := 73) dX10_safe_29 (by decide) (fun h29 => ?_) (fun h29 => ?_)
          · exact no' (by rw [alB, show alB B j = false by simpa using ite0.mp h29]; rfl)
          · refine bc_aload_n dX10_safe_32 rfl ?_
            refine bc_aload_n dX10_safe_33 rfl ?_
            refine bc_getr dX10_safe_34 fX10_44 (rfl) rfl ?_
            refine bc_iconst (v := 2) dX10_safe_37 (by decide) ?_
            refine bc_iload_n dX10_safe_38 rfl ?_
            refine bc_imul dX10_safe_39 ?_
            refine bc_ialdE (k := 2 * k) dX10_safe_40 (rfl) (ixM (a := 2) (b := k) (rfl) (rfl)) (⟨by omega, by decide⟩) ?_
            refine bc_iload dX10_safe_41 rfl ?_
            refine bc_callS (z := mX10_across) dX10_safe_43 lX10_407 qX10_across (by rfl) (by rfl) (Nat.le_of_ble_eq_true rfl) (t_across (j := j) (by omega)) (fun r43 μ43 e43 => ?_)
            obtain ⟨rfl, q43⟩ := e43
            obtain rfl := q43.symm
            refine bc_iadd dX10_safe_46 ?_
            refine bc_aload_n dX10_safe_47 rfl ?_
            refine bc_getr dX10_safe_48 fX10_44 (rfl) rfl ?_
            refine bc_iconst (v := 2) dX10_safe_51 (by decide) ?_
            refine bc_iload_n dX10_safe_52 rfl ?_
            refine bc_imul dX10_safe_53 ?_
            refine bc_iconst (v := 1) dX10_safe_54 (by decide) ?_
            refine bc_iadd dX10_safe_55 ?_
            refine bc_ialdE (k := (2 * k) + 1) dX10_safe_56 (rfl) (ixA (a := 2 * k) (b := 1) (ixM (a := 2) (b := k) (rfl) (rfl)) (rfl)) (⟨by omega, by decide⟩) ?_
            refine bc_iload dX10_safe_57 rfl ?_
            refine bc_callS (z := mX10_along) dX10_safe_59 lX10_410 qX10_along (by rfl) (by rfl) (Nat.le_of_ble_eq_true rfl) (t_along (j := j) (by omega)) (fun r59 μ59 e59 => ?_)
            obtain ⟨rfl, q59⟩ := e59
            obtain rfl := q59.symm
            refine bc_iadd dX10_safe_62 ?_
            rw [show bc_u m 0 0 0 10 (2 * k) = M 8 k from e.1, show bc_u m 0 0 0 10 (2 * k + 1) = M 9 k from e.2.1]
            refine bc_callV (z := mX10_isFree) (ci := 10) dX10_safe_63 lX10_413 qX10_isFree (by rfl) (by rfl) (by rfl) (by rfl) (Nat.le_of_ble_eq_true rfl) (t_isFree _ _ hE.t0) (fun r63 μ63 e63 => ?_)
            obtain ⟨rfl, q63⟩ := e63
            obtain rfl := q63.symm
            refine bc_if_eq (tgt := 73) dX10_safe_66 (by decide) (fun h66 => ?_) (fun h66 => ?_)
            · exact no' (by rw [alB, show B j = false by rw [hB]; simpa using ite0.mp h66, Bool.and_false])
            · refine bc_iconst (v := 1) dX10_safe_69 (by decide) ?_
              refine bc_goto (tgt := 74) dX10_safe_70 (by decide) ?_
              refine bc_istore_n dX10_safe_74 (by decide) rfl ?_
              refine bc_iinc1 dX10_safe_75 rfl (by decide) rfl ?_
              refine bc_goto (tgt := 22) dX10_safe_78 (by decide) ?_
              rw [show alB B (j + 1) = true by rw [alB, show alB B j = true from Decidable.not_not.mp (fun q => h29 (ite0.mpr q)), show B j = true by rw [hB]; exact Decidable.not_not.mp (fun q => h66 (ite0.mpr q))]; rfl] at h3
              rw [bn_add1]
              exact h3
      refine bc_iload_n dX10_safe_9 rfl ?_
      refine bc_aload_n dX10_safe_10 rfl ?_
      refine bc_geti dX10_safe_11 fX10_191 (rfl) rfl ?_
      refine bc_icmp_ge (tgt := 101) dX10_safe_14 (by decide) (fun h14 => absurd h14 (bx_in hnm (by omega) (by omega))) (fun h14 => ?_)
      refine bc_iconst (v := 1) dX10_safe_17 (by decide) ?_
      refine bc_istore_n dX10_safe_18 (by decide) rfl ?_
      refine bc_iconst (v := 0) dX10_safe_19 (by decide) ?_
      refine bc_istore dX10_safe_20 (by decide) rfl ?_
      exact inner 4 0 (by omega)
  refine bc_aload_n dX10_safe_0 rfl ?_
  refine bc_iconst (v := 0) dX10_safe_1 (by decide) ?_
  refine bc_put dX10_safe_2 fX10_3 ftX10 fpX10_0 rfl rfl (rfl) rfl ?_
  refine bc_iconst (v := 0) dX10_safe_5 (by decide) ?_
  refine bc_istore_n dX10_safe_6 (by decide) rfl ?_
  refine bc_iconst (v := 0) dX10_safe_7 (by decide) ?_
  refine bc_istore_n dX10_safe_8 (by decide) rfl ?_
  exact loop nm 0 _ _ rfl rfl (by omega)
/-! bakers -/
theorem t_hasBy {L : bc_L} (a b v : Int32) : bc_C d L mX10_hasBy [.int a, .int b, .int v] m (fun r ν => r = some (.int (gnI a b v)) ∧ ν = m) := by
  refine bc_enter (by decide) (Nat.le_of_ble_eq_true rfl) rfl ?_
  have hn : ¬ a = b → a ≤ b → a < b := fun h1 h2 => Int32.lt_of_le_of_ne h2 h1
  refine bc_iload_n dX10_hasBy_0 rfl ?_
  refine bc_iload_n dX10_hasBy_1 rfl ?_
  refine bc_icmp_le (tgt := 9) dX10_hasBy_2 (by decide) (fun h2 => ?_) (fun h2 => ?_)
  · refine bc_iload_n dX10_hasBy_9 rfl ?_
    refine bc_iload_n dX10_hasBy_10 rfl ?_
    refine bc_icmp_ne (tgt := 20) dX10_hasBy_11 (by decide) (fun h11 => ?_) (fun h11 => ?_)
    · refine bc_iconst (v := 0) dX10_hasBy_20 (by decide) ?_
      refine bc_iload_n dX10_hasBy_21 rfl ?_
      refine bc_isub dX10_hasBy_22 ?_
      exact bc_ireturn dX10_hasBy_23 rfl rfl (⟨by rw [gnI, if_neg (Int32.not_lt.mpr h2), if_pos (hn h11 h2), Int32.zero_sub], rfl⟩)
    · refine bc_iload_n dX10_hasBy_14 rfl ?_
      refine bc_iconst (v := 2) dX10_hasBy_15 (by decide) ?_
      refine bc_idiv dX10_hasBy_16 (by decide) ?_
      refine bc_goto (tgt := 21) dX10_hasBy_17 (by decide) ?_
      refine bc_iload_n dX10_hasBy_21 rfl ?_
      refine bc_isub dX10_hasBy_22 ?_
      exact bc_ireturn dX10_hasBy_23 rfl rfl (⟨by rw [gnI, if_neg (Int32.not_lt.mpr h2), if_neg (by rw [h11]; exact Int32.lt_irrefl)], rfl⟩)
  · refine bc_iload_n dX10_hasBy_5 rfl ?_
    refine bc_goto (tgt := 21) dX10_hasBy_6 (by decide) ?_
    refine bc_iload_n dX10_hasBy_21 rfl ?_
    refine bc_isub dX10_hasBy_22 ?_
    exact bc_ireturn dX10_hasBy_23 rfl rfl (⟨by rw [gnI, if_pos (Int32.not_le.mp h2)], rfl⟩)
theorem t_isRest {L : bc_L} {K : Nat} (a b v : Int32) (hK : K ≤ 9) : bc_C (d + 1) L mX10_isRest [.int a, .int b, .int (nI K), .int v] m (fun r ν => r = some (.int (if (bsB a b v (K + 1) 0 && bsB b a v (K + 1) 0) = true then 1 else 0)) ∧ ν = m) := by
  refine bc_enter (by decide) (Nat.le_of_ble_eq_true rfl) rfl ?_
  have loop : ∀ c i, i + c = K + 1 → bc_W (d + 1) L mX10_isRest 3 [.int a, .int b, .int (nI K), .int v, .int (nI i)] [] m (fun r ν => r = some (.int (if (bsB a b v c i && bsB b a v c i) = true then 1 else 0)) ∧ ν = m) := by
    intro c
    induction c with
    | zero =>
      intro i hi
      refine bc_iload dX10_isRest_3 rfl ?_
      refine bc_iload_n dX10_isRest_5 rfl ?_
      refine bc_icmp_gt (tgt := 49) dX10_isRest_6 (by decide) (fun h6 => ?_) (fun h6 => absurd h6 (fun q => q (by rw [bn_ltN (by omega) (by omega)]; omega)))
      refine bc_iconst (v := 1) dX10_isRest_49 (by decide) ?_
      exact bc_ireturn dX10_isRest_50 rfl rfl (⟨rfl, rfl⟩)
    | succ c ih =>
      intro i hi
      have h3 := ih (i + 1) (by omega)
      refine bc_iload dX10_isRest_3 rfl ?_
      refine bc_iload_n dX10_isRest_5 rfl ?_
      refine bc_icmp_gt (tgt := 49) dX10_isRest_6 (by decide) (fun h6 => absurd h6 (by rw [bn_ltN (by omega) (by omega)]; omega)) (fun h6 => ?_)
      refine bc_iload dX10_isRest_9 rfl ?_
      refine bc_iload_n dX10_isRest_11 rfl ?_
      refine bc_iload_n dX10_isRest_12 rfl ?_
      refine bc_callS (z := mX10_hasBy) dX10_isRest_13 lX10_424 qX10_hasBy (by rfl) (by rfl) (Nat.le_of_ble_eq_true rfl) (t_hasBy _ _ _) (fun r13 μ13 e13 => ?_)
      obtain ⟨rfl, q13⟩ := e13
      obtain rfl := q13.symm
      refine bc_iload_n dX10_isRest_16 rfl ?_
      refine bc_iload_n dX10_isRest_17 rfl ?_
      refine bc_iload_n dX10_isRest_18 rfl ?_
      refine bc_callS (z := mX10_hasBy) dX10_isRest_19 lX10_424 qX10_hasBy (by rfl) (by rfl) (Nat.le_of_ble_eq_true rfl) (t_hasBy _ _ _) (fun r19 μ19 e19 => ?_)
      obtain ⟨rfl, q19⟩ := e19
      obtain rfl := q19.symm
      refine bc_icmp_gt (tgt := 41) dX10_isRest_22 (by decide) (fun h22 => ?_) (fun h22 => ?_)
      · refine bc_iconst (v := 0) dX10_isRest_41 (by decide) ?_
        exact bc_ireturn dX10_isRest_42 rfl rfl (⟨by rw [bsB, decide_eq_false (Int32.not_le.mpr h22)]; rfl, rfl⟩)
      · refine bc_iload dX10_isRest_25 rfl ?_
        refine bc_iload_n dX10_isRest_27 rfl ?_
        refine bc_iload_n dX10_isRest_28 rfl ?_
        refine bc_callS (z := mX10_hasBy) dX10_isRest_29 lX10_424 qX10_hasBy (by rfl) (by rfl) (Nat.le_of_ble_eq_true rfl) (t_hasBy _ _ _) (fun r29 μ29 e29 => ?_)
        obtain ⟨rfl, q29⟩ := e29
        obtain rfl := q29.symm
        refine bc_iload_n dX10_isRest_32 rfl ?_
        refine bc_iload_n dX10_isRest_33 rfl ?_
        refine bc_iload_n dX10_isRest_34 rfl ?_
        refine bc_callS (z := mX10_hasBy) dX10_isRest_35 lX10_424 qX10_hasBy (by rfl) (by rfl) (Nat.le_of_ble_eq_true rfl) (t_hasBy _ _ _) (fun r35 μ35 e35 => ?_)
        obtain ⟨rfl, q35⟩ := e35
        obtain rfl := q35.symm
        refine bc_icmp_le (tgt := 43) dX10_isRest_38 (by decide) (fun h38 => ?_) (fun h38 => ?_)
        · refine bc_iinc1 dX10_isRest_43 rfl (by decide) rfl ?_
          refine bc_goto (tgt := 3) dX10_isRest_46 (by decide) ?_
          rw [bsB, bsB, decide_eq_true (Int32.not_lt.mp h22), decide_eq_true h38, Bool.true_and, Bool.true_and, bn_add1]
          exact h3
        · refine bc_iconst (v := 0) dX10_isRest_41 (by decide) ?_
          exact bc_ireturn dX10_isRest_42 rfl rfl (⟨by rw [bsB, bsB, decide_eq_false (p := gnI (nI i) a v ≤ gnI b a v) h38, Bool.false_and, Bool.and_false]; rfl, rfl⟩)
  refine bc_iconst (v := 0) dX10_isRest_0 (by decide) ?_
  refine bc_istore dX10_isRest_1 (by decide) rfl ?_
  exact loop (K + 1) 0 (by omega)
theorem t_bakersB {k0 v w : Int32} (h : ¬ ((0 ≤ k0 ∧ k0 ≤ 9) ∧ (0 ≤ v ∧ v ≤ 99) ∧ (0 ≤ w ∧ w ≤ 2))) : bc_C (d + 2) LM mX10_bakers [.ref 0, .int k0, .int v, .int w] m (fun r ν => r = some (.int 0) ∧ ν = refM m 1 1) := by
  refine bc_enter (by decide) (Nat.le_of_ble_eq_true rfl) rfl ?_
  have bad : bc_W (d + 2) LM mX10_bakers 39 ([.ref 0, .int k0, .int v, .int w] ++ List.replicate (mX10_bakers.2.2.1 - 4) .null) [.ref 0] (bc_u m 0 0 0) (fun r ν => r = some (.int 0) ∧ ν = refM m 1 1) := by
    refine bc_iconst (v := 0) dX10_bakers_39 (by decide) ?_
    refine bc_iconst (v := 1) dX10_bakers_40 (by decide) ?_
    refine bc_iconst (v := 1) dX10_bakers_41 (by decide) ?_
    refine bc_callV (z := mX10_may) (ci := 10) dX10_bakers_42 lX10_236 qX10_may (by rfl) (by rfl) (by rfl) (by rfl) (Nat.le_of_ble_eq_true rfl) (t_mayN (k := 1) False (fun x => x) _ (by decide) rfl (by decide)) (fun r42 μ42 e42 => ?_)
    obtain ⟨rfl, q42⟩ := e42
    obtain rfl := q42.symm
    refine bc_if_ne (tgt := 50) dX10_bakers_45 (by decide) (fun h45 => absurd h45 (fun q => q rfl)) (fun h45 => ?_)
    refine bc_iconst (v := 0) dX10_bakers_48 (by decide) ?_
    exact bc_ireturn dX10_bakers_49 rfl rfl (⟨rfl, rfl⟩)
  refine bc_aload_n dX10_bakers_0 rfl ?_
  refine bc_iconst (v := 0) dX10_bakers_1 (by decide) ?_
  refine bc_put dX10_bakers_2 fX10_3 ftX10 fpX10_0 rfl rfl (rfl) rfl ?_
  refine bc_aload_n dX10_bakers_5 rfl ?_
  refine bc_iload_n dX10_bakers_6 rfl ?_
  refine bc_iconst (v := 0) dX10_bakers_7 (by decide) ?_
  refine bc_bipush (v := 9) dX10_bakers_8 (by decide) ?_
  refine bc_callS (z := mX10_within) dX10_bakers_10 lX10_384 qX10_within (by rfl) (by rfl) (Nat.le_of_ble_eq_true rfl) (t_within _ _ _) (fun r10 μ10 e10 => ?_)
  obtain ⟨rfl, q10⟩ := e10
  obtain rfl := q10.symm
  refine bc_if_eq (tgt := 39) dX10_bakers_13 (by decide) (fun h13 => ?_) (fun h13 => ?_)
  · exact bad
  · refine bc_iload_n dX10_bakers_16 rfl ?_
    refine bc_iconst (v := 0) dX10_bakers_17 (by decide) ?_
    refine bc_bipush (v := 99) dX10_bakers_18 (by decide) ?_
    refine bc_callS (z := mX10_within) dX10_bakers_20 lX10_384 qX10_within (by rfl) (by rfl) (Nat.le_of_ble_eq_true rfl) (t_within _ _ _) (fun r20 μ20 e20 => ?_)
    obtain ⟨rfl, q20⟩ := e20
    obtain rfl := q20.symm
    refine bc_if_eq (tgt := 39) dX10_bakers_23 (by decide) (fun h23 => ?_) (fun h23 => ?_)
    · exact bad
    · refine bc_iload_n dX10_bakers_26 rfl ?_
      refine bc_iconst (v := 0) dX10_bakers_27 (by decide) ?_
      refine bc_iconst (v := 2) dX10_bakers_28 (by decide) ?_
      refine bc_callS (z := mX10_within) dX10_bakers_29 lX10_384 qX10_within (by rfl) (by rfl) (Nat.le_of_ble_eq_true rfl) (t_within _ _ _) (fun r29 μ29 e29 => ?_)
      obtain ⟨rfl, q29⟩ := e29
      obtain rfl := q29.symm
      refine bc_if_eq (tgt := 39) dX10_bakers_32 (by decide) (fun h32 => ?_) (fun h32 => ?_)
      · exact bad
      · exact absurd (⟨Decidable.not_not.mp (fun e => h13 (ite0.mpr e)), Decidable.not_not.mp (fun e => h23 (ite0.mpr e)), Decidable.not_not.mp (fun e => h32 (ite0.mpr e))⟩) h
theorem bk_at {K : Nat} {v : Int32} (hK : K ≤ 9) : ∀ i, i ≤ (K + 1) * (K + 1) → (bkF K v i).2 = (-1, 0) ∨ ∃ a b, a ≤ 9 ∧ b ≤ 9 ∧ (bkF K v i).2 = (nI (10 * a + b), gnI (nI a) (nI b) v + gnI (nI b) (nI a) v) := by
  intro i
  induction i with
  | zero => intro _; exact .inl rfl
  | succ i ih =>
    intro hi
    rw [bkF]
    by_cases hb : bkB K v i = true
    · rw [if_pos hb]
      by_cases h1 : (bkF K v i).2.1 = -1
      · right
        have hd : i / (K + 1) ≤ K := by
          have := (Nat.div_lt_iff_lt_mul (show 0 < K + 1 by omega)).mpr (show i < (K + 1) * (K + 1) by omega)
          omega
        have hm : i % (K + 1) ≤ K := by have := Nat.mod_lt i (show 0 < K + 1 by omega); omega
        refine ⟨i / (K + 1), i % (K + 1), by omega, by omega, ?_⟩
        show (if (bkF K v i).2.1 = -1 then _ else _) = _
        rw [if_pos h1, ← bn_add, ← bn_mul]; rfl
      · show (if (bkF K v i).2.1 = -1 then _ else (bkF K v i).2) = _ ∨ ∃ a b, a ≤ 9 ∧ b ≤ 9 ∧ (if (bkF K v i).2.1 = -1 then _ else (bkF K v i).2) = _
        rw [if_neg h1]
        exact ih (by omega)
    · rw [if_neg hb]; exact ih (by omega)
theorem t_bakers {K w : Nat} {v : Int32} (hK : K ≤ 9) (hv : 0 ≤ v ∧ v ≤ 99) (hw : w ≤ 2) : bc_C (d + 2) LM mX10_bakers [.ref 0, .int (nI K), .int v, .int (nI w)] m (fun r ν => r = some (.int (bkvM (bkF K v ((K + 1) * (K + 1))) w)) ∧ qS m ν) := by
  refine bc_enter (by decide) (Nat.le_of_ble_eq_true rfl) rfl ?_
  have h100 : (K + 1) * (K + 1) ≤ 100 := Nat.mul_le_mul (show K + 1 ≤ 10 by omega) (show K + 1 ≤ 10 by omega)
  have eKK : (nI K + 1) * (nI K + 1) = nI ((K + 1) * (K + 1)) := by rw [bn_add1, bn_mul]
  have loop : ∀ (c i : Nat) (v7 v8 : Value), v7.category = 1 → v8.category = 1 → i + c = (K + 1) * (K + 1) → bc_W (d + 2) LM mX10_bakers 59 [.ref 0, .int (nI K), .int v, .int (nI w), .int (nI (bkF K v i).1), .int (bkF K v i).2.1, .int (nI i), v7, v8] [] (bc_u m 0 0 0) (fun r ν => r = some (.int (bkvM (bkF K v ((K + 1) * (K + 1))) w)) ∧ qS m ν) := by
    intro c
    induction c with
    | zero =>
      intro i v7 v8 c7 c8 hi
      have hi : i = (K + 1) * (K + 1) := by omega
      rw [← hi] at eKK ⊢
      have hc : w = 0 ∨ w = 1 ∨ w = 2 := by omega
      rcases hc with rfl | rfl | rfl
      · skip
        refine bc_iload dX10_bakers_59 rfl ?_
        refine bc_iload_n dX10_bakers_61 rfl ?_
        refine bc_iconst (v := 1) dX10_bakers_62 (by decide) ?_
        refine bc_iadd dX10_bakers_63 ?_
        refine bc_iload_n dX10_bakers_64 rfl ?_
        refine bc_iconst (v := 1) dX10_bakers_65 (by decide) ?_
        refine bc_iadd dX10_bakers_66 ?_
        refine bc_imul dX10_bakers_67 ?_
        rw [eKK]
        refine bc_icmp_ge (tgt := 132) dX10_bakers_68 (by decide) (fun h68 => ?_) (fun h68 => absurd h68 (fun q => q (Int32.le_refl _)))
        refine bc_iload_n dX10_bakers_132 rfl ?_
        refine bc_if_ne (tgt := 141) dX10_bakers_133 (by decide) (fun h133 => absurd h133 (fun q => q rfl)) (fun h133 => ?_)
        refine bc_iload dX10_bakers_136 rfl ?_
        refine bc_goto (tgt := 190) dX10_bakers_138 (by decide) ?_
        exact bc_ireturn dX10_bakers_190 rfl rfl (⟨rfl, qS_0⟩)
      · skip
        refine bc_iload dX10_bakers_59 rfl ?_
        refine bc_iload_n dX10_bakers_61 rfl ?_
        refine bc_iconst (v := 1) dX10_bakers_62 (by decide) ?_
        refine bc_iadd dX10_bakers_63 ?_
        refine bc_iload_n dX10_bakers_64 rfl ?_
        refine bc_iconst (v := 1) dX10_bakers_65 (by decide) ?_
        refine bc_iadd dX10_bakers_66 ?_
        refine bc_imul dX10_bakers_67 ?_
        rw [eKK]
        refine bc_icmp_ge (tgt := 132) dX10_bakers_68 (by decide) (fun h68 => ?_) (fun h68 => absurd h68 (fun q => q (Int32.le_refl _)))
        refine bc_iload_n dX10_bakers_132 rfl ?_
        refine bc_if_ne (tgt := 141) dX10_bakers_133 (by decide) (fun h133 => ?_) (fun h133 => absurd h133 (by decide))
        refine bc_iload_n dX10_bakers_141 rfl ?_
        refine bc_iconst (v := 1) dX10_bakers_142 (by decide) ?_
        refine bc_icmp_ne (tgt := 151) dX10_bakers_143 (by decide) (fun h143 => absurd h143 (fun q => q rfl)) (fun h143 => ?_)
        refine bc_iload dX10_bakers_146 rfl ?_
        refine bc_goto (tgt := 190) dX10_bakers_148 (by decide) ?_
        exact bc_ireturn dX10_bakers_190 rfl rfl (⟨rfl, qS_0⟩)
      · rcases bk_at (v := v) hK i (by omega) with e | ⟨a, b, ha, hb, e⟩
        · rw [show (bkF K v i).2.1 = -1 by rw [e]]
          refine bc_iload dX10_bakers_59 rfl ?_
          refine bc_iload_n dX10_bakers_61 rfl ?_
          refine bc_iconst (v := 1) dX10_bakers_62 (by decide) ?_
          refine bc_iadd dX10_bakers_63 ?_
          refine bc_iload_n dX10_bakers_64 rfl ?_
          refine bc_iconst (v := 1) dX10_bakers_65 (by decide) ?_
          refine bc_iadd dX10_bakers_66 ?_
          refine bc_imul dX10_bakers_67 ?_
          rw [eKK]
          refine bc_icmp_ge (tgt := 132) dX10_bakers_68 (by decide) (fun h68 => ?_) (fun h68 => absurd h68 (fun q => q (Int32.le_refl _)))
          refine bc_iload_n dX10_bakers_132 rfl ?_
          refine bc_if_ne (tgt := 141) dX10_bakers_133 (by decide) (fun h133 => ?_) (fun h133 => absurd h133 (by decide))
          refine bc_iload_n dX10_bakers_141 rfl ?_
          refine bc_iconst (v := 1) dX10_bakers_142 (by decide) ?_
          refine bc_icmp_ne (tgt := 151) dX10_bakers_143 (by decide) (fun h143 => ?_) (fun h143 => absurd h143 (by decide))
          refine bc_iload dX10_bakers_151 rfl ?_
          refine bc_iconst (v := (-1)) dX10_bakers_153 (by decide) ?_
          refine bc_icmp_ne (tgt := 161) dX10_bakers_154 (by decide) (fun h154 => absurd h154 (fun q => q rfl)) (fun h154 => ?_)
          refine bc_iconst (v := 0) dX10_bakers_157 (by decide) ?_
          refine bc_goto (tgt := 190) dX10_bakers_158 (by decide) ?_
          exact bc_ireturn dX10_bakers_190 rfl rfl (⟨by show some (Value.int 0) = some (Value.int (bkF K v i).2.2); rw [e], qS_0⟩)
        · rw [show (bkF K v i).2.1 = nI (10 * a + b) by rw [e]]
          have e1 : nI (10 * a + b) / 10 = nI a := by
            rw [show (10 : Int32) = nI 10 from rfl, pk_div (by omega) (by omega) (by omega)]; congr 1; omega
          have e2 : nI (10 * a + b) - nI (10 * a + b) / 10 * 10 = nI b := by
            rw [show (10 : Int32) = nI 10 from rfl, pk_rem (by omega) (by omega) (by omega)]; congr 1; omega
          refine bc_iload dX10_bakers_59 rfl ?_
          refine bc_iload_n dX10_bakers_61 rfl ?_
          refine bc_iconst (v := 1) dX10_bakers_62 (by decide) ?_
          refine bc_iadd dX10_bakers_63 ?_
          refine bc_iload_n dX10_bakers_64 rfl ?_
          refine bc_iconst (v := 1) dX10_bakers_65 (by decide) ?_
          refine bc_iadd dX10_bakers_66 ?_
          refine bc_imul dX10_bakers_67 ?_
          rw [eKK]
          refine bc_icmp_ge (tgt := 132) dX10_bakers_68 (by decide) (fun h68 => ?_) (fun h68 => absurd h68 (fun q => q (Int32.le_refl _)))
          refine bc_iload_n dX10_bakers_132 rfl ?_
          refine bc_if_ne (tgt := 141) dX10_bakers_133 (by decide) (fun h133 => ?_) (fun h133 => absurd h133 (by decide))
          refine bc_iload_n dX10_bakers_141 rfl ?_
          refine bc_iconst (v := 1) dX10_bakers_142 (by decide) ?_
          refine bc_icmp_ne (tgt := 151) dX10_bakers_143 (by decide) (fun h143 => ?_) (fun h143 => absurd h143 (by decide))
          refine bc_iload dX10_bakers_151 rfl ?_
          refine bc_iconst (v := (-1)) dX10_bakers_153 (by decide) ?_
          refine bc_icmp_ne (tgt := 161) dX10_bakers_154 (by decide) (fun h154 => ?_) (fun h154 => absurd h154 (nI_m1 (by omega)))
          refine bc_iload dX10_bakers_161 rfl ?_
          refine bc_bipush (v := 10) dX10_bakers_163 (by decide) ?_
          refine bc_idiv dX10_bakers_165 (by decide) ?_
          refine bc_iload dX10_bakers_166 rfl ?_
          refine bc_bipush (v := 10) dX10_bakers_168 (by decide) ?_
          refine bc_irem dX10_bakers_170 (by decide) ?_
          rw [e2, e1]
          refine bc_iload_n dX10_bakers_171 rfl ?_
          refine bc_callS (z := mX10_hasBy) dX10_bakers_172 lX10_424 qX10_hasBy (by rfl) (by rfl) (Nat.le_of_ble_eq_true rfl) (t_hasBy _ _ _) (fun r172 μ172 e172 => ?_)
          obtain ⟨rfl, q172⟩ := e172
          obtain rfl := q172.symm
          refine bc_iload dX10_bakers_175 rfl ?_
          refine bc_bipush (v := 10) dX10_bakers_177 (by decide) ?_
          refine bc_irem dX10_bakers_179 (by decide) ?_
          refine bc_iload dX10_bakers_180 rfl ?_
          refine bc_bipush (v := 10) dX10_bakers_182 (by decide) ?_
          refine bc_idiv dX10_bakers_184 (by decide) ?_
          rw [e2, e1]
          refine bc_iload_n dX10_bakers_185 rfl ?_
          refine bc_callS (z := mX10_hasBy) dX10_bakers_186 lX10_424 qX10_hasBy (by rfl) (by rfl) (Nat.le_of_ble_eq_true rfl) (t_hasBy _ _ _) (fun r186 μ186 e186 => ?_)
          obtain ⟨rfl, q186⟩ := e186
          obtain rfl := q186.symm
          refine bc_iadd dX10_bakers_189 ?_
          exact bc_ireturn dX10_bakers_190 rfl rfl (⟨by show some (Value.int (gnI (nI a) (nI b) v + gnI (nI b) (nI a) v)) = some (Value.int (bkF K v i).2.2); rw [e], qS_0⟩)
    | succ c ih =>
      intro i v7 v8 c7 c8 hi
      have h3 := ih (i + 1) (.int (nI (i / (K + 1)))) (.int (nI (i % (K + 1)))) rfl rfl (by omega)
      have e1 : nI i / nI (K + 1) = nI (i / (K + 1)) := pk_div (by omega) (by omega) (by omega)
      have e2 : nI i - nI (i / (K + 1)) * nI (K + 1) = nI (i % (K + 1)) := by rw [← e1]; exact pk_rem (by omega) (by omega) (by omega)
      refine bc_iload dX10_bakers_59 rfl ?_
      refine bc_iload_n dX10_bakers_61 rfl ?_
      refine bc_iconst (v := 1) dX10_bakers_62 (by decide) ?_
      refine bc_iadd dX10_bakers_63 ?_
      refine bc_iload_n dX10_bakers_64 rfl ?_
      refine bc_iconst (v := 1) dX10_bakers_65 (by decide) ?_
      refine bc_iadd dX10_bakers_66 ?_
      refine bc_imul dX10_bakers_67 ?_
      rw [eKK]
      refine bc_icmp_ge (tgt := 132) dX10_bakers_68 (by decide) (fun h68 => absurd h68 (by rw [bn_leN (by omega) (by omega)]; omega)) (fun h68 => ?_)
      refine bc_iload dX10_bakers_71 rfl ?_
      refine bc_iload_n dX10_bakers_73 rfl ?_
      refine bc_iconst (v := 1) dX10_bakers_74 (by decide) ?_
      refine bc_iadd dX10_bakers_75 ?_
      refine bc_idiv dX10_bakers_76 (by rw [bn_add1]; exact nI_ne0 (by omega) (by omega)) ?_
      rw [bn_add1, e1]
      refine bc_istore dX10_bakers_77 (by decide) rfl ?_
      refine bc_iload dX10_bakers_79 rfl ?_
      refine bc_iload_n dX10_bakers_81 rfl ?_
      refine bc_iconst (v := 1) dX10_bakers_82 (by decide) ?_
      refine bc_iadd dX10_bakers_83 ?_
      refine bc_irem dX10_bakers_84 (by rw [bn_add1]; exact nI_ne0 (by omega) (by omega)) ?_
      rw [bn_add1, e1, e2]
      refine bc_istore dX10_bakers_85 (by decide) rfl ?_
      refine bc_iload dX10_bakers_87 rfl ?_
      refine bc_iload dX10_bakers_89 rfl ?_
      refine bc_iload_n dX10_bakers_91 rfl ?_
      refine bc_iload_n dX10_bakers_92 rfl ?_
      refine bc_callS (z := mX10_isRest) dX10_bakers_93 lX10_427 qX10_isRest (by rfl) (by rfl) (Nat.le_of_ble_eq_true rfl) (t_isRest (K := K) _ _ _ hK) (fun r93 μ93 e93 => ?_)
      obtain ⟨rfl, q93⟩ := e93
      obtain rfl := q93.symm
      refine bc_if_ne (tgt := 102) dX10_bakers_96 (by decide) (fun h96 => ?_) (fun h96 => ?_)
      · refine bc_iinc1 dX10_bakers_102 rfl (by decide) rfl ?_
        refine bc_iload dX10_bakers_105 rfl ?_
        refine bc_iconst (v := (-1)) dX10_bakers_107 (by decide) ?_
        refine bc_icmp_ne (tgt := 122) dX10_bakers_108 (by decide) (fun h108 => ?_) (fun h108 => ?_)
        · refine bc_iload dX10_bakers_122 rfl ?_
          refine bc_istore dX10_bakers_124 (by decide) rfl ?_
          refine bc_iinc1 dX10_bakers_126 rfl (by decide) rfl ?_
          refine bc_goto (tgt := 59) dX10_bakers_129 (by decide) ?_
          rw [show bkF K v (i + 1) = ((bkF K v i).1 + 1, (bkF K v i).2) by rw [bkF, if_pos (show bkB K v i = true from Decidable.not_not.mp (fun q => h96 (ite0.mpr q))), if_neg h108]] at h3
          rw [bn_add1, bn_add1]
          exact h3
        · refine bc_bipush (v := 10) dX10_bakers_111 (by decide) ?_
          refine bc_iload dX10_bakers_113 rfl ?_
          refine bc_imul dX10_bakers_115 ?_
          refine bc_iload dX10_bakers_116 rfl ?_
          refine bc_iadd dX10_bakers_118 ?_
          refine bc_goto (tgt := 124) dX10_bakers_119 (by decide) ?_
          refine bc_istore dX10_bakers_124 (by decide) rfl ?_
          refine bc_iinc1 dX10_bakers_126 rfl (by decide) rfl ?_
          refine bc_goto (tgt := 59) dX10_bakers_129 (by decide) ?_
          rw [show bkF K v (i + 1) = ((bkF K v i).1 + 1, (10 * nI (i / (K + 1)) + nI (i % (K + 1)), gnI (nI (i / (K + 1))) (nI (i % (K + 1))) v + gnI (nI (i % (K + 1))) (nI (i / (K + 1))) v)) by rw [bkF, if_pos (show bkB K v i = true from Decidable.not_not.mp (fun q => h96 (ite0.mpr q))), if_pos h108]] at h3
          rw [bn_add1, bn_add1]
          exact h3
      · refine bc_goto (tgt := 126) dX10_bakers_99 (by decide) ?_
        refine bc_iinc1 dX10_bakers_126 rfl (by decide) rfl ?_
        refine bc_goto (tgt := 59) dX10_bakers_129 (by decide) ?_
        rw [show bkF K v (i + 1) = bkF K v i by rw [bkF, if_neg (show ¬ bkB K v i = true from ite0.mp h96)]] at h3
        rw [bn_add1]
        exact h3
  refine bc_aload_n dX10_bakers_0 rfl ?_
  refine bc_iconst (v := 0) dX10_bakers_1 (by decide) ?_
  refine bc_put dX10_bakers_2 fX10_3 ftX10 fpX10_0 rfl rfl (rfl) rfl ?_
  refine bc_aload_n dX10_bakers_5 rfl ?_
  refine bc_iload_n dX10_bakers_6 rfl ?_
  refine bc_iconst (v := 0) dX10_bakers_7 (by decide) ?_
  refine bc_bipush (v := 9) dX10_bakers_8 (by decide) ?_
  refine bc_callS (z := mX10_within) dX10_bakers_10 lX10_384 qX10_within (by rfl) (by rfl) (Nat.le_of_ble_eq_true rfl) (t_within _ _ _) (fun r10 μ10 e10 => ?_)
  obtain ⟨rfl, q10⟩ := e10
  obtain rfl := q10.symm
  refine bc_if_eq (tgt := 39) dX10_bakers_13 (by decide) (fun h13 => absurd h13 (fun e => ite0.mp e (wN (b := 9) hK (by omega)))) (fun h13 => ?_)
  refine bc_iload_n dX10_bakers_16 rfl ?_
  refine bc_iconst (v := 0) dX10_bakers_17 (by decide) ?_
  refine bc_bipush (v := 99) dX10_bakers_18 (by decide) ?_
  refine bc_callS (z := mX10_within) dX10_bakers_20 lX10_384 qX10_within (by rfl) (by rfl) (Nat.le_of_ble_eq_true rfl) (t_within _ _ _) (fun r20 μ20 e20 => ?_)
  obtain ⟨rfl, q20⟩ := e20
  obtain rfl := q20.symm
  refine bc_if_eq (tgt := 39) dX10_bakers_23 (by decide) (fun h23 => absurd h23 (fun e => ite0.mp e (hv))) (fun h23 => ?_)
  refine bc_iload_n dX10_bakers_26 rfl ?_
  refine bc_iconst (v := 0) dX10_bakers_27 (by decide) ?_
  refine bc_iconst (v := 2) dX10_bakers_28 (by decide) ?_
  refine bc_callS (z := mX10_within) dX10_bakers_29 lX10_384 qX10_within (by rfl) (by rfl) (Nat.le_of_ble_eq_true rfl) (t_within _ _ _) (fun r29 μ29 e29 => ?_)
  obtain ⟨rfl, q29⟩ := e29
  obtain rfl := q29.symm
  refine bc_if_eq (tgt := 39) dX10_bakers_32 (by decide) (fun h32 => absurd h32 (fun e => ite0.mp e (wN (b := 2) hw (by omega)))) (fun h32 => ?_)
  refine bc_iconst (v := 1) dX10_bakers_35 (by decide) ?_
  refine bc_goto (tgt := 40) dX10_bakers_36 (by decide) ?_
  refine bc_iconst (v := 1) dX10_bakers_40 (by decide) ?_
  refine bc_iconst (v := 1) dX10_bakers_41 (by decide) ?_
  refine bc_callV (z := mX10_may) (ci := 10) dX10_bakers_42 lX10_236 qX10_may (by rfl) (by rfl) (by rfl) (by rfl) (Nat.le_of_ble_eq_true rfl) (t_mayY (k := 1) True trivial _ (by decide) rfl (by decide)) (fun r42 μ42 e42 => ?_)
  obtain ⟨rfl, q42⟩ := e42
  obtain rfl := q42.symm
  refine bc_if_ne (tgt := 50) dX10_bakers_45 (by decide) (fun h45 => ?_) (fun h45 => absurd h45 (by decide))
  refine bc_iconst (v := 0) dX10_bakers_50 (by decide) ?_
  refine bc_istore dX10_bakers_51 (by decide) rfl ?_
  refine bc_iconst (v := (-1)) dX10_bakers_53 (by decide) ?_
  refine bc_istore dX10_bakers_54 (by decide) rfl ?_
  refine bc_iconst (v := 0) dX10_bakers_56 (by decide) ?_
  refine bc_istore dX10_bakers_57 (by decide) rfl ?_
  exact loop ((K + 1) * (K + 1)) 0 _ _ rfl rfl (Nat.zero_add _)
end T66
