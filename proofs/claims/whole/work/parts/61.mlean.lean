/-! the reference: a law's value, who leans how, where it drifts -/
abbrev litA (no : Nat) (A : Row) : Int32 := lbM (fun o => A (o + 6)) 0 no
/-- the reference's row f (its array s, or now) says the city A -/
def sR (A : Row) (f : Nat → Int32) : Prop := (∀ o, o < 8 → f o = A (o + 6)) ∧ (∀ o, o < 8 → f (8 + o) = A (o + 14)) ∧ (∀ q, q < 6 → f (16 + q) = A (q + 22)) ∧ (∀ q, q < 6 → f (22 + q) = A 5 >>> (nI q &&& 31) &&& 1) ∧ f 28 = A 0 ∧ f 29 = A 1 ∧ f 30 = A 3 ∧ f 31 = A 4 ∧ f 32 = A 2
/-- a city as it can come to be -/
def okA (no : Nat) (A : Row) : Prop := (∀ o, o < 8 → 0 ≤ (A (o + 6)).toInt ∧ (A (o + 6)).toInt ≤ 4) ∧ (∀ o, no ≤ o → o < 8 → A (o + 6) = 0) ∧ (0 ≤ (A 3).toInt ∧ (A 3).toInt ≤ 99) ∧ rng (A 0, A 1)
/-- a sign of the class's law, a code of the reference's -/
def cR (s c o : Int32) : Prop := (s < 1000 ∧ c = 0 ∧ o = s) ∨ (¬ s < 1000 ∧ s < 1007 ∧ c = 1 ∧ o = s - 1000) ∨ (s = 1007 ∧ c = 2) ∨ (s = 1008 ∧ c = 3) ∨ (s = 1009 ∧ c = 4) ∨ (s = 1010 ∧ c = 5) ∨ (s = 1011 ∧ c = 8) ∨ (s = 1012 ∧ c = 6) ∨ (s = 1013 ∧ c = 7)
def mLaw (M m : bc_M) (n : Nat) : Prop := (m 0 35 = 0 ∧ n = 7 ∧ ∀ i x, fstL[i]? = some x → M 20 i = nI x) ∨ (m 0 35 = nI n ∧ ∀ k, k < n → cR (M 20 k) (m 13 k) (m 14 k))
def mEnv (M m : bc_M) (n no nq nr nm : Nat) : Prop := okB M n no nq ∧ (m 0 25 = nI nq ∧ m 0 26 = nI no ∧ m 0 27 = nI nr ∧ m 0 28 = nI nm) ∧ (nr ≤ 12 ∧ nm ≤ 6) ∧ (∀ q, q < nq → m 7 (2 * q) = M 4 q ∧ m 7 (2 * q + 1) = M 5 q) ∧ (∀ o, o < no → m 8 (2 * o) = M 6 o ∧ m 8 (2 * o + 1) = M 7 o) ∧ (∀ x y : Int32, 0 ≤ x → x ≤ 30 → 0 ≤ y → y ≤ 30 → (moB (fun k => m 9 (2 * k)) (fun k => m 9 (2 * k + 1)) x y nr 0 = true ↔ en M 10 31 y >>> (x &&& 31) &&& 1 = 1)) ∧ (∀ k, k < nm → m 10 (2 * k) = M 8 k ∧ m 10 (2 * k + 1) = M 9 k ∧ rng (M 8 k, M 9 k)) ∧ mLaw M m n
section T61
variable {d : Nat} {m ν M : bc_M} {n no nq nr nm : Nat} {A : Row}
theorem mEnv.mv (h : mEnv M m n no nq nr nm) (h0 : ∀ k, 25 ≤ k → k ≤ 35 → ν 0 k = m 0 k) (h1 : ∀ i, 7 ≤ i → i ≤ 14 → ν i = m i) : mEnv M ν n no nq nr nm := by
  unfold mEnv mLaw at h ⊢
  rw [h0 25 (by omega) (by omega), h0 26 (by omega) (by omega), h0 27 (by omega) (by omega), h0 28 (by omega) (by omega), h0 35 (by omega) (by omega), h1 7 (by omega) (by omega), h1 8 (by omega) (by omega), h1 9 (by omega) (by omega), h1 10 (by omega) (by omega), h1 13 (by omega) (by omega), h1 14 (by omega) (by omega)]
  exact h
theorem mEnv.q6 (h : mEnv M m n no nq nr nm) : nq ≤ 6 := h.1.2.1.2.1
theorem mEnv.o8 (h : mEnv M m n no nq nr nm) : no ≤ 8 := h.1.1.2.1
theorem i32lc (a b c : Int32) : a + (b + c) = b + (a + c) := by rw [← Int32.add_assoc, Int32.add_comm a b, Int32.add_assoc]
theorem i32r1 (a b c e : Int32) : a - b + (c - e) = a + c - (b + e) := by
  simp only [Int32.sub_eq_add_neg, Int32.neg_add, Int32.add_assoc, Int32.add_comm, i32lc]
theorem sm_sub {f g h : Nat → Int32} : ∀ k, (∀ i, i < k → f i = g i - h i) → sm k f = sm k g - sm k h := by
  intro k
  induction k with
  | zero => intro _; simp [sm]
  | succ k ih =>
    intro hh
    simp only [sm]
    rw [ih (fun i hi => hh i (by omega)), hh k (by omega), i32r1]
theorem litA_bit (hA : okA no A) (h8 : no ≤ 8) {o : Nat} (ho : o < no) : (litA no A >>> (nI o &&& 31) &&& 1 = 1) ↔ ¬ A (o + 6) = 0 := by
  have h1 := hA.1 o (by omega)
  rw [b_is _ (by omega), lbM_bt _ _ no (by omega) o (by omega), Bool.and_eq_true, decide_eq_true_eq, decide_eq_true_eq, bn_lt, bn_eq, bn_0]
  omega
/-! what both make of two values -/
def opC (c a b : Int32) : Int32 := if c = 2 then a + b else if c = 3 then a - b else if c = 4 then a * b else if c = 5 ∨ c = 8 then (if b = 0 then 0 else if c = 5 then a / b else a - a / b * b) else if (a < b ↔ c = 6) then a else b
theorem t_both {L : bc_L} (c a b : Int32) : bc_C d L mX10_both [.int c, .int a, .int b] m (fun r ν => r = some (.int (opC c a b)) ∧ ν = m) := by
  refine bc_enter (by decide) (Nat.le_of_ble_eq_true rfl) rfl ?_
  refine bc_iload_n dX10_both_0 rfl ?_
  refine bc_iconst (v := 2) dX10_both_1 (by decide) ?_
  refine bc_icmp_ne (tgt := 9) dX10_both_2 (by decide) (fun h2 => ?_) (fun h2 => ?_)
  · refine bc_iload_n dX10_both_9 rfl ?_
    refine bc_iconst (v := 3) dX10_both_10 (by decide) ?_
    refine bc_icmp_ne (tgt := 18) dX10_both_11 (by decide) (fun h11 => ?_) (fun h11 => ?_)
    · refine bc_iload_n dX10_both_18 rfl ?_
      refine bc_iconst (v := 4) dX10_both_19 (by decide) ?_
      refine bc_icmp_ne (tgt := 27) dX10_both_20 (by decide) (fun h20 => ?_) (fun h20 => ?_)
      · refine bc_iload_n dX10_both_27 rfl ?_
        refine bc_iconst (v := 5) dX10_both_28 (by decide) ?_
        refine bc_icmp_eq (tgt := 38) dX10_both_29 (by decide) (fun h29 => ?_) (fun h29 => ?_)
        · refine bc_iload_n dX10_both_38 rfl ?_
          refine bc_if_ne (tgt := 46) dX10_both_39 (by decide) (fun h39 => ?_) (fun h39 => ?_)
          · refine bc_iload_n dX10_both_46 rfl ?_
            refine bc_iconst (v := 5) dX10_both_47 (by decide) ?_
            refine bc_icmp_ne (tgt := 57) dX10_both_48 (by decide) (fun h48 => absurd h48 (fun q => q h29)) (fun h48 => ?_)
            refine bc_iload_n dX10_both_51 rfl ?_
            refine bc_iload_n dX10_both_52 rfl ?_
            refine bc_idiv dX10_both_53 (h39) ?_
            refine bc_goto (tgt := 60) dX10_both_54 (by decide) ?_
            exact bc_ireturn dX10_both_60 rfl rfl (⟨by rw [opC, if_neg h2, if_neg h11, if_neg h20, if_pos (.inl h29), if_neg h39, if_pos h29], rfl⟩)
          · refine bc_iconst (v := 0) dX10_both_42 (by decide) ?_
            refine bc_goto (tgt := 60) dX10_both_43 (by decide) ?_
            exact bc_ireturn dX10_both_60 rfl rfl (⟨by rw [opC, if_neg h2, if_neg h11, if_neg h20, if_pos (.inl h29), if_pos h39], rfl⟩)
        · refine bc_iload_n dX10_both_32 rfl ?_
          refine bc_bipush (v := 8) dX10_both_33 (by decide) ?_
          refine bc_icmp_ne (tgt := 61) dX10_both_35 (by decide) (fun h35 => ?_) (fun h35 => ?_)
          · refine bc_iload_n dX10_both_61 rfl ?_
            refine bc_iload_n dX10_both_62 rfl ?_
            refine bc_icmp_ge (tgt := 70) dX10_both_63 (by decide) (fun h63 => ?_) (fun h63 => ?_)
            · refine bc_iconst (v := 0) dX10_both_70 (by decide) ?_
              refine bc_iload_n dX10_both_71 rfl ?_
              refine bc_bipush (v := 6) dX10_both_72 (by decide) ?_
              refine bc_icmp_ne (tgt := 81) dX10_both_74 (by decide) (fun h74 => ?_) (fun h74 => ?_)
              · refine bc_iconst (v := 0) dX10_both_81 (by decide) ?_
                refine bc_icmp_ne (tgt := 89) dX10_both_82 (by decide) (fun h82 => absurd h82 (fun q => q rfl)) (fun h82 => ?_)
                refine bc_iload_n dX10_both_85 rfl ?_
                refine bc_goto (tgt := 90) dX10_both_86 (by decide) ?_
                exact bc_ireturn dX10_both_90 rfl rfl (⟨by rw [opC, if_neg h2, if_neg h11, if_neg h20, if_neg (fun q => q.elim h29 h35), if_pos (iff_of_false (Int32.not_lt.mpr h63) h74)], rfl⟩)
              · refine bc_iconst (v := 1) dX10_both_77 (by decide) ?_
                refine bc_goto (tgt := 82) dX10_both_78 (by decide) ?_
                refine bc_icmp_ne (tgt := 89) dX10_both_82 (by decide) (fun h82 => ?_) (fun h82 => absurd h82 (by decide))
                refine bc_iload_n dX10_both_89 rfl ?_
                exact bc_ireturn dX10_both_90 rfl rfl (⟨by rw [opC, if_neg h2, if_neg h11, if_neg h20, if_neg (fun q => q.elim h29 h35), if_neg (fun q => (Int32.not_lt.mpr h63) (q.mpr h74))], rfl⟩)
            · refine bc_iconst (v := 1) dX10_both_66 (by decide) ?_
              refine bc_goto (tgt := 71) dX10_both_67 (by decide) ?_
              refine bc_iload_n dX10_both_71 rfl ?_
              refine bc_bipush (v := 6) dX10_both_72 (by decide) ?_
              refine bc_icmp_ne (tgt := 81) dX10_both_74 (by decide) (fun h74 => ?_) (fun h74 => ?_)
              · refine bc_iconst (v := 0) dX10_both_81 (by decide) ?_
                refine bc_icmp_ne (tgt := 89) dX10_both_82 (by decide) (fun h82 => ?_) (fun h82 => absurd h82 (by decide))
                refine bc_iload_n dX10_both_89 rfl ?_
                exact bc_ireturn dX10_both_90 rfl rfl (⟨by rw [opC, if_neg h2, if_neg h11, if_neg h20, if_neg (fun q => q.elim h29 h35), if_neg (fun q => h74 (q.mp (Int32.not_le.mp h63)))], rfl⟩)
              · refine bc_iconst (v := 1) dX10_both_77 (by decide) ?_
                refine bc_goto (tgt := 82) dX10_both_78 (by decide) ?_
                refine bc_icmp_ne (tgt := 89) dX10_both_82 (by decide) (fun h82 => absurd h82 (fun q => q rfl)) (fun h82 => ?_)
                refine bc_iload_n dX10_both_85 rfl ?_
                refine bc_goto (tgt := 90) dX10_both_86 (by decide) ?_
                exact bc_ireturn dX10_both_90 rfl rfl (⟨by rw [opC, if_neg h2, if_neg h11, if_neg h20, if_neg (fun q => q.elim h29 h35), if_pos (iff_of_true (Int32.not_le.mp h63) h74)], rfl⟩)
          · refine bc_iload_n dX10_both_38 rfl ?_
            refine bc_if_ne (tgt := 46) dX10_both_39 (by decide) (fun h39 => ?_) (fun h39 => ?_)
            · refine bc_iload_n dX10_both_46 rfl ?_
              refine bc_iconst (v := 5) dX10_both_47 (by decide) ?_
              refine bc_icmp_ne (tgt := 57) dX10_both_48 (by decide) (fun h48 => ?_) (fun h48 => absurd h48 (h29))
              refine bc_iload_n dX10_both_57 rfl ?_
              refine bc_iload_n dX10_both_58 rfl ?_
              refine bc_irem dX10_both_59 (h39) ?_
              exact bc_ireturn dX10_both_60 rfl rfl (⟨by rw [opC, if_neg h2, if_neg h11, if_neg h20, if_pos (.inr h35), if_neg h39, if_neg h29], rfl⟩)
            · refine bc_iconst (v := 0) dX10_both_42 (by decide) ?_
              refine bc_goto (tgt := 60) dX10_both_43 (by decide) ?_
              exact bc_ireturn dX10_both_60 rfl rfl (⟨by rw [opC, if_neg h2, if_neg h11, if_neg h20, if_pos (.inr h35), if_pos h39], rfl⟩)
      · refine bc_iload_n dX10_both_23 rfl ?_
        refine bc_iload_n dX10_both_24 rfl ?_
        refine bc_imul dX10_both_25 ?_
        exact bc_ireturn dX10_both_26 rfl rfl (⟨by rw [opC, if_neg h2, if_neg h11, if_pos h20], rfl⟩)
    · refine bc_iload_n dX10_both_14 rfl ?_
      refine bc_iload_n dX10_both_15 rfl ?_
      refine bc_isub dX10_both_16 ?_
      exact bc_ireturn dX10_both_17 rfl rfl (⟨by rw [opC, if_neg h2, if_pos h11], rfl⟩)
  · refine bc_iload_n dX10_both_5 rfl ?_
    refine bc_iload_n dX10_both_6 rfl ?_
    refine bc_iadd dX10_both_7 ?_
    exact bc_ireturn dX10_both_8 rfl rfl (⟨by rw [opC, if_pos h2], rfl⟩)
theorem opC_opE {s c o a b : Int32} (h : cR s c o) (hs : ¬ s < 1007) : opC c a b = opE s a b := by
  unfold cR at h
  rcases h with h | h | ⟨rfl, rfl⟩ | ⟨rfl, rfl⟩ | ⟨rfl, rfl⟩ | ⟨rfl, rfl⟩ | ⟨rfl, rfl⟩ | ⟨rfl, rfl⟩ | ⟨rfl, rfl⟩
  · exact absurd (Int32.lt_of_lt_of_le h.1 (by decide)) hs
  · exact absurd h.2.1 hs
  · rfl
  · rfl
  · rfl
  · rfl
  · rfl
  · show (if (a < b ↔ (6 : Int32) = 6) then a else b) = if b < a then b else a
    by_cases h1 : a < b
    · rw [if_pos (iff_of_true h1 rfl), if_neg (Int32.not_lt.mpr (Int32.le_of_lt h1))]
    · rw [if_neg (fun q => h1 (q.mpr rfl))]
      by_cases h2 : b < a
      · rw [if_pos h2]
      · rw [if_neg h2]; exact Int32.le_antisymm (Int32.not_lt.mp h1) (Int32.not_lt.mp h2)
  · show (if (a < b ↔ (7 : Int32) = 6) then a else b) = if a < b then b else a
    by_cases h1 : a < b
    · rw [if_neg (fun q => absurd (q.mp h1) (by decide)), if_pos h1]
    · rw [if_pos (iff_of_false h1 (by decide)), if_neg h1]
theorem t_valueNow {S : Nat → Int32} (h35 : m 0 35 = nI n) (hw : wfS S n) (hc : ∀ k, k < n → cR (S k) (m 13 k) (m 14 k)) : bc_C (d + 1) LM mX10_valueNow [.ref 0] m (fun r ν => r = some (.int (evA S (m 16) (m 15) n 0)) ∧ ν = bc_us m 15 (evA S (m 16) (m 15) n)) := by
  refine bc_enter (by decide) (Nat.le_of_ble_eq_true rfl) rfl ?_
  have hn150 := hw.2.1
  have loop : ∀ (c k : Nat) (v : Value), k + c = n → bc_W (d + 1) LM mX10_valueNow 4 [.ref 0, .int (nI (dpS S k)), .int (nI k), v] [] (bc_us m 15 (evA S (m 16) (m 15) k)) (fun r ν => r = some (.int (evA S (m 16) (m 15) n 0)) ∧ ν = bc_us m 15 (evA S (m 16) (m 15) n)) := by
    intro c
    induction c with
    | zero =>
      intro k v hk
      have hk : k = n := by omega
      subst hk
      refine bc_iload_n dX10_valueNow_4 rfl ?_
      refine bc_aload_n dX10_valueNow_5 rfl ?_
      refine bc_geti dX10_valueNow_6 fX10_198 (rfl) rfl ?_
      refine bc_icmp_ge (tgt := 95) dX10_valueNow_9 (by decide) (fun h9 => ?_) (fun h9 => absurd h9 (fun q => q (bx_out h35 (Nat.le_refl _) (by omega))))
      refine bc_aload_n dX10_valueNow_95 rfl ?_
      refine bc_getr dX10_valueNow_96 fX10_59 (rfl) rfl ?_
      refine bc_iconst (v := 0) dX10_valueNow_99 (by decide) ?_
      refine bc_ialdE (k := 0) dX10_valueNow_100 (rfl) (rfl) (⟨by omega, by decide⟩) ?_
      exact bc_ireturn dX10_valueNow_101 rfl rfl (⟨rfl, rfl⟩)
    | succ c ih =>
      intro k v hk
      have hd := dpS_le S k
      obtain ⟨F, hF⟩ : ∃ F, F = evA S (m 16) (m 15) k := ⟨_, rfl⟩
      have hck := hc k (by omega)
      have hwk := hw.2.2 k (by omega)
      have next : ∀ (w : Value) (μ' : bc_M) (t : Nat), t = dpS S (k + 1) → μ' = bc_us m 15 (evA S (m 16) (m 15) (k + 1)) → bc_W (d + 1) LM mX10_valueNow 89 [.ref 0, .int (nI t), .int (nI k), w] [] μ' (fun r ν => r = some (.int (evA S (m 16) (m 15) n 0)) ∧ ν = bc_us m 15 (evA S (m 16) (m 15) n)) := by
        intro w μ' t ht hμ
        subst ht
        subst hμ
        have h2 := ih (k + 1) w (by omega)
        refine bc_iinc1 dX10_valueNow_89 rfl (by decide) rfl ?_
        refine bc_goto (tgt := 4) dX10_valueNow_92 (by decide) ?_
        rw [bn_add1]
        exact h2
      rw [← hF]
      by_cases hlt : S k < 1007
      · have eN : evA S (m 16) (m 15) (k + 1) = upd F (dpS S k) (opd (m 16) (S k)) := by rw [evA, if_pos hlt, hF]
        have eD : dpS S k + 1 = dpS S (k + 1) := by rw [dpS, if_pos hlt]
        by_cases h1000 : S k < 1000
        · have hz : m 13 k = 0 ∧ m 14 k = S k := by
            rcases hck with h | h | ⟨h, -⟩ | ⟨h, -⟩ | ⟨h, -⟩ | ⟨h, -⟩ | ⟨h, -⟩ | ⟨h, -⟩ | ⟨h, -⟩
            · exact h.2
            · exact absurd h1000 h.1
            all_goals (rw [h] at hlt; exact absurd hlt (by decide))
          refine bc_iload_n dX10_valueNow_4 rfl ?_
          refine bc_aload_n dX10_valueNow_5 rfl ?_
          refine bc_geti dX10_valueNow_6 fX10_198 (rfl) rfl ?_
          refine bc_icmp_ge (tgt := 95) dX10_valueNow_9 (by decide) (fun h9 => absurd h9 (bx_in h35 (by omega) (by omega))) (fun h9 => ?_)
          refine bc_aload_n dX10_valueNow_12 rfl ?_
          refine bc_getr dX10_valueNow_13 fX10_53 (rfl) rfl ?_
          refine bc_iload_n dX10_valueNow_16 rfl ?_
          refine bc_ialdE (k := k) dX10_valueNow_17 (rfl) (rfl) (⟨by omega, by decide⟩) ?_
          rw [show bc_us m 15 F 13 k = 0 from hz.1]
          refine bc_istore_n dX10_valueNow_18 (by decide) rfl ?_
          refine bc_iload_n dX10_valueNow_19 rfl ?_
          refine bc_iconst (v := 1) dX10_valueNow_20 (by decide) ?_
          refine bc_icmp_gt (tgt := 60) dX10_valueNow_21 (by decide) (fun h21 => absurd h21 (by decide)) (fun h21 => ?_)
          refine bc_aload_n dX10_valueNow_24 rfl ?_
          refine bc_getr dX10_valueNow_25 fX10_59 (rfl) rfl ?_
          refine bc_iload_n dX10_valueNow_28 rfl ?_
          refine bc_iload_n dX10_valueNow_29 rfl ?_
          refine bc_if_ne (tgt := 42) dX10_valueNow_30 (by decide) (fun h30 => absurd h30 (fun q => q rfl)) (fun h30 => ?_)
          refine bc_aload_n dX10_valueNow_33 rfl ?_
          refine bc_getr dX10_valueNow_34 fX10_56 (rfl) rfl ?_
          refine bc_iload_n dX10_valueNow_37 rfl ?_
          refine bc_ialdE (k := k) dX10_valueNow_38 (rfl) (rfl) (⟨by omega, by decide⟩) ?_
          refine bc_goto (tgt := 53) dX10_valueNow_39 (by decide) ?_
          refine bc_iastE (k := (dpS S k)) dX10_valueNow_53 (rfl) (rfl) (⟨by omega, by decide⟩) ?_
          refine bc_iinc1 dX10_valueNow_54 rfl (by decide) rfl ?_
          refine bc_goto (tgt := 89) dX10_valueNow_57 (by decide) ?_
          rw [bn_add1]
          refine next _ _ _ eD ?_
          rw [bc_us_u, eN, show bc_us m 15 F 14 k = S k from hz.2, opd, if_pos h1000]
        · have hz : m 13 k = 1 ∧ m 14 k = S k - 1000 := by
            rcases hck with h | h | ⟨h, -⟩ | ⟨h, -⟩ | ⟨h, -⟩ | ⟨h, -⟩ | ⟨h, -⟩ | ⟨h, -⟩ | ⟨h, -⟩
            · exact absurd h.1 h1000
            · exact h.2.2
            all_goals (rw [h] at hlt; exact absurd hlt (by decide))
          refine bc_iload_n dX10_valueNow_4 rfl ?_
          refine bc_aload_n dX10_valueNow_5 rfl ?_
          refine bc_geti dX10_valueNow_6 fX10_198 (rfl) rfl ?_
          refine bc_icmp_ge (tgt := 95) dX10_valueNow_9 (by decide) (fun h9 => absurd h9 (bx_in h35 (by omega) (by omega))) (fun h9 => ?_)
          refine bc_aload_n dX10_valueNow_12 rfl ?_
          refine bc_getr dX10_valueNow_13 fX10_53 (rfl) rfl ?_
          refine bc_iload_n dX10_valueNow_16 rfl ?_
          refine bc_ialdE (k := k) dX10_valueNow_17 (rfl) (rfl) (⟨by omega, by decide⟩) ?_
          rw [show bc_us m 15 F 13 k = 1 from hz.1]
          refine bc_istore_n dX10_valueNow_18 (by decide) rfl ?_
          refine bc_iload_n dX10_valueNow_19 rfl ?_
          refine bc_iconst (v := 1) dX10_valueNow_20 (by decide) ?_
          refine bc_icmp_gt (tgt := 60) dX10_valueNow_21 (by decide) (fun h21 => absurd h21 (by decide)) (fun h21 => ?_)
          refine bc_aload_n dX10_valueNow_24 rfl ?_
          refine bc_getr dX10_valueNow_25 fX10_59 (rfl) rfl ?_
          refine bc_iload_n dX10_valueNow_28 rfl ?_
          refine bc_iload_n dX10_valueNow_29 rfl ?_
          refine bc_if_ne (tgt := 42) dX10_valueNow_30 (by decide) (fun h30 => ?_) (fun h30 => absurd h30 (by decide))
          refine bc_aload_n dX10_valueNow_42 rfl ?_
          refine bc_getr dX10_valueNow_43 fX10_62 (rfl) rfl ?_
          refine bc_aload_n dX10_valueNow_46 rfl ?_
          refine bc_getr dX10_valueNow_47 fX10_56 (rfl) rfl ?_
          refine bc_iload_n dX10_valueNow_50 rfl ?_
          refine bc_ialdE (k := k) dX10_valueNow_51 (rfl) (rfl) (⟨by omega, by decide⟩) ?_
          rw [show bc_us m 15 F 14 k = S k - 1000 from hz.2]
          refine bc_iald dX10_valueNow_52 (rfl) (bn_in7 hlt h1000) ?_
          refine bc_iastE (k := (dpS S k)) dX10_valueNow_53 (rfl) (rfl) (⟨by omega, by decide⟩) ?_
          refine bc_iinc1 dX10_valueNow_54 rfl (by decide) rfl ?_
          refine bc_goto (tgt := 89) dX10_valueNow_57 (by decide) ?_
          rw [bn_add1]
          refine next _ _ _ eD ?_
          rw [bc_us_u, eN, opd, if_neg h1000]
          rfl
      · have h2d := (hwk.2 hlt).2
        have eN : evA S (m 16) (m 15) (k + 1) = upd F (dpS S k - 2) (opE (S k) (F (dpS S k - 2)) (F (dpS S k - 1))) := by rw [evA, if_neg hlt, hF]
        have eD : dpS S k - 1 = dpS S (k + 1) := by rw [dpS, if_neg hlt]
        have hz : ¬ m 13 k ≤ 1 := by
          rcases hck with h | h | ⟨-, h⟩ | ⟨-, h⟩ | ⟨-, h⟩ | ⟨-, h⟩ | ⟨-, h⟩ | ⟨-, h⟩ | ⟨-, h⟩
          · exact absurd (Int32.lt_of_lt_of_le h.1 (by decide)) hlt
          · exact absurd h.2.1 hlt
          all_goals (rw [h]; decide)
        refine bc_iload_n dX10_valueNow_4 rfl ?_
        refine bc_aload_n dX10_valueNow_5 rfl ?_
        refine bc_geti dX10_valueNow_6 fX10_198 (rfl) rfl ?_
        refine bc_icmp_ge (tgt := 95) dX10_valueNow_9 (by decide) (fun h9 => absurd h9 (bx_in h35 (by omega) (by omega))) (fun h9 => ?_)
        refine bc_aload_n dX10_valueNow_12 rfl ?_
        refine bc_getr dX10_valueNow_13 fX10_53 (rfl) rfl ?_
        refine bc_iload_n dX10_valueNow_16 rfl ?_
        refine bc_ialdE (k := k) dX10_valueNow_17 (rfl) (rfl) (⟨by omega, by decide⟩) ?_
        refine bc_istore_n dX10_valueNow_18 (by decide) rfl ?_
        refine bc_iload_n dX10_valueNow_19 rfl ?_
        refine bc_iconst (v := 1) dX10_valueNow_20 (by decide) ?_
        refine bc_icmp_gt (tgt := 60) dX10_valueNow_21 (by decide) (fun h21 => ?_) (fun h21 => absurd h21 (fun q => hz (Int32.not_lt.mp q)))
        refine bc_iinc (v := nI (dpS S k - 1)) dX10_valueNow_60 rfl (bn_m1 (by omega)) (by decide) rfl ?_
        refine bc_aload_n dX10_valueNow_63 rfl ?_
        refine bc_getr dX10_valueNow_64 fX10_59 (rfl) rfl ?_
        refine bc_iload_n dX10_valueNow_67 rfl ?_
        refine bc_iconst (v := 1) dX10_valueNow_68 (by decide) ?_
        refine bc_isub dX10_valueNow_69 ?_
        refine bc_iload_n dX10_valueNow_70 rfl ?_
        refine bc_aload_n dX10_valueNow_71 rfl ?_
        refine bc_getr dX10_valueNow_72 fX10_59 (rfl) rfl ?_
        refine bc_iload_n dX10_valueNow_75 rfl ?_
        refine bc_iconst (v := 1) dX10_valueNow_76 (by decide) ?_
        refine bc_isub dX10_valueNow_77 ?_
        refine bc_ialdE (k := (dpS S k - 1) - 1) dX10_valueNow_78 (rfl) (ixS (a := dpS S k - 1) (b := 1) (rfl) (rfl) (by omega)) (⟨by omega, by decide⟩) ?_
        refine bc_aload_n dX10_valueNow_79 rfl ?_
        refine bc_getr dX10_valueNow_80 fX10_59 (rfl) rfl ?_
        refine bc_iload_n dX10_valueNow_83 rfl ?_
        refine bc_ialdE (k := dpS S k - 1) dX10_valueNow_84 (rfl) (rfl) (⟨by omega, by decide⟩) ?_
        refine bc_callS (z := mX10_both) dX10_valueNow_85 lX10_308 qX10_both (by rfl) (by rfl) (Nat.le_of_ble_eq_true rfl) (t_both _ _ _) (fun r85 μ85 e85 => ?_)
        obtain ⟨rfl, q85⟩ := e85
        obtain rfl := q85.symm
        refine bc_iastE (k := (dpS S k - 1) - 1) dX10_valueNow_88 (rfl) (ixS (a := dpS S k - 1) (b := 1) (rfl) (rfl) (by omega)) (⟨by omega, by decide⟩) ?_
        refine next _ _ _ eD ?_
        rw [bc_us_u, eN, show dpS S k - 1 - 1 = dpS S k - 2 by omega]
        show bc_us m 15 (upd F _ (opC (m 13 k) (F (dpS S k - 2)) (F (dpS S k - 1)))) = _
        rw [opC_opE hck hlt]
  refine bc_iconst (v := 0) dX10_valueNow_0 (by decide) ?_
  refine bc_istore_n dX10_valueNow_1 (by decide) rfl ?_
  refine bc_iconst (v := 0) dX10_valueNow_2 (by decide) ?_
  refine bc_istore_n dX10_valueNow_3 (by decide) rfl ?_
  have h2 := loop n 0 .null (by omega)
  rw [show evA S (m 16) (m 15) 0 = m 15 from rfl, bc_us_self] at h2
  exact h2
theorem cl99_by (v : Int32) : (if v < -99 then -99 else if 99 < v then 99 else v) = cl99 v := by
  unfold cl99
  have e1 : (-99 : Int32).toInt = -99 := rfl
  have e2 : (99 : Int32).toInt = 99 := rfl
  by_cases h1 : v < 99
  · rw [if_pos h1]
    rw [if_neg (show ¬ 99 < v by rw [bn_lt] at h1 ⊢; omega)]
    by_cases h2 : -99 < v
    · rw [if_pos h2, if_neg (by rw [bn_lt] at h2 ⊢; omega)]
    · rw [if_neg h2]
      by_cases h3 : v < -99
      · rw [if_pos h3]
      · rw [if_neg h3, bn_eq]; rw [bn_lt] at h2 h3; omega
  · rw [if_neg h1, if_neg (show ¬ v < -99 by rw [bn_lt] at h1 ⊢; omega), if_pos (show (-99 : Int32) < 99 by decide)]
    by_cases h3 : 99 < v
    · rw [if_pos h3]
    · rw [if_neg h3, bn_eq]; rw [bn_lt] at h1 h3; omega
def fstS : Nat → Int32
  | 0 => 1000 | 1 => 1001 | 2 => 1009 | 3 => 10 | 4 => 1010 | 5 => 1004 | _ => 1008
theorem fst_ev (F z : Nat → Int32) : evA fstS F z 7 0 = F 0 * F 1 / 10 - F 4 := by rfl
theorem fst_S (h : ∀ i x, fstL[i]? = some x → M 20 i = nI x) : ∀ i, i < 7 → M 20 i = fstS i := by
  intro i hi
  have hc : i = 0 ∨ i = 1 ∨ i = 2 ∨ i = 3 ∨ i = 4 ∨ i = 5 ∨ i = 6 := by omega
  rcases hc with rfl | rfl | rfl | rfl | rfl | rfl | rfl <;> exact h _ _ rfl
theorem lawV_F {S F F' : Nat → Int32} (hw : wfS S n) (h : ∀ k, k < 7 → F k = F' k) : lawV S n F = lawV S n F' := by
  unfold lawV
  rw [evA_val hw h]
theorem t_leanNow (hl : lawB M n) (hL : mLaw M m n) : bc_C (d + 2) LM mX10_leanNow [.ref 0] m (fun r ν => r = some (.int (lawV (M 20) n (m 16))) ∧ ∃ h, ν = bc_us m 15 h) := by
  refine bc_enter (by decide) (Nat.le_of_ble_eq_true rfl) rfl ?_
  have fin : ∀ (v : Int32) (μ' : bc_M) (w : Value), cl99 v = lawV (M 20) n (m 16) → (∃ h, μ' = bc_us m 15 h) → bc_W (d + 2) LM mX10_leanNow 37 [.ref 0, w] [.int v] μ' (fun r ν => r = some (.int (lawV (M 20) n (m 16))) ∧ ∃ h, ν = bc_us m 15 h) := by
    intro v μ' w hv hμ
    rw [← hv, ← cl99_by]
    refine bc_istore_n dX10_leanNow_37 (by decide) rfl ?_
    refine bc_iload_n dX10_leanNow_38 rfl ?_
    refine bc_bipush (v := (-99)) dX10_leanNow_39 (by decide) ?_
    refine bc_icmp_ge (tgt := 49) dX10_leanNow_41 (by decide) (fun h41 => ?_) (fun h41 => ?_)
    · refine bc_iload_n dX10_leanNow_49 rfl ?_
      refine bc_bipush (v := 99) dX10_leanNow_50 (by decide) ?_
      refine bc_icmp_le (tgt := 60) dX10_leanNow_52 (by decide) (fun h52 => ?_) (fun h52 => ?_)
      · refine bc_iload_n dX10_leanNow_60 rfl ?_
        exact bc_ireturn dX10_leanNow_61 rfl rfl (⟨by rw [if_neg (Int32.not_lt.mpr h41), if_neg (Int32.not_lt.mpr h52)], hμ⟩)
      · refine bc_bipush (v := 99) dX10_leanNow_55 (by decide) ?_
        refine bc_goto (tgt := 61) dX10_leanNow_57 (by decide) ?_
        exact bc_ireturn dX10_leanNow_61 rfl rfl (⟨by rw [if_neg (Int32.not_lt.mpr h41), if_pos (Int32.not_le.mp h52)], hμ⟩)
    · refine bc_bipush (v := (-99)) dX10_leanNow_44 (by decide) ?_
      refine bc_goto (tgt := 61) dX10_leanNow_46 (by decide) ?_
      exact bc_ireturn dX10_leanNow_61 rfl rfl (⟨by rw [if_pos (Int32.not_le.mp h41)], hμ⟩)
  rcases hL with ⟨h35, h7, hS⟩ | ⟨h35, hc⟩
  · subst h7
    refine bc_aload_n dX10_leanNow_0 rfl ?_
    refine bc_geti dX10_leanNow_1 fX10_198 (rfl) rfl ?_
    refine bc_if_ne (tgt := 33) dX10_leanNow_4 (by decide) (fun h4 => absurd h4 (fun q => q h35)) (fun h4 => ?_)
    refine bc_aload_n dX10_leanNow_7 rfl ?_
    refine bc_getr dX10_leanNow_8 fX10_62 (rfl) rfl ?_
    refine bc_iconst (v := 0) dX10_leanNow_11 (by decide) ?_
    refine bc_ialdE (k := 0) dX10_leanNow_12 (rfl) (rfl) (⟨by omega, by decide⟩) ?_
    refine bc_aload_n dX10_leanNow_13 rfl ?_
    refine bc_getr dX10_leanNow_14 fX10_62 (rfl) rfl ?_
    refine bc_iconst (v := 1) dX10_leanNow_17 (by decide) ?_
    refine bc_ialdE (k := 1) dX10_leanNow_18 (rfl) (rfl) (⟨by omega, by decide⟩) ?_
    refine bc_imul dX10_leanNow_19 ?_
    refine bc_bipush (v := 10) dX10_leanNow_20 (by decide) ?_
    refine bc_idiv dX10_leanNow_22 (by decide) ?_
    refine bc_aload_n dX10_leanNow_23 rfl ?_
    refine bc_getr dX10_leanNow_24 fX10_62 (rfl) rfl ?_
    refine bc_iconst (v := 4) dX10_leanNow_27 (by decide) ?_
    refine bc_ialdE (k := 4) dX10_leanNow_28 (rfl) (rfl) (⟨by omega, by decide⟩) ?_
    refine bc_isub dX10_leanNow_29 ?_
    refine bc_goto (tgt := 37) dX10_leanNow_30 (by decide) ?_
    refine fin _ _ _ ?_ ⟨m 15, (bc_us_self m 15).symm⟩
    unfold lawV
    rw [evA_cg 7 (fst_S hS), fst_ev]
  · have hn1 := hl.2.1
    have hn2 := hl.2.2.1
    refine bc_aload_n dX10_leanNow_0 rfl ?_
    refine bc_geti dX10_leanNow_1 fX10_198 (rfl) rfl ?_
    refine bc_if_ne (tgt := 33) dX10_leanNow_4 (by decide) (fun h4 => ?_) (fun h4 => absurd h4 (by rw [h35, show (0 : Int32) = nI 0 from rfl, bn_eqN (by omega) (by omega)]; omega))
    refine bc_aload_n dX10_leanNow_33 rfl ?_
    refine bc_callV (z := mX10_valueNow) (ci := 10) dX10_leanNow_34 lX10_312 qX10_valueNow (by rfl) (by rfl) (by rfl) (by rfl) (Nat.le_of_ble_eq_true rfl) (t_valueNow h35 hl.2 hc) (fun r34 μ34 e34 => ?_)
    obtain ⟨rfl, q34⟩ := e34
    obtain rfl := q34.symm
    refine fin _ _ _ ?_ ⟨_, rfl⟩
    unfold lawV
    rw [evA_val hl.2 (fun _ _ => rfl)]
theorem t_leanOf (hl : lawB M n) (hL : mLaw M m n) (a0 a1 a2 a3 a4 a5 a6 : Int32) : bc_C (d + 3) LM mX10_leanOf [.ref 0, .int a0, .int a1, .int a2, .int a3, .int a4, .int a5, .int a6] m (fun r ν => r = some (.int (lawV (M 20) n (fcs a0 a1 a2 a3 a4 a5 a6))) ∧ ∀ i, i ≠ 15 → i ≠ 16 → ν i = m i) := by
  refine bc_enter (by decide) (Nat.le_of_ble_eq_true rfl) rfl ?_
  refine bc_aload_n dX10_leanOf_0 rfl ?_
  refine bc_getr dX10_leanOf_1 fX10_62 (rfl) rfl ?_
  refine bc_iconst (v := 0) dX10_leanOf_4 (by decide) ?_
  refine bc_iload_n dX10_leanOf_5 rfl ?_
  refine bc_iastE (k := 0) dX10_leanOf_6 (rfl) (rfl) (⟨by omega, by decide⟩) ?_
  refine bc_aload_n dX10_leanOf_7 rfl ?_
  refine bc_getr dX10_leanOf_8 fX10_62 (rfl) rfl ?_
  refine bc_iconst (v := 1) dX10_leanOf_11 (by decide) ?_
  refine bc_iload_n dX10_leanOf_12 rfl ?_
  refine bc_iastE (k := 1) dX10_leanOf_13 (rfl) (rfl) (⟨by omega, by decide⟩) ?_
  refine bc_aload_n dX10_leanOf_14 rfl ?_
  refine bc_getr dX10_leanOf_15 fX10_62 (rfl) rfl ?_
  refine bc_iconst (v := 2) dX10_leanOf_18 (by decide) ?_
  refine bc_iload_n dX10_leanOf_19 rfl ?_
  refine bc_iastE (k := 2) dX10_leanOf_20 (rfl) (rfl) (⟨by omega, by decide⟩) ?_
  refine bc_aload_n dX10_leanOf_21 rfl ?_
  refine bc_getr dX10_leanOf_22 fX10_62 (rfl) rfl ?_
  refine bc_iconst (v := 3) dX10_leanOf_25 (by decide) ?_
  refine bc_iload dX10_leanOf_26 rfl ?_
  refine bc_iastE (k := 3) dX10_leanOf_28 (rfl) (rfl) (⟨by omega, by decide⟩) ?_
  refine bc_aload_n dX10_leanOf_29 rfl ?_
  refine bc_getr dX10_leanOf_30 fX10_62 (rfl) rfl ?_
  refine bc_iconst (v := 4) dX10_leanOf_33 (by decide) ?_
  refine bc_iload dX10_leanOf_34 rfl ?_
  refine bc_iastE (k := 4) dX10_leanOf_36 (rfl) (rfl) (⟨by omega, by decide⟩) ?_
  refine bc_aload_n dX10_leanOf_37 rfl ?_
  refine bc_getr dX10_leanOf_38 fX10_62 (rfl) rfl ?_
  refine bc_iconst (v := 5) dX10_leanOf_41 (by decide) ?_
  refine bc_iload dX10_leanOf_42 rfl ?_
  refine bc_iastE (k := 5) dX10_leanOf_44 (rfl) (rfl) (⟨by omega, by decide⟩) ?_
  refine bc_aload_n dX10_leanOf_45 rfl ?_
  refine bc_getr dX10_leanOf_46 fX10_62 (rfl) rfl ?_
  refine bc_bipush (v := 6) dX10_leanOf_49 (by decide) ?_
  refine bc_iload dX10_leanOf_51 rfl ?_
  refine bc_iastE (k := 6) dX10_leanOf_53 (rfl) (rfl) (⟨by omega, by decide⟩) ?_
  refine bc_aload_n dX10_leanOf_54 rfl ?_
  refine bc_callV (z := mX10_leanNow) (ci := 10) dX10_leanOf_55 lX10_352 qX10_leanNow (by rfl) (by rfl) (by rfl) (by rfl) (Nat.le_of_ble_eq_true rfl) (t_leanNow hl hL) (fun r55 μ55 e55 => ?_)
  obtain ⟨rfl, h9, rfl⟩ := e55
  exact bc_ireturn dX10_leanOf_58 rfl rfl (⟨by
rw [lawV_F hl.2 (F' := fcs a0 a1 a2 a3 a4 a5 a6)]
intro k hk
have hc : k = 0 ∨ k = 1 ∨ k = 2 ∨ k = 3 ∨ k = 4 ∨ k = 5 ∨ k = 6 := by omega
rcases hc with rfl | rfl | rfl | rfl | rfl | rfl | rfl <;> rfl, fun i h1 h2 => by simp only [bc_us, bc_u, h1, h2, if_false]⟩)
/-! smells -/
def loF (M : bc_M) (A : Row) (q w o : Nat) : Int32 := if A (o + 6) = 0 ∨ (M 6 o = nI q ↔ w = 1) then 0 else if w = 2 then 1 else M 7 o
theorem t_litOf {q w : Nat} (hE : mEnv M m n no nq nr nm) (hs : sR A (m 20)) (hw : w ≤ 2) : bc_C d LM mX10_litOf [.ref 0, .int (nI q), .int (nI w)] m (fun r ν => r = some (.int (sm no (loF M A q w))) ∧ ν = m) := by
  refine bc_enter (by decide) (Nat.le_of_ble_eq_true rfl) rfl ?_
  have h8 := hE.o8
  have hno := hE.2.1.2.1
  have loop : ∀ (c k : Nat), k + c = no → bc_W d LM mX10_litOf 5 [.ref 0, .int (nI q), .int (nI w), .int (sm k (loF M A q w)), .int (nI k)] [] m (fun r ν => r = some (.int (sm no (loF M A q w))) ∧ ν = m) := by
    intro c
    induction c with
    | zero =>
      intro k hk
      have hk : k = no := by omega
      subst hk
      refine bc_iload dX10_litOf_5 rfl ?_
      refine bc_aload_n dX10_litOf_7 rfl ?_
      refine bc_geti dX10_litOf_8 fX10_185 (rfl) rfl ?_
      refine bc_icmp_ge (tgt := 89) dX10_litOf_11 (by decide) (fun h11 => ?_) (fun h11 => absurd h11 (fun q => q (bx_out hno (Nat.le_refl _) (by omega))))
      refine bc_iload_n dX10_litOf_89 rfl ?_
      exact bc_ireturn dX10_litOf_90 rfl rfl (⟨rfl, rfl⟩)
    | succ c ih =>
      intro k hk
      have e8 := (hE.2.2.2.2.1 k (by omega)).1
      have e9 := (hE.2.2.2.2.1 k (by omega)).2
      have es := hs.1 k (by omega)
      have w1 : nI w = 1 → w = 1 := fun e => (bn_eqN (b := 1) (by omega) (by omega)).mp e
      have w2 : nI w = 2 → w = 2 := fun e => (bn_eqN (b := 2) (by omega) (by omega)).mp e
      have add : ∀ v, loF M A q w k = v → bc_W d LM mX10_litOf 83 [.ref 0, .int (nI q), .int (nI w), .int (sm k (loF M A q w) + v), .int (nI k)] [] m (fun r ν => r = some (.int (sm no (loF M A q w))) ∧ ν = m) := by
        intro v hv
        have h2 := ih (k + 1) (by omega)
        rw [show sm (k + 1) (loF M A q w) = sm k (loF M A q w) + v by rw [sm, hv]] at h2
        refine bc_iinc1 dX10_litOf_83 rfl (by decide) rfl ?_
        refine bc_goto (tgt := 5) dX10_litOf_86 (by decide) ?_
        rw [bn_add1]
        exact h2
      have skip : loF M A q w k = 0 → bc_W d LM mX10_litOf 83 [.ref 0, .int (nI q), .int (nI w), .int (sm k (loF M A q w)), .int (nI k)] [] m (fun r ν => r = some (.int (sm no (loF M A q w))) ∧ ν = m) := by
        intro hv
        have h2 := add 0 hv
        rw [Int32.add_zero] at h2
        exact h2
      refine bc_iload dX10_litOf_5 rfl ?_
      refine bc_aload_n dX10_litOf_7 rfl ?_
      refine bc_geti dX10_litOf_8 fX10_185 (rfl) rfl ?_
      refine bc_icmp_ge (tgt := 89) dX10_litOf_11 (by decide) (fun h11 => absurd h11 (bx_in hno (by omega) (by omega))) (fun h11 => ?_)
      refine bc_aload_n dX10_litOf_14 rfl ?_
      refine bc_getr dX10_litOf_15 fX10_74 (rfl) rfl ?_
      refine bc_iconst (v := 0) dX10_litOf_18 (by decide) ?_
      refine bc_iload dX10_litOf_19 rfl ?_
      refine bc_iadd dX10_litOf_21 ?_
      refine bc_ialdE (k := k) dX10_litOf_22 (rfl) (ix0 (rfl)) (⟨by omega, by decide⟩) ?_
      refine bc_if_eq (tgt := 83) dX10_litOf_23 (by decide) (fun h23 => ?_) (fun h23 => ?_)
      · exact skip (if_pos (.inl (es.symm.trans h23)))
      · refine bc_aload_n dX10_litOf_26 rfl ?_
        refine bc_getr dX10_litOf_27 fX10_38 (rfl) rfl ?_
        refine bc_iconst (v := 2) dX10_litOf_30 (by decide) ?_
        refine bc_iload dX10_litOf_31 rfl ?_
        refine bc_imul dX10_litOf_33 ?_
        refine bc_ialdE (k := 2 * k) dX10_litOf_34 (rfl) (ixM (a := 2) (b := k) (rfl) (rfl)) (⟨by omega, by decide⟩) ?_
        refine bc_iload_n dX10_litOf_35 rfl ?_
        refine bc_icmp_ne (tgt := 43) dX10_litOf_36 (by decide) (fun h36 => ?_) (fun h36 => ?_)
        · refine bc_iconst (v := 0) dX10_litOf_43 (by decide) ?_
          refine bc_iload_n dX10_litOf_44 rfl ?_
          refine bc_iconst (v := 1) dX10_litOf_45 (by decide) ?_
          refine bc_icmp_ne (tgt := 53) dX10_litOf_46 (by decide) (fun h46 => ?_) (fun h46 => ?_)
          · refine bc_iconst (v := 0) dX10_litOf_53 (by decide) ?_
            refine bc_icmp_ne (tgt := 60) dX10_litOf_54 (by decide) (fun h54 => absurd h54 (fun q => q rfl)) (fun h54 => ?_)
            refine bc_goto (tgt := 83) dX10_litOf_57 (by decide) ?_
            exact skip (if_pos (.inr (iff_of_false (fun e => h36 (e8.trans e)) (fun e => h46 (by rw [e]; rfl)))))
          · refine bc_iconst (v := 1) dX10_litOf_49 (by decide) ?_
            refine bc_goto (tgt := 54) dX10_litOf_50 (by decide) ?_
            refine bc_icmp_ne (tgt := 60) dX10_litOf_54 (by decide) (fun h54 => ?_) (fun h54 => absurd h54 (by decide))
            refine bc_iload_n dX10_litOf_60 rfl ?_
            refine bc_iload_n dX10_litOf_61 rfl ?_
            refine bc_iconst (v := 2) dX10_litOf_62 (by decide) ?_
            refine bc_icmp_ne (tgt := 70) dX10_litOf_63 (by decide) (fun h63 => ?_) (fun h63 => ?_)
            · refine bc_aload_n dX10_litOf_70 rfl ?_
              refine bc_getr dX10_litOf_71 fX10_38 (rfl) rfl ?_
              refine bc_iconst (v := 2) dX10_litOf_74 (by decide) ?_
              refine bc_iload dX10_litOf_75 rfl ?_
              refine bc_imul dX10_litOf_77 ?_
              refine bc_iconst (v := 1) dX10_litOf_78 (by decide) ?_
              refine bc_iadd dX10_litOf_79 ?_
              refine bc_ialdE (k := (2 * k) + 1) dX10_litOf_80 (rfl) (ixA (a := 2 * k) (b := 1) (ixM (a := 2) (b := k) (rfl) (rfl)) (rfl)) (⟨by omega, by decide⟩) ?_
              refine bc_iadd dX10_litOf_81 ?_
              refine bc_istore_n dX10_litOf_82 (by decide) rfl ?_
              exact add _ (by rw [loF, if_neg (fun z => z.elim (fun e => h23 (es.trans e)) (fun e => h36 (e8.trans (e.mpr (w1 h46))))), if_neg (fun e => h63 (by rw [e]; rfl)), e9])
            · refine bc_iconst (v := 1) dX10_litOf_66 (by decide) ?_
              refine bc_goto (tgt := 81) dX10_litOf_67 (by decide) ?_
              refine bc_iadd dX10_litOf_81 ?_
              refine bc_istore_n dX10_litOf_82 (by decide) rfl ?_
              exact add _ (by rw [loF, if_neg (fun z => z.elim (fun e => h23 (es.trans e)) (fun e => h36 (e8.trans (e.mpr (w1 h46))))), if_pos (w2 h63)])
        · refine bc_iconst (v := 1) dX10_litOf_39 (by decide) ?_
          refine bc_goto (tgt := 44) dX10_litOf_40 (by decide) ?_
          refine bc_iload_n dX10_litOf_44 rfl ?_
          refine bc_iconst (v := 1) dX10_litOf_45 (by decide) ?_
          refine bc_icmp_ne (tgt := 53) dX10_litOf_46 (by decide) (fun h46 => ?_) (fun h46 => ?_)
          · refine bc_iconst (v := 0) dX10_litOf_53 (by decide) ?_
            refine bc_icmp_ne (tgt := 60) dX10_litOf_54 (by decide) (fun h54 => ?_) (fun h54 => absurd h54 (by decide))
            refine bc_iload_n dX10_litOf_60 rfl ?_
            refine bc_iload_n dX10_litOf_61 rfl ?_
            refine bc_iconst (v := 2) dX10_litOf_62 (by decide) ?_
            refine bc_icmp_ne (tgt := 70) dX10_litOf_63 (by decide) (fun h63 => ?_) (fun h63 => ?_)
            · refine bc_aload_n dX10_litOf_70 rfl ?_
              refine bc_getr dX10_litOf_71 fX10_38 (rfl) rfl ?_
              refine bc_iconst (v := 2) dX10_litOf_74 (by decide) ?_
              refine bc_iload dX10_litOf_75 rfl ?_
              refine bc_imul dX10_litOf_77 ?_
              refine bc_iconst (v := 1) dX10_litOf_78 (by decide) ?_
              refine bc_iadd dX10_litOf_79 ?_
              refine bc_ialdE (k := (2 * k) + 1) dX10_litOf_80 (rfl) (ixA (a := 2 * k) (b := 1) (ixM (a := 2) (b := k) (rfl) (rfl)) (rfl)) (⟨by omega, by decide⟩) ?_
              refine bc_iadd dX10_litOf_81 ?_
              refine bc_istore_n dX10_litOf_82 (by decide) rfl ?_
              exact add _ (by rw [loF, if_neg (fun z => z.elim (fun e => h23 (es.trans e)) (fun e => h46 (by rw [e.mp (e8.symm.trans h36)]; rfl))), if_neg (fun e => h63 (by rw [e]; rfl)), e9])
            · refine bc_iconst (v := 1) dX10_litOf_66 (by decide) ?_
              refine bc_goto (tgt := 81) dX10_litOf_67 (by decide) ?_
              refine bc_iadd dX10_litOf_81 ?_
              refine bc_istore_n dX10_litOf_82 (by decide) rfl ?_
              exact add _ (by rw [loF, if_neg (fun z => z.elim (fun e => h23 (es.trans e)) (fun e => h46 (by rw [e.mp (e8.symm.trans h36)]; rfl))), if_pos (w2 h63)])
          · refine bc_iconst (v := 1) dX10_litOf_49 (by decide) ?_
            refine bc_goto (tgt := 54) dX10_litOf_50 (by decide) ?_
            refine bc_icmp_ne (tgt := 60) dX10_litOf_54 (by decide) (fun h54 => absurd h54 (fun q => q rfl)) (fun h54 => ?_)
            refine bc_goto (tgt := 83) dX10_litOf_57 (by decide) ?_
            exact skip (if_pos (.inr (iff_of_true (e8.symm.trans h36) (w1 h46))))
  refine bc_iconst (v := 0) dX10_litOf_0 (by decide) ?_
  refine bc_istore_n dX10_litOf_1 (by decide) rfl ?_
  refine bc_iconst (v := 0) dX10_litOf_2 (by decide) ?_
  refine bc_istore dX10_litOf_3 (by decide) rfl ?_
  exact loop no 0 (by omega)
theorem lo_0 (hA : okA no A) (h8 : no ≤ 8) (q : Nat) : sm no (loF M A q 0) = mB no (M 6) (M 7) (litA no A) (nI q) := by
  unfold mB
  refine sm_cg no (fun o ho => ?_)
  have hb := litA_bit hA h8 ho
  unfold loF
  by_cases h1 : A (o + 6) = 0
  · rw [if_pos (.inl h1), if_neg (fun z => hb.mp z.1 h1)]
  · by_cases h2 : M 6 o = nI q
    · rw [if_neg (fun z => z.elim h1 (fun e => absurd (e.mp h2) (by decide))), if_neg (by decide), if_pos ⟨hb.mpr h1, h2⟩]
    · rw [if_pos (.inr (iff_of_false h2 (by decide))), if_neg (fun z => h2 z.2)]
theorem lo_2 (hA : okA no A) (h8 : no ≤ 8) (q : Nat) : sm no (loF M A q 2) = mN no (M 6) (litA no A) (nI q) := by
  unfold mN
  refine sm_cg no (fun o ho => ?_)
  have hb := litA_bit hA h8 ho
  unfold loF
  by_cases h1 : A (o + 6) = 0
  · rw [if_pos (.inl h1), if_neg (fun z => hb.mp z.1 h1)]
  · by_cases h2 : M 6 o = nI q
    · rw [if_neg (fun z => z.elim h1 (fun e => absurd (e.mp h2) (by decide))), if_pos rfl, if_pos ⟨hb.mpr h1, h2⟩]
    · rw [if_pos (.inr (iff_of_false h2 (by decide))), if_neg (fun z => h2 z.2)]
theorem lo_1 (hA : okA no A) (h8 : no ≤ 8) (q : Nat) : sm no (loF M A q 1) = mA no (M 7) (litA no A) - mB no (M 6) (M 7) (litA no A) (nI q) := by
  unfold mB mA
  refine sm_sub no (fun o ho => ?_)
  have hb := litA_bit hA h8 ho
  unfold loF
  by_cases h1 : A (o + 6) = 0
  · rw [if_pos (.inl h1), if_neg (fun z => hb.mp z h1), if_neg (fun z => hb.mp z.1 h1), Int32.sub_zero]
  · rw [if_pos (c := litA no A >>> (nI o &&& 31) &&& 1 = 1) (hb.mpr h1)]
    by_cases h2 : M 6 o = nI q
    · rw [if_pos (.inr (iff_of_true h2 rfl)), if_pos ⟨hb.mpr h1, h2⟩, Int32.sub_self]
    · rw [if_neg (fun z => z.elim h1 (fun e => h2 (e.mpr rfl))), if_neg (by decide), if_neg (fun z => h2 z.2), Int32.sub_zero]
abbrev lnA (M : bc_M) (n no : Nat) (A : Row) (q : Nat) : Int32 := mL (plug M A) 31 n no (litA no A) (A 2) q
theorem lnA_v {q : Nat} (hq : q < 6) : lnA M n no A q = lawV (M 20) n (fcs (mB no (M 6) (M 7) (litA no A) (nI q)) (half (M 5 q) (A 5 >>> (nI q &&& 31) &&& 1)) (mN no (M 6) (litA no A) (nI q)) (mA no (M 7) (litA no A) - mB no (M 6) (M 7) (litA no A) (nI q)) (A (q + 22)) (M 4 q) (A 2)) := by
  have e : ∀ i j, i < 31 → plug M A i j = M i j := fun i j hi => by unfold plug; rw [if_neg (by omega), if_neg (by omega), if_neg (by omega), if_neg (by omega)]
  have e6 : plug M A 6 = M 6 := funext fun j => e 6 j (by omega)
  have e7 : plug M A 7 = M 7 := funext fun j => e 7 j (by omega)
  have e20 : plug M A 20 = M 20 := funext fun j => e 20 j (by omega)
  have e31 : plug M A 31 7 = A 5 := by unfold plug; rw [if_pos (by omega)]
  have e34 : plug M A (31 + 3) q = A (q + 22) := by unfold plug; rw [if_neg (by omega), if_neg (by omega), if_neg (by omega), if_pos (by omega)]
  unfold lnA mL
  rw [e6, e7, e20, e31, e34, e 5 q (by omega), e 4 q (by omega)]
theorem t_leanBy {q : Nat} (hE : mEnv M m n no nq nr nm) (hs : sR A (m 20)) (hA : okA no A) (hq : q < nq) : bc_C (d + 4) LM mX10_leanBy [.ref 0, .int (nI q)] m (fun r ν => r = some (.int (lnA M n no A q)) ∧ ∀ i, i ≠ 15 → i ≠ 16 → ν i = m i) := by
  refine bc_enter (by decide) (Nat.le_of_ble_eq_true rfl) rfl ?_
  have h8 := hE.o8
  have h6 := hE.q6
  have eq := hE.2.2.2.1 q hq
  rw [lnA_v (by omega), ← lo_1 hA h8, ← lo_0 hA h8, ← lo_2 hA h8, ← hs.2.2.1 q (by omega), ← eq.1, ← hs.2.2.2.2.2.2.2.2, ← hs.2.2.2.1 q (by omega), ← eq.2]
  refine bc_aload_n dX10_leanBy_0 rfl ?_
  refine bc_getr dX10_leanBy_1 fX10_35 (rfl) rfl ?_
  refine bc_iconst (v := 2) dX10_leanBy_4 (by decide) ?_
  refine bc_iload_n dX10_leanBy_5 rfl ?_
  refine bc_imul dX10_leanBy_6 ?_
  refine bc_iconst (v := 1) dX10_leanBy_7 (by decide) ?_
  refine bc_iadd dX10_leanBy_8 ?_
  refine bc_ialdE (k := (2 * q) + 1) dX10_leanBy_9 (rfl) (ixA (a := 2 * q) (b := 1) (ixM (a := 2) (b := q) (rfl) (rfl)) (rfl)) (⟨by omega, by decide⟩) ?_
  refine bc_istore_n dX10_leanBy_10 (by decide) rfl ?_
  refine bc_aload_n dX10_leanBy_11 rfl ?_
  refine bc_aload_n dX10_leanBy_12 rfl ?_
  refine bc_iload_n dX10_leanBy_13 rfl ?_
  refine bc_iconst (v := 0) dX10_leanBy_14 (by decide) ?_
  refine bc_callV (z := mX10_litOf) (ci := 10) dX10_leanBy_15 lX10_355 qX10_litOf (by rfl) (by rfl) (by rfl) (by rfl) (Nat.le_of_ble_eq_true rfl) (t_litOf (w := 0) hE hs (by omega)) (fun r15 μ15 e15 => ?_)
  obtain ⟨rfl, q15⟩ := e15
  obtain rfl := q15.symm
  refine bc_aload_n dX10_leanBy_18 rfl ?_
  refine bc_getr dX10_leanBy_19 fX10_74 (rfl) rfl ?_
  refine bc_bipush (v := 22) dX10_leanBy_22 (by decide) ?_
  refine bc_iload_n dX10_leanBy_24 rfl ?_
  refine bc_iadd dX10_leanBy_25 ?_
  refine bc_ialdE (k := 22 + q) dX10_leanBy_26 (rfl) (ixA (a := 22) (b := q) (rfl) (rfl)) (⟨by omega, by decide⟩) ?_
  refine bc_iconst (v := 1) dX10_leanBy_27 (by decide) ?_
  refine bc_icmp_ne (tgt := 37) dX10_leanBy_28 (by decide) (fun h28 => ?_) (fun h28 => ?_)
  · refine bc_iload_n dX10_leanBy_37 rfl ?_
    refine bc_aload_n dX10_leanBy_38 rfl ?_
    refine bc_iload_n dX10_leanBy_39 rfl ?_
    refine bc_iconst (v := 2) dX10_leanBy_40 (by decide) ?_
    refine bc_callV (z := mX10_litOf) (ci := 10) dX10_leanBy_41 lX10_355 qX10_litOf (by rfl) (by rfl) (by rfl) (by rfl) (Nat.le_of_ble_eq_true rfl) (t_litOf (w := 2) hE hs (by omega)) (fun r41 μ41 e41 => ?_)
    obtain ⟨rfl, q41⟩ := e41
    obtain rfl := q41.symm
    refine bc_aload_n dX10_leanBy_44 rfl ?_
    refine bc_iload_n dX10_leanBy_45 rfl ?_
    refine bc_iconst (v := 1) dX10_leanBy_46 (by decide) ?_
    refine bc_callV (z := mX10_litOf) (ci := 10) dX10_leanBy_47 lX10_355 qX10_litOf (by rfl) (by rfl) (by rfl) (by rfl) (Nat.le_of_ble_eq_true rfl) (t_litOf (w := 1) hE hs (by omega)) (fun r47 μ47 e47 => ?_)
    obtain ⟨rfl, q47⟩ := e47
    obtain rfl := q47.symm
    refine bc_aload_n dX10_leanBy_50 rfl ?_
    refine bc_getr dX10_leanBy_51 fX10_74 (rfl) rfl ?_
    refine bc_bipush (v := 16) dX10_leanBy_54 (by decide) ?_
    refine bc_iload_n dX10_leanBy_56 rfl ?_
    refine bc_iadd dX10_leanBy_57 ?_
    refine bc_ialdE (k := 16 + q) dX10_leanBy_58 (rfl) (ixA (a := 16) (b := q) (rfl) (rfl)) (⟨by omega, by decide⟩) ?_
    refine bc_aload_n dX10_leanBy_59 rfl ?_
    refine bc_getr dX10_leanBy_60 fX10_35 (rfl) rfl ?_
    refine bc_iconst (v := 2) dX10_leanBy_63 (by decide) ?_
    refine bc_iload_n dX10_leanBy_64 rfl ?_
    refine bc_imul dX10_leanBy_65 ?_
    refine bc_ialdE (k := 2 * q) dX10_leanBy_66 (rfl) (ixM (a := 2) (b := q) (rfl) (rfl)) (⟨by omega, by decide⟩) ?_
    refine bc_aload_n dX10_leanBy_67 rfl ?_
    refine bc_getr dX10_leanBy_68 fX10_74 (rfl) rfl ?_
    refine bc_bipush (v := 32) dX10_leanBy_71 (by decide) ?_
    refine bc_ialdE (k := 32) dX10_leanBy_73 (rfl) (rfl) (⟨by omega, by decide⟩) ?_
    refine bc_callV (z := mX10_leanOf) (ci := 10) dX10_leanBy_74 lX10_358 qX10_leanOf (by rfl) (by rfl) (by rfl) (by rfl) (Nat.le_of_ble_eq_true rfl) (t_leanOf hE.1.2.2 hE.2.2.2.2.2.2.2 _ _ _ _ _ _ _) (fun r74 μ74 e74 => ?_)
    obtain ⟨rfl, h9⟩ := e74
    exact bc_ireturn dX10_leanBy_77 rfl rfl (⟨by rw [half, if_neg h28], h9⟩)
  · refine bc_iload_n dX10_leanBy_31 rfl ?_
    refine bc_iconst (v := 2) dX10_leanBy_32 (by decide) ?_
    refine bc_idiv dX10_leanBy_33 (by decide) ?_
    refine bc_goto (tgt := 38) dX10_leanBy_34 (by decide) ?_
    refine bc_aload_n dX10_leanBy_38 rfl ?_
    refine bc_iload_n dX10_leanBy_39 rfl ?_
    refine bc_iconst (v := 2) dX10_leanBy_40 (by decide) ?_
    refine bc_callV (z := mX10_litOf) (ci := 10) dX10_leanBy_41 lX10_355 qX10_litOf (by rfl) (by rfl) (by rfl) (by rfl) (Nat.le_of_ble_eq_true rfl) (t_litOf (w := 2) hE hs (by omega)) (fun r41 μ41 e41 => ?_)
    obtain ⟨rfl, q41⟩ := e41
    obtain rfl := q41.symm
    refine bc_aload_n dX10_leanBy_44 rfl ?_
    refine bc_iload_n dX10_leanBy_45 rfl ?_
    refine bc_iconst (v := 1) dX10_leanBy_46 (by decide) ?_
    refine bc_callV (z := mX10_litOf) (ci := 10) dX10_leanBy_47 lX10_355 qX10_litOf (by rfl) (by rfl) (by rfl) (by rfl) (Nat.le_of_ble_eq_true rfl) (t_litOf (w := 1) hE hs (by omega)) (fun r47 μ47 e47 => ?_)
    obtain ⟨rfl, q47⟩ := e47
    obtain rfl := q47.symm
    refine bc_aload_n dX10_leanBy_50 rfl ?_
    refine bc_getr dX10_leanBy_51 fX10_74 (rfl) rfl ?_
    refine bc_bipush (v := 16) dX10_leanBy_54 (by decide) ?_
    refine bc_iload_n dX10_leanBy_56 rfl ?_
    refine bc_iadd dX10_leanBy_57 ?_
    refine bc_ialdE (k := 16 + q) dX10_leanBy_58 (rfl) (ixA (a := 16) (b := q) (rfl) (rfl)) (⟨by omega, by decide⟩) ?_
    refine bc_aload_n dX10_leanBy_59 rfl ?_
    refine bc_getr dX10_leanBy_60 fX10_35 (rfl) rfl ?_
    refine bc_iconst (v := 2) dX10_leanBy_63 (by decide) ?_
    refine bc_iload_n dX10_leanBy_64 rfl ?_
    refine bc_imul dX10_leanBy_65 ?_
    refine bc_ialdE (k := 2 * q) dX10_leanBy_66 (rfl) (ixM (a := 2) (b := q) (rfl) (rfl)) (⟨by omega, by decide⟩) ?_
    refine bc_aload_n dX10_leanBy_67 rfl ?_
    refine bc_getr dX10_leanBy_68 fX10_74 (rfl) rfl ?_
    refine bc_bipush (v := 32) dX10_leanBy_71 (by decide) ?_
    refine bc_ialdE (k := 32) dX10_leanBy_73 (rfl) (rfl) (⟨by omega, by decide⟩) ?_
    refine bc_callV (z := mX10_leanOf) (ci := 10) dX10_leanBy_74 lX10_358 qX10_leanOf (by rfl) (by rfl) (by rfl) (by rfl) (Nat.le_of_ble_eq_true rfl) (t_leanOf hE.1.2.2 hE.2.2.2.2.2.2.2 _ _ _ _ _ _ _) (fun r74 μ74 e74 => ?_)
    obtain ⟨rfl, h9⟩ := e74
    exact bc_ireturn dX10_leanBy_77 rfl rfl (⟨by rw [half, if_pos h28], h9⟩)
theorem i32r2 (a b c : Int32) : a - b + c = a + c - b := by
  simp only [Int32.sub_eq_add_neg, Int32.add_assoc, Int32.add_comm, i32lc]
theorem i32r3 (a b c : Int32) : a - b - c = a - (b + c) := by
  simp only [Int32.sub_eq_add_neg, Int32.neg_add, Int32.add_assoc]
theorem pc3_by (v : Int32) : (if v < -3 then -3 else if 3 < v then 3 else v) = pc3 v := by
  unfold pc3
  have e1 : (-3 : Int32).toInt = -3 := rfl
  have e2 : (3 : Int32).toInt = 3 := rfl
  by_cases h1 : v < 3
  · rw [if_pos h1]
    rw [if_neg (show ¬ 3 < v by rw [bn_lt] at h1 ⊢; omega)]
    by_cases h2 : -3 < v
    · rw [if_pos h2, if_neg (by rw [bn_lt] at h2 ⊢; omega)]
    · rw [if_neg h2]
      by_cases h3 : v < -3
      · rw [if_pos h3]
      · rw [if_neg h3, bn_eq]; rw [bn_lt] at h2 h3; omega
  · rw [if_neg h1, if_neg (show ¬ v < -3 by rw [bn_lt] at h1 ⊢; omega), if_pos (show (-3 : Int32) < 3 by decide)]
    by_cases h3 : 3 < v
    · rw [if_pos h3]
    · rw [if_neg h3, bn_eq]; rw [bn_lt] at h1 h3; omega
abbrev msA (M : bc_M) (n no : Nat) (A : Row) (j k : Nat) : Int32 := mS (plug M A) 31 n no (litA no A) (A 2) j k
theorem msA_s {k j : Nat} (hk : k < 31) : msA M n no A j (k + 1) = msA M n no A j k + (if M 4 k = nI j then lnA M n no A k else 0) := by
  unfold msA mS
  rw [sm]
  congr 2
theorem t_driftTo {j : Nat} (hE : mEnv M m n no nq nr nm) (hs : sR A (m 20)) (hA : okA no A) (hj : j < 2) : bc_C (d + 5) LM mX10_driftTo [.ref 0, .int (nI j)] m (fun r ν => r = some (.int (pc3 ((msA M n no A j nq - msA M n no A (j + 2) nq) / 10))) ∧ ∀ i, i ≠ 15 → i ≠ 16 → ν i = m i) := by
  refine bc_enter (by decide) (Nat.le_of_ble_eq_true rfl) rfl ?_
  have h6 := hE.q6
  have loop : ∀ (c k : Nat) (ν : bc_M), k + c = nq → (∀ i, i ≠ 15 → i ≠ 16 → ν i = m i) → bc_W (d + 5) LM mX10_driftTo 4 [.ref 0, .int (nI j), .int (msA M n no A j k - msA M n no A (j + 2) k), .int (nI k)] [] ν (fun r ν => r = some (.int (pc3 ((msA M n no A j nq - msA M n no A (j + 2) nq) / 10))) ∧ ∀ i, i ≠ 15 → i ≠ 16 → ν i = m i) := by
    intro c
    induction c with
    | zero =>
      intro k ν hk hν
      have hk : k = nq := by omega
      subst hk
      rw [← pc3_by]
      refine bc_iload_n dX10_driftTo_4 rfl ?_
      refine bc_aload_n dX10_driftTo_5 rfl ?_
      refine bc_geti dX10_driftTo_6 fX10_182 (rfl) rfl ?_
      refine bc_icmp_ge (tgt := 63) dX10_driftTo_9 (by decide) (fun h9 => ?_) (fun h9 => absurd h9 (fun q => q (bx_out (by rw [hν 0 (by decide) (by decide)]; exact hE.2.1.1) (Nat.le_refl _) (by omega))))
      refine bc_iload_n dX10_driftTo_63 rfl ?_
      refine bc_bipush (v := 10) dX10_driftTo_64 (by decide) ?_
      refine bc_idiv dX10_driftTo_66 (by decide) ?_
      refine bc_istore_n dX10_driftTo_67 (by decide) rfl ?_
      refine bc_iload_n dX10_driftTo_68 rfl ?_
      refine bc_bipush (v := (-3)) dX10_driftTo_69 (by decide) ?_
      refine bc_icmp_ge (tgt := 79) dX10_driftTo_71 (by decide) (fun h71 => ?_) (fun h71 => ?_)
      · refine bc_iload_n dX10_driftTo_79 rfl ?_
        refine bc_iconst (v := 3) dX10_driftTo_80 (by decide) ?_
        refine bc_icmp_le (tgt := 88) dX10_driftTo_81 (by decide) (fun h81 => ?_) (fun h81 => ?_)
        · refine bc_iload_n dX10_driftTo_88 rfl ?_
          exact bc_ireturn dX10_driftTo_89 rfl rfl (⟨by rw [if_neg (Int32.not_lt.mpr h71), if_neg (Int32.not_lt.mpr h81)], hν⟩)
        · refine bc_iconst (v := 3) dX10_driftTo_84 (by decide) ?_
          refine bc_goto (tgt := 89) dX10_driftTo_85 (by decide) ?_
          exact bc_ireturn dX10_driftTo_89 rfl rfl (⟨by rw [if_neg (Int32.not_lt.mpr h71), if_pos (Int32.not_le.mp h81)], hν⟩)
      · refine bc_bipush (v := (-3)) dX10_driftTo_74 (by decide) ?_
        refine bc_goto (tgt := 89) dX10_driftTo_76 (by decide) ?_
        exact bc_ireturn dX10_driftTo_89 rfl rfl (⟨by rw [if_pos (Int32.not_le.mp h71)], hν⟩)
    | succ c ih =>
      intro k ν hk hν
      have hEν : mEnv M ν n no nq nr nm := hE.mv (fun i _ _ => by rw [hν 0 (by decide) (by decide)]) (fun i h1 h2 => hν i (by omega) (by omega))
      have hsν : sR A (ν 20) := by rw [hν 20 (by decide) (by decide)]; exact hs
      have e7 : ν 7 (2 * k) = M 4 k := (hEν.2.2.2.1 k (by omega)).1
      have n2 : nI j + 2 = nI (j + 2) := bn_add j 2
      have njj : ¬ nI j = nI (j + 2) := by rw [bn_eqN (by omega) (by omega)]; omega
      have next : ∀ (v : Int32) (ν' : bc_M), (∀ i, i ≠ 15 → i ≠ 16 → ν' i = m i) → v = msA M n no A j (k + 1) - msA M n no A (j + 2) (k + 1) → bc_W (d + 5) LM mX10_driftTo 57 [.ref 0, .int (nI j), .int v, .int (nI k)] [] ν' (fun r ν => r = some (.int (pc3 ((msA M n no A j nq - msA M n no A (j + 2) nq) / 10))) ∧ ∀ i, i ≠ 15 → i ≠ 16 → ν i = m i) := by
        intro v ν' h' hv
        subst hv
        have h2 := ih (k + 1) ν' (by omega) h'
        refine bc_iinc1 dX10_driftTo_57 rfl (by decide) rfl ?_
        refine bc_goto (tgt := 4) dX10_driftTo_60 (by decide) ?_
        rw [bn_add1]
        exact h2
      rw [msA_s (by omega), msA_s (by omega)] at next
      refine bc_iload_n dX10_driftTo_4 rfl ?_
      refine bc_aload_n dX10_driftTo_5 rfl ?_
      refine bc_geti dX10_driftTo_6 fX10_182 (rfl) rfl ?_
      refine bc_icmp_ge (tgt := 63) dX10_driftTo_9 (by decide) (fun h9 => absurd h9 (bx_in hEν.2.1.1 (by omega) (by omega))) (fun h9 => ?_)
      refine bc_aload_n dX10_driftTo_12 rfl ?_
      refine bc_getr dX10_driftTo_13 fX10_35 (rfl) rfl ?_
      refine bc_iconst (v := 2) dX10_driftTo_16 (by decide) ?_
      refine bc_iload_n dX10_driftTo_17 rfl ?_
      refine bc_imul dX10_driftTo_18 ?_
      refine bc_ialdE (k := 2 * k) dX10_driftTo_19 (rfl) (ixM (a := 2) (b := k) (rfl) (rfl)) (⟨by omega, by decide⟩) ?_
      refine bc_iload_n dX10_driftTo_20 rfl ?_
      refine bc_icmp_ne (tgt := 35) dX10_driftTo_21 (by decide) (fun h21 => ?_) (fun h21 => ?_)
      · refine bc_aload_n dX10_driftTo_35 rfl ?_
        refine bc_getr dX10_driftTo_36 fX10_35 (rfl) rfl ?_
        refine bc_iconst (v := 2) dX10_driftTo_39 (by decide) ?_
        refine bc_iload_n dX10_driftTo_40 rfl ?_
        refine bc_imul dX10_driftTo_41 ?_
        refine bc_ialdE (k := 2 * k) dX10_driftTo_42 (rfl) (ixM (a := 2) (b := k) (rfl) (rfl)) (⟨by omega, by decide⟩) ?_
        refine bc_iload_n dX10_driftTo_43 rfl ?_
        refine bc_iconst (v := 2) dX10_driftTo_44 (by decide) ?_
        refine bc_iadd dX10_driftTo_45 ?_
        refine bc_icmp_ne (tgt := 57) dX10_driftTo_46 (by decide) (fun h46 => ?_) (fun h46 => ?_)
        · exact next _ _ hν (by rw [if_neg (fun e => h21 (e7.trans e)), if_neg (fun e => h46 ((e7.trans e).trans n2.symm)), Int32.add_zero, Int32.add_zero])
        · refine bc_iload_n dX10_driftTo_49 rfl ?_
          refine bc_aload_n dX10_driftTo_50 rfl ?_
          refine bc_iload_n dX10_driftTo_51 rfl ?_
          refine bc_callV (z := mX10_leanBy) (ci := 10) dX10_driftTo_52 lX10_362 qX10_leanBy (by rfl) (by rfl) (by rfl) (by rfl) (Nat.le_of_ble_eq_true rfl) (t_leanBy hEν hsν hA (by omega)) (fun r52 μ52 e52 => ?_)
          obtain ⟨rfl, h52⟩ := e52
          refine bc_isub dX10_driftTo_55 ?_
          refine bc_istore_n dX10_driftTo_56 (by decide) rfl ?_
          exact next _ _ (fun i a b => (h52 i a b).trans (hν i a b)) (by rw [if_neg (fun e => h21 (e7.trans e)), if_pos ((e7.symm.trans h46).trans n2), Int32.add_zero, i32r3])
      · refine bc_iload_n dX10_driftTo_24 rfl ?_
        refine bc_aload_n dX10_driftTo_25 rfl ?_
        refine bc_iload_n dX10_driftTo_26 rfl ?_
        refine bc_callV (z := mX10_leanBy) (ci := 10) dX10_driftTo_27 lX10_362 qX10_leanBy (by rfl) (by rfl) (by rfl) (by rfl) (Nat.le_of_ble_eq_true rfl) (t_leanBy hEν hsν hA (by omega)) (fun r27 μ27 e27 => ?_)
        obtain ⟨rfl, h27⟩ := e27
        refine bc_iadd dX10_driftTo_30 ?_
        refine bc_istore_n dX10_driftTo_31 (by decide) rfl ?_
        refine bc_goto (tgt := 57) dX10_driftTo_32 (by decide) ?_
        exact next _ _ (fun i a b => (h27 i a b).trans (hν i a b)) (by rw [if_pos (e7.symm.trans h21), if_neg (fun e => njj ((h21.symm.trans e7).trans e)), Int32.add_zero, i32r2])
  refine bc_iconst (v := 0) dX10_driftTo_0 (by decide) ?_
  refine bc_istore_n dX10_driftTo_1 (by decide) rfl ?_
  refine bc_iconst (v := 0) dX10_driftTo_2 (by decide) ?_
  refine bc_istore_n dX10_driftTo_3 (by decide) rfl ?_
  have h2 := loop nq 0 m (by omega) (fun _ _ _ => rfl)
  rw [show msA M n no A j 0 = 0 from rfl, show msA M n no A (j + 2) 0 = 0 from rfl, Int32.sub_zero] at h2
  exact h2
end T61
