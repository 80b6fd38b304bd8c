/-! the reference (BreadCityModel): object 0 of the layout LM, its arrays behind it. Its contracts speak of the class's own reckonings, of the class's memory M, under relations between both memories -/
theorem ixA {x y : Int32} {a b : Nat} (hx : x = nI a) (hy : y = nI b) : x + y = nI (a + b) := by rw [hx, hy, bn_add]
theorem ix0 {y : Int32} {b : Nat} (hy : y = nI b) : 0 + y = nI b := by rw [hy, Int32.zero_add]
theorem ixM {x y : Int32} {a b : Nat} (hx : x = nI a) (hy : y = nI b) : x * y = nI (a * b) := by rw [hx, hy, bn_mul]
theorem ixS {x y : Int32} {a b : Nat} (hx : x = nI a) (hy : y = nI b) (h : b ≤ a) : x - y = nI (a - b) := by
  obtain ⟨c, rfl⟩ : ∃ c, a = c + b := ⟨a - b, by omega⟩
  rw [hx, hy, ← bn_add, Nat.add_sub_cancel, Int32.add_sub_cancel]
theorem bx_in {z : Int32} {k n : Nat} (h : z = nI n) (hk : k < n) (hn : n < 2147483648) : ¬ z ≤ nI k := by
  rw [h, bn_leN hn (by omega)]; omega
theorem bx_out {z : Int32} {k n : Nat} (h : z = nI n) (hk : n ≤ k) (hn : k < 2147483648) : z ≤ nI k := by
  rw [h, bn_leN (by omega) hn]; exact hk
def cpN (f g : Nat → Int32) (n : Nat) : Nat → Int32 := fun k => if k < n then f k else g k
theorem cpN_0 (f g : Nat → Int32) : cpN f g 0 = g := by funext k; simp [cpN]
theorem cpN_s {m : bc_M} {i j k : Nat} (h : i ≠ j) : bc_u (bc_us m j (cpN (m i) (m j) k)) j k (bc_us m j (cpN (m i) (m j) k) i k) = bc_us m j (cpN (m i) (m j) (k + 1)) := by
  rw [bc_us_u, bc_us_r, if_neg h]
  congr 1
  funext x
  simp only [upd, cpN]
  by_cases h1 : x = k
  · subst h1; rw [if_pos rfl, if_pos (by omega)]
  · rw [if_neg h1]
    by_cases h2 : x < k
    · rw [if_pos h2, if_pos (by omega)]
    · rw [if_neg h2, if_neg (by omega)]
/-- a refused call -/
def refM (m : bc_M) (code : Int32) (k : Nat) : bc_M := bc_u (bc_u (bc_u m 0 0 0) 0 0 code) 1 k (m 1 k + 1)
section T60
variable {d : Nat} {m M : bc_M}
theorem t_within {L : bc_L} (v lo hi : Int32) : bc_C d L mX10_within [.int v, .int lo, .int hi] m (fun r ν => r = some (.int (if lo ≤ v ∧ v ≤ hi then 1 else 0)) ∧ ν = m) := by
  refine bc_enter (by decide) (Nat.le_of_ble_eq_true rfl) rfl ?_
  refine bc_iload_n dX10_within_0 rfl ?_
  refine bc_iload_n dX10_within_1 rfl ?_
  refine bc_icmp_lt (tgt := 14) dX10_within_2 (by decide) (fun h2 => ?_) (fun h2 => ?_)
  · refine bc_iconst (v := 0) dX10_within_14 (by decide) ?_
    exact bc_ireturn dX10_within_15 rfl rfl (⟨by rw [if_neg (fun q => absurd q.1 (Int32.not_le.mpr h2))], rfl⟩)
  · refine bc_iload_n dX10_within_5 rfl ?_
    refine bc_iload_n dX10_within_6 rfl ?_
    refine bc_icmp_gt (tgt := 14) dX10_within_7 (by decide) (fun h7 => ?_) (fun h7 => ?_)
    · refine bc_iconst (v := 0) dX10_within_14 (by decide) ?_
      exact bc_ireturn dX10_within_15 rfl rfl (⟨by rw [if_neg (fun q => absurd q.2 (Int32.not_le.mpr h7))], rfl⟩)
    · refine bc_iconst (v := 1) dX10_within_10 (by decide) ?_
      refine bc_goto (tgt := 15) dX10_within_11 (by decide) ?_
      exact bc_ireturn dX10_within_15 rfl rfl (⟨by rw [if_pos ⟨Int32.not_lt.mp h2, Int32.not_lt.mp h7⟩], rfl⟩)
theorem t_may {k : Nat} (g : Prop) [Decidable g] (code : Int32) (hk : k < 2) (h0 : m 0 0 = 0) (hc : ¬ code = 0) : bc_C d LM mX10_may [.ref 0, .int (if g then 1 else 0), .int code, .int (nI k)] m (fun r ν => (g ∧ r = some (.int 1) ∧ ν = m) ∨ (¬ g ∧ r = some (.int 0) ∧ ν = bc_u (bc_u m 0 0 code) 1 k (m 1 k + 1))) := by
  refine bc_enter (by decide) (Nat.le_of_ble_eq_true rfl) rfl ?_
  by_cases hg : g
  · rw [if_pos hg]
    refine bc_iload_n dX10_may_0 rfl ?_
    refine bc_if_ne (tgt := 26) dX10_may_1 (by decide) (fun h1 => ?_) (fun h1 => absurd h1 (by decide))
    refine bc_aload_n dX10_may_26 rfl ?_
    refine bc_geti dX10_may_27 fX10_3 (rfl) rfl ?_
    refine bc_if_ne (tgt := 37) dX10_may_30 (by decide) (fun h30 => absurd h30 (fun q => q h0)) (fun h30 => ?_)
    refine bc_iconst (v := 1) dX10_may_33 (by decide) ?_
    refine bc_goto (tgt := 38) dX10_may_34 (by decide) ?_
    exact bc_ireturn dX10_may_38 rfl rfl (.inl ⟨hg, rfl, rfl⟩)
  · rw [if_neg hg]
    refine bc_iload_n dX10_may_0 rfl ?_
    refine bc_if_ne (tgt := 26) dX10_may_1 (by decide) (fun h1 => absurd h1 (fun q => q rfl)) (fun h1 => ?_)
    refine bc_aload_n dX10_may_4 rfl ?_
    refine bc_geti dX10_may_5 fX10_3 (rfl) rfl ?_
    refine bc_if_ne (tgt := 26) dX10_may_8 (by decide) (fun h8 => absurd h8 (fun q => q h0)) (fun h8 => ?_)
    refine bc_aload_n dX10_may_11 rfl ?_
    refine bc_iload_n dX10_may_12 rfl ?_
    refine bc_put dX10_may_13 fX10_3 ftX10 fpX10_0 rfl rfl (rfl) rfl ?_
    refine bc_aload_n dX10_may_16 rfl ?_
    refine bc_getr dX10_may_17 fX10_7 (rfl) rfl ?_
    refine bc_iload_n dX10_may_20 rfl ?_
    refine bc_dup2 dX10_may_21 rfl rfl ?_
    refine bc_ialdE (k := k) dX10_may_22 (rfl) (rfl) (⟨by omega, by decide⟩) ?_
    refine bc_iconst (v := 1) dX10_may_23 (by decide) ?_
    refine bc_iadd dX10_may_24 ?_
    refine bc_iastE (k := k) dX10_may_25 (rfl) (rfl) (⟨by omega, by decide⟩) ?_
    refine bc_aload_n dX10_may_26 rfl ?_
    refine bc_geti dX10_may_27 fX10_3 (rfl) rfl ?_
    refine bc_if_ne (tgt := 37) dX10_may_30 (by decide) (fun h30 => ?_) (fun h30 => absurd h30 (hc))
    refine bc_iconst (v := 0) dX10_may_37 (by decide) ?_
    exact bc_ireturn dX10_may_38 rfl rfl (.inr ⟨hg, rfl, rfl⟩)
theorem t_thrown : bc_C d LM mX10_thrown [.ref 0] m (fun r ν => r = some (.int (m 0 0)) ∧ ν = m) := by
  refine bc_enter (by decide) (Nat.le_of_ble_eq_true rfl) rfl ?_
  refine bc_aload_n dX10_thrown_0 rfl ?_
  refine bc_geti dX10_thrown_1 fX10_3 (rfl) rfl ?_
  exact bc_ireturn dX10_thrown_4 rfl rfl (⟨rfl, rfl⟩)
theorem t_copies {L : bc_L} {i j n n0 n1 : Nat} {rs rs' : List (Option Nat)} (hi : L[i]? = some (0, n0, rs)) (hj : L[j]? = some (0, n1, rs')) (h0 : n ≤ n0 ∧ n0 < 2147483648) (h1 : n ≤ n1 ∧ n1 < 2147483648) (hij : i ≠ j) : bc_C d L mX10_copies [.ref 0, .ref i, .ref j, .int (nI n)] m (fun r ν => r = none ∧ ν = bc_us m j (cpN (m i) (m j) n)) := by
  refine bc_enter (by decide) (Nat.le_of_ble_eq_true rfl) rfl ?_
  have loop : ∀ c k, k + c = n → bc_W d L mX10_copies 3 [.ref 0, .ref i, .ref j, .int (nI n), .int (nI k)] [] (bc_us m j (cpN (m i) (m j) k)) (fun r ν => r = none ∧ ν = bc_us m j (cpN (m i) (m j) n)) := by
    intro c
    induction c with
    | zero =>
      intro k hk
      have hk : k = n := by omega
      subst hk
      refine bc_iload dX10_copies_3 rfl ?_
      refine bc_iload_n dX10_copies_5 rfl ?_
      refine bc_icmp_ge (tgt := 23) dX10_copies_6 (by decide) (fun h6 => ?_) (fun h6 => absurd h6 (fun q => q (Int32.le_refl _)))
      exact bc_return dX10_copies_23 rfl (⟨rfl, rfl⟩)
    | succ c ih =>
      intro k hk
      refine bc_iload dX10_copies_3 rfl ?_
      refine bc_iload_n dX10_copies_5 rfl ?_
      refine bc_icmp_ge (tgt := 23) dX10_copies_6 (by decide) (fun h6 => absurd h6 (bx_in rfl (by omega) (by omega))) (fun h6 => ?_)
      refine bc_aload_n dX10_copies_9 rfl ?_
      refine bc_iload dX10_copies_10 rfl ?_
      refine bc_aload_n dX10_copies_12 rfl ?_
      refine bc_iload dX10_copies_13 rfl ?_
      refine bc_ialdE dX10_copies_15 (hi) (rfl) (⟨by omega, h0.2⟩) ?_
      refine bc_iastE dX10_copies_16 (hj) (rfl) (⟨by omega, h1.2⟩) ?_
      refine bc_iinc1 dX10_copies_17 rfl (by decide) rfl ?_
      refine bc_goto (tgt := 3) dX10_copies_20 (by decide) ?_
      have h2 := ih (k + 1) (by omega)
      rw [← cpN_s hij] at h2
      rw [bn_add1]
      exact h2
  refine bc_iconst (v := 0) dX10_copies_0 (by decide) ?_
  refine bc_istore dX10_copies_1 (by decide) rfl ?_
  have h2 := loop n 0 (by omega)
  rw [cpN_0, bc_us_self] at h2
  exact h2
theorem t_take : bc_C (d + 1) LM mX10_take [.ref 0] m (fun r ν => r = none ∧ ν = bc_us m 20 (cpN (m 19) (m 20) 33)) := by
  refine bc_enter (by decide) (Nat.le_of_ble_eq_true rfl) rfl ?_
  refine bc_aload_n dX10_take_0 rfl ?_
  refine bc_aload_n dX10_take_1 rfl ?_
  refine bc_getr dX10_take_2 fX10_71 (rfl) rfl ?_
  refine bc_aload_n dX10_take_5 rfl ?_
  refine bc_getr dX10_take_6 fX10_74 (rfl) rfl ?_
  refine bc_bipush (v := 33) dX10_take_9 (by decide) ?_
  refine bc_callV (z := mX10_copies) (ci := 10) dX10_take_11 lX10_194 qX10_copies (by rfl) (by rfl) (by rfl) (by rfl) (Nat.le_of_ble_eq_true rfl) (t_copies (n := 33) (i := 19) (j := 20) rfl rfl (by decide) (by decide) (by decide)) (fun r11 μ11 e11 => ?_)
  obtain ⟨rfl, q11⟩ := e11
  obtain rfl := q11.symm
  exact bc_return dX10_take_14 rfl (⟨rfl, rfl⟩)
theorem t_isCell {L : bc_L} (x y : Int32) : bc_C d L mX10_isCell [.int x, .int y] m (fun r ν => r = some (.int (if 0 ≤ x ∧ x < 31 ∧ 0 ≤ y ∧ y < 31 then 1 else 0)) ∧ ν = m) := by
  refine bc_enter (by decide) (Nat.le_of_ble_eq_true rfl) rfl ?_
  refine bc_iload_n dX10_isCell_0 rfl ?_
  refine bc_if_lt (tgt := 24) dX10_isCell_1 (by decide) (fun h1 => ?_) (fun h1 => ?_)
  · refine bc_iconst (v := 0) dX10_isCell_24 (by decide) ?_
    exact bc_ireturn dX10_isCell_25 rfl rfl (⟨by rw [if_neg (fun q => absurd q.1 (Int32.not_le.mpr h1))], rfl⟩)
  · refine bc_iload_n dX10_isCell_4 rfl ?_
    refine bc_bipush (v := 31) dX10_isCell_5 (by decide) ?_
    refine bc_icmp_ge (tgt := 24) dX10_isCell_7 (by decide) (fun h7 => ?_) (fun h7 => ?_)
    · refine bc_iconst (v := 0) dX10_isCell_24 (by decide) ?_
      exact bc_ireturn dX10_isCell_25 rfl rfl (⟨by rw [if_neg (fun q => absurd q.2.1 (Int32.not_lt.mpr h7))], rfl⟩)
    · refine bc_iload_n dX10_isCell_10 rfl ?_
      refine bc_if_lt (tgt := 24) dX10_isCell_11 (by decide) (fun h11 => ?_) (fun h11 => ?_)
      · refine bc_iconst (v := 0) dX10_isCell_24 (by decide) ?_
        exact bc_ireturn dX10_isCell_25 rfl rfl (⟨by rw [if_neg (fun q => absurd q.2.2.1 (Int32.not_le.mpr h11))], rfl⟩)
      · refine bc_iload_n dX10_isCell_14 rfl ?_
        refine bc_bipush (v := 31) dX10_isCell_15 (by decide) ?_
        refine bc_icmp_ge (tgt := 24) dX10_isCell_17 (by decide) (fun h17 => ?_) (fun h17 => ?_)
        · refine bc_iconst (v := 0) dX10_isCell_24 (by decide) ?_
          exact bc_ireturn dX10_isCell_25 rfl rfl (⟨by rw [if_neg (fun q => absurd q.2.2.2 (Int32.not_lt.mpr h17))], rfl⟩)
        · refine bc_iconst (v := 1) dX10_isCell_20 (by decide) ?_
          refine bc_goto (tgt := 25) dX10_isCell_21 (by decide) ?_
          exact bc_ireturn dX10_isCell_25 rfl rfl (⟨by rw [if_pos ⟨Int32.not_lt.mp h1, Int32.not_le.mp h7, Int32.not_lt.mp h11, Int32.not_le.mp h17⟩], rfl⟩)
theorem t_isReed {nr : Nat} (x y : Int32) (hr : m 0 27 = nI nr) (hr12 : nr ≤ 12) : bc_C d LM mX10_isReed [.ref 0, .int x, .int y] m (fun r ν => r = some (.int (if moB (fun k => m 9 (2 * k)) (fun k => m 9 (2 * k + 1)) x y nr 0 = true then 1 else 0)) ∧ ν = m) := by
  refine bc_enter (by decide) (Nat.le_of_ble_eq_true rfl) rfl ?_
  have loop : ∀ c k, k + c = nr → bc_W d LM mX10_isReed 2 [.ref 0, .int x, .int y, .int (nI k)] [] m (fun r ν => r = some (.int (if moB (fun k => m 9 (2 * k)) (fun k => m 9 (2 * k + 1)) x y c k = true then 1 else 0)) ∧ ν = m) := by
    intro c
    induction c with
    | zero =>
      intro k hk
      have hk : k = nr := by omega
      subst hk
      refine bc_iload_n dX10_isReed_2 rfl ?_
      refine bc_aload_n dX10_isReed_3 rfl ?_
      refine bc_geti dX10_isReed_4 fX10_188 (rfl) rfl ?_
      refine bc_icmp_ge (tgt := 44) dX10_isReed_7 (by decide) (fun h7 => ?_) (fun h7 => absurd h7 (fun q => q (bx_out hr (Nat.le_refl _) (by omega))))
      refine bc_iconst (v := 0) dX10_isReed_44 (by decide) ?_
      exact bc_ireturn dX10_isReed_45 rfl rfl (⟨rfl, rfl⟩)
    | succ c ih =>
      intro k hk
      have skip : ¬ (m 9 (2 * k) = x ∧ m 9 (2 * k + 1) = y) → bc_W d LM mX10_isReed 38 [.ref 0, .int x, .int y, .int (nI k)] [] m (fun r ν => r = some (.int (if moB (fun k => m 9 (2 * k)) (fun k => m 9 (2 * k + 1)) x y (c + 1) k = true then 1 else 0)) ∧ ν = m) := by
        intro q
        have h2 := ih (k + 1) (by omega)
        rw [show moB (fun k => m 9 (2 * k)) (fun k => m 9 (2 * k + 1)) x y (c + 1) k = moB (fun k => m 9 (2 * k)) (fun k => m 9 (2 * k + 1)) x y c (k + 1) by rw [moB, show (decide (m 9 (2 * k) = x) && decide (m 9 (2 * k + 1) = y)) = false by rw [← Bool.decide_and]; exact decide_eq_false q, Bool.false_or]]
        refine bc_iinc1 dX10_isReed_38 rfl (by decide) rfl ?_
        refine bc_goto (tgt := 2) dX10_isReed_41 (by decide) ?_
        rw [bn_add1]
        exact h2
      refine bc_iload_n dX10_isReed_2 rfl ?_
      refine bc_aload_n dX10_isReed_3 rfl ?_
      refine bc_geti dX10_isReed_4 fX10_188 (rfl) rfl ?_
      refine bc_icmp_ge (tgt := 44) dX10_isReed_7 (by decide) (fun h7 => absurd h7 (bx_in hr (by omega) (by omega))) (fun h7 => ?_)
      refine bc_aload_n dX10_isReed_10 rfl ?_
      refine bc_getr dX10_isReed_11 fX10_41 (rfl) rfl ?_
      refine bc_iconst (v := 2) dX10_isReed_14 (by decide) ?_
      refine bc_iload_n dX10_isReed_15 rfl ?_
      refine bc_imul dX10_isReed_16 ?_
      refine bc_ialdE (k := 2 * k) dX10_isReed_17 (rfl) (ixM (a := 2) (b := k) (rfl) (rfl)) (⟨by omega, by decide⟩) ?_
      refine bc_iload_n dX10_isReed_18 rfl ?_
      refine bc_icmp_ne (tgt := 38) dX10_isReed_19 (by decide) (fun h19 => ?_) (fun h19 => ?_)
      · exact skip (fun q => h19 q.1)
      · refine bc_aload_n dX10_isReed_22 rfl ?_
        refine bc_getr dX10_isReed_23 fX10_41 (rfl) rfl ?_
        refine bc_iconst (v := 2) dX10_isReed_26 (by decide) ?_
        refine bc_iload_n dX10_isReed_27 rfl ?_
        refine bc_imul dX10_isReed_28 ?_
        refine bc_iconst (v := 1) dX10_isReed_29 (by decide) ?_
        refine bc_iadd dX10_isReed_30 ?_
        refine bc_ialdE (k := (2 * k) + 1) dX10_isReed_31 (rfl) (ixA (a := 2 * k) (b := 1) (ixM (a := 2) (b := k) (rfl) (rfl)) (rfl)) (⟨by omega, by decide⟩) ?_
        refine bc_iload_n dX10_isReed_32 rfl ?_
        refine bc_icmp_ne (tgt := 38) dX10_isReed_33 (by decide) (fun h33 => ?_) (fun h33 => ?_)
        · exact skip (fun q => h33 q.2)
        · refine bc_iconst (v := 1) dX10_isReed_36 (by decide) ?_
          exact bc_ireturn dX10_isReed_37 rfl rfl (⟨by rw [moB, decide_eq_true (h19), decide_eq_true (h33)]; rfl, rfl⟩)
  refine bc_iconst (v := 0) dX10_isReed_0 (by decide) ?_
  refine bc_istore_n dX10_isReed_1 (by decide) rfl ?_
  exact loop nr 0 (by omega)
end T60
