/-! the class's own little methods on rows -/
theorem s_entry {d : Nat} {L : bc_L} {μ : bc_M} {i n : Nat} {rs : List (Option Nat)} (ho : L[i]? = some (0, n, rs)) (hn : n < 2147483648) (p : Int32) : bc_C d L mX9_entry [.ref i, .int p] μ (fun r μ' => r = some (.int (en μ i n p)) ∧ μ' = μ) := by
  refine bc_enter (by decide) (Nat.le_of_ble_eq_true rfl) rfl ?_
  refine bc_iload_n dX9_entry_0 rfl ?_
  refine bc_if_lt (tgt := 16) dX9_entry_1 (by decide) (fun h1 => ?_) (fun h1 => ?_)
  · refine bc_iconst (v := 0) dX9_entry_16 (by decide) ?_
    exact bc_ireturn dX9_entry_17 rfl rfl (⟨by first | rw [en_out (bn_neg h1)] | rw [en_out (bn_out hn h7)] | rw [en_in (bn_in hn h1 h7)], rfl⟩)
  · refine bc_iload_n dX9_entry_4 rfl ?_
    refine bc_aload_n dX9_entry_5 rfl ?_
    refine bc_len0 dX9_entry_6 (ho) ?_
    refine bc_icmp_ge (tgt := 16) dX9_entry_7 (by decide) (fun h7 => ?_) (fun h7 => ?_)
    · refine bc_iconst (v := 0) dX9_entry_16 (by decide) ?_
      exact bc_ireturn dX9_entry_17 rfl rfl (⟨by first | rw [en_out (bn_neg h1)] | rw [en_out (bn_out hn h7)] | rw [en_in (bn_in hn h1 h7)], rfl⟩)
    · refine bc_aload_n dX9_entry_10 rfl ?_
      refine bc_iload_n dX9_entry_11 rfl ?_
      refine bc_iald dX9_entry_12 (ho) (bn_in hn h1 h7) ?_
      refine bc_goto (tgt := 17) dX9_entry_13 (by decide) ?_
      exact bc_ireturn dX9_entry_17 rfl rfl (⟨by first | rw [en_out (bn_neg h1)] | rw [en_out (bn_out hn h7)] | rw [en_in (bn_in hn h1 h7)], rfl⟩)
theorem s_entryN {d : Nat} {L : bc_L} {μ : bc_M} {i n k : Nat} {rs : List (Option Nat)} (ho : L[i]? = some (0, n, rs)) (hn : n < 2147483648) (hk : k < n) : bc_C d L mX9_entry [.ref i, .int (nI k)] μ (fun r μ' => r = some (.int (μ i k)) ∧ μ' = μ) := by
  have h := s_entry (d := d) (μ := μ) ho hn (nI k)
  rw [en_N hk hn] at h
  exact h
theorem s_cellOf {d : Nat} {L : bc_L} {μ : bc_M} (a b : Int32) : bc_C d L mX9_cellOf [.int a, .int b] μ (fun r μ' => r = some (.int (a * 31 + b)) ∧ μ' = μ) := by
  refine bc_enter (by decide) (Nat.le_of_ble_eq_true rfl) rfl ?_
  refine bc_iload_n dX9_cellOf_0 rfl ?_
  refine bc_bipush (v := 31) dX9_cellOf_1 (by decide) ?_
  refine bc_imul dX9_cellOf_3 ?_
  refine bc_iload_n dX9_cellOf_4 rfl ?_
  refine bc_iadd dX9_cellOf_5 ?_
  exact bc_ireturn dX9_cellOf_6 rfl rfl (⟨rfl, rfl⟩)
/-- the row i cleared below k -/
def clr (f : Nat → Int32) (k : Nat) : Nat → Int32 := fun j => if j < k then 0 else f j
theorem clr_0 (f : Nat → Int32) : clr f 0 = f := by funext j; simp [clr]
theorem clr_s (f : Nat → Int32) (k : Nat) : upd (clr f k) k 0 = clr f (k + 1) := by
  funext j
  simp only [upd, clr]
  by_cases h1 : j = k
  · subst h1; simp
  · by_cases h2 : j < k
    · simp [h1, h2, Nat.lt_succ_of_lt h2]
    · simp [h1, h2]; intro h3; omega
theorem s_clearRow {d : Nat} {L : bc_L} {μ : bc_M} {i n : Nat} {rs : List (Option Nat)} (ho : L[i]? = some (0, n, rs)) (hn : n < 2147483648) : bc_C d L mX9_clearRow [.ref i] μ (fun r μ' => r = none ∧ μ' = bc_us μ i (clr (μ i) n)) := by
  refine bc_enter (by decide) (Nat.le_of_ble_eq_true rfl) rfl ?_
  have loop : ∀ m k, k + m = n → bc_W d L mX9_clearRow 2 [.ref i, .int (nI k)] [] (bc_us μ i (clr (μ i) k)) (fun r μ' => r = none ∧ μ' = bc_us μ i (clr (μ i) n)) := by
    intro m
    induction m with
    | zero =>
      intro k hk
      have hk : k = n := by omega
      subst hk
      refine bc_iload_n dX9_clearRow_2 rfl ?_
      refine bc_aload_n dX9_clearRow_3 rfl ?_
      refine bc_len0 dX9_clearRow_4 (ho) ?_
      refine bc_icmp_ge (tgt := 18) dX9_clearRow_5 (by decide) (fun h5 => ?_) (fun h5 => absurd h5 (fun h => h (Int32.le_refl _)))
      exact bc_return dX9_clearRow_18 rfl (⟨rfl, rfl⟩)
    | succ m ih =>
      intro k hk
      refine bc_iload_n dX9_clearRow_2 rfl ?_
      refine bc_aload_n dX9_clearRow_3 rfl ?_
      refine bc_len0 dX9_clearRow_4 (ho) ?_
      refine bc_icmp_ge (tgt := 18) dX9_clearRow_5 (by decide) (fun h5 => absurd h5 (by rw [bn_leN (by omega) (by omega)]; omega)) (fun h5 => ?_)
      refine bc_aload_n dX9_clearRow_8 rfl ?_
      refine bc_iload_n dX9_clearRow_9 rfl ?_
      refine bc_iconst (v := 0) dX9_clearRow_10 (by decide) ?_
      refine bc_iastE dX9_clearRow_11 (ho) (rfl) (⟨by omega, hn⟩) ?_
      rw [bc_us_u, clr_s]
      refine bc_iinc1 dX9_clearRow_12 rfl (by decide) rfl ?_
      rw [bn_add1]
      refine bc_goto (tgt := 2) dX9_clearRow_15 (by decide) ?_
      exact ih (k + 1) (by omega)
  refine bc_iconst (v := 0) dX9_clearRow_0 (by decide) ?_
  refine bc_istore_n dX9_clearRow_1 (by decide) rfl ?_
  have h := loop n 0 (by omega)
  rw [clr_0, bc_us_self] at h
  exact h
theorem s_copyRow {d : Nat} {L : bc_L} {μ : bc_M} {i j n n' : Nat} {rs rs' : List (Option Nat)} (ho : L[i]? = some (0, n, rs)) (ho' : L[j]? = some (0, n', rs')) (hn : n < 2147483648) (hn' : n' < 2147483648) : bc_C (d + 1) L mX9_copyRow [.ref i, .ref j] μ (fun r μ' => r = none ∧ μ' = bc_us μ j (va_cpy (μ i) (μ j) 0 0 (min n n'))) := by
  refine bc_enter (by decide) (Nat.le_of_ble_eq_true rfl) rfl ?_
  refine bc_aload_n dX9_copyRow_0 rfl ?_
  refine bc_iconst (v := 0) dX9_copyRow_1 (by decide) ?_
  refine bc_aload_n dX9_copyRow_2 rfl ?_
  refine bc_iconst (v := 0) dX9_copyRow_3 (by decide) ?_
  refine bc_aload_n dX9_copyRow_4 rfl ?_
  refine bc_len0 dX9_copyRow_5 (ho) ?_
  refine bc_aload_n dX9_copyRow_6 rfl ?_
  refine bc_len0 dX9_copyRow_7 (ho') ?_
  refine bc_min dX9_copyRow_8 wX9_333 (Nat.le_of_ble_eq_true rfl) ?_
  refine bc_acopy dX9_copyRow_11 wX9_399 (ho) (ho') (a := 0) (b := 0) (n := min n n') rfl rfl (bn_min n n' hn hn') (by omega) (by omega) ⟨hn, hn'⟩ (Nat.le_of_ble_eq_true rfl) ?_
  exact bc_return dX9_copyRow_14 rfl (⟨rfl, rfl⟩)
