/-! BreadCity$Text: the reader's eye -/
section TXT
variable {d : Nat} {μ : bc_M} {n a k : Nat} {f q : Int32}
theorem tx_n (h2 : μ 1 2 = nI n) : tx μ a k f q 1 2 = nI n := by rw [tx_2]; exact h2
theorem s_pass (hn : n ≤ 600) (h2 : μ 1 2 = nI n) (ha : a ≤ n) : bc_C d LC mX7_passBlanks [.ref 1] (tx μ a k f q) (fun r ν => r = none ∧ ν = tx μ (skp (μ 2) n a) k f q) := by
  refine bc_enter (by decide) (Nat.le_of_ble_eq_true rfl) rfl ?_
  obtain ⟨m, hm⟩ : ∃ m, a + m = n := ⟨n - a, by omega⟩
  clear ha
  show bc_W d LC mX7_passBlanks 0 [.ref 1] [] (tx μ a k f q) (fun r ν => r = none ∧ ν = tx μ (skp (μ 2) n a) k f q)
  induction m generalizing a with
  | zero =>
    have e : skp (μ 2) n a = a := rn_end (by omega)
    rw [e]
    refine bc_aload_n dX7_passBlanks_0 rfl ?_
    refine bc_geti dX7_passBlanks_1 fX7_34 (rfl) rfl ?_
    refine bc_if_lt (tgt := 57) dX7_passBlanks_4 (by decide) (fun h4 => absurd h4 (by rw [tx_3]; exact nI_pos (by omega))) (fun h4 => ?_)
    refine bc_aload_n dX7_passBlanks_7 rfl ?_
    refine bc_geti dX7_passBlanks_8 fX7_34 (rfl) rfl ?_
    refine bc_aload_n dX7_passBlanks_11 rfl ?_
    refine bc_geti dX7_passBlanks_12 fX7_31 (rfl) rfl ?_
    refine bc_icmp_ge (tgt := 57) dX7_passBlanks_15 (by decide) (fun h15 => ?_) (fun h15 => absurd h15 (by rw [tx_3, tx_n h2]; exact fun x => x (nI_le (by omega) (by omega))))
    exact bc_return dX7_passBlanks_57 rfl (⟨rfl, rfl⟩)
  | succ m ih =>
    refine bc_aload_n dX7_passBlanks_0 rfl ?_
    refine bc_geti dX7_passBlanks_1 fX7_34 (rfl) rfl ?_
    refine bc_if_lt (tgt := 57) dX7_passBlanks_4 (by decide) (fun h4 => absurd h4 (by rw [tx_3]; exact nI_pos (by omega))) (fun h4 => ?_)
    refine bc_aload_n dX7_passBlanks_7 rfl ?_
    refine bc_geti dX7_passBlanks_8 fX7_34 (rfl) rfl ?_
    refine bc_aload_n dX7_passBlanks_11 rfl ?_
    refine bc_geti dX7_passBlanks_12 fX7_31 (rfl) rfl ?_
    refine bc_icmp_ge (tgt := 57) dX7_passBlanks_15 (by decide) (fun h15 => absurd h15 (by rw [tx_3, tx_n h2]; exact nI_ge (by omega) (by omega))) (fun h15 => ?_)
    refine bc_aload_n dX7_passBlanks_18 rfl ?_
    refine bc_geti dX7_passBlanks_19 fX7_34 (rfl) rfl ?_
    refine bc_aload_n dX7_passBlanks_22 rfl ?_
    refine bc_getr dX7_passBlanks_23 fX7_9 (rfl) rfl ?_
    refine bc_len1 dX7_passBlanks_26 (rfl) ?_
    refine bc_icmp_ge (tgt := 57) dX7_passBlanks_27 (by decide) (fun h27 => absurd h27 (by rw [tx_3]; exact nI_ge (by omega) (by omega))) (fun h27 => ?_)
    refine bc_aload_n dX7_passBlanks_30 rfl ?_
    refine bc_getr dX7_passBlanks_31 fX7_9 (rfl) rfl ?_
    refine bc_aload_n dX7_passBlanks_34 rfl ?_
    refine bc_geti dX7_passBlanks_35 fX7_34 (rfl) rfl ?_
    refine bc_baldE dX7_passBlanks_38 (rfl) (tx_3 μ a k f q) (by omega) ?_
    refine bc_bipush (v := 32) dX7_passBlanks_39 (by decide) ?_
    refine bc_icmp_ne (tgt := 57) dX7_passBlanks_41 (by decide) (fun h41 => ?_) (fun h41 => ?_)
    · exact bc_return dX7_passBlanks_57 rfl (by
rw [tx_i _ _ _ _ _ (by decide)] at h41
have e : skp (μ 2) n a = a := rn_stop (by simp [isBl]; exact h41)
rw [e]
exact ⟨rfl, rfl⟩)
    · refine bc_aload_n dX7_passBlanks_44 rfl ?_
      refine bc_dup dX7_passBlanks_45 rfl ?_
      refine bc_geti dX7_passBlanks_46 fX7_34 (rfl) rfl ?_
      refine bc_iconst (v := 1) dX7_passBlanks_49 (by decide) ?_
      refine bc_iadd dX7_passBlanks_50 ?_
      refine bc_put dX7_passBlanks_51 fX7_34 ftX7 fpX7_3 rfl rfl (rfl) rfl ?_
      refine bc_goto (tgt := 0) dX7_passBlanks_54 (by decide) ?_
      rw [tx_i _ _ _ _ _ (by decide)] at h41
      have e : skp (μ 2) n a = skp (μ 2) n (a + 1) := rn_go (by omega) (by simp [isBl]; exact h41)
      rw [e, tx_3, bn_add1, tx_u3]
      exact ih (by omega)
theorem s_next (hn : n ≤ 600) (h2 : μ 1 2 = nI n) (ha : a ≤ n) : bc_C d LC mX7_next [.ref 1] (tx μ a k f q) (fun r ν => r = some (.int (nx (μ 2) n a)) ∧ ν = tx μ a k f q) := by
  refine bc_enter (by decide) (Nat.le_of_ble_eq_true rfl) rfl ?_
  by_cases hl : a < n
  · rw [nx, if_pos hl]
    refine bc_aload_n dX7_next_0 rfl ?_
    refine bc_geti dX7_next_1 fX7_34 (rfl) rfl ?_
    refine bc_if_lt (tgt := 42) dX7_next_4 (by decide) (fun h4 => absurd h4 (by rw [tx_3]; exact nI_pos (by omega))) (fun h4 => ?_)
    refine bc_aload_n dX7_next_7 rfl ?_
    refine bc_geti dX7_next_8 fX7_34 (rfl) rfl ?_
    refine bc_aload_n dX7_next_11 rfl ?_
    refine bc_geti dX7_next_12 fX7_31 (rfl) rfl ?_
    refine bc_icmp_ge (tgt := 42) dX7_next_15 (by decide) (fun h15 => absurd h15 (by rw [tx_3, tx_n h2]; exact nI_ge (by omega) (by omega))) (fun h15 => ?_)
    refine bc_aload_n dX7_next_18 rfl ?_
    refine bc_geti dX7_next_19 fX7_34 (rfl) rfl ?_
    refine bc_aload_n dX7_next_22 rfl ?_
    refine bc_getr dX7_next_23 fX7_9 (rfl) rfl ?_
    refine bc_len1 dX7_next_26 (rfl) ?_
    refine bc_icmp_ge (tgt := 42) dX7_next_27 (by decide) (fun h27 => absurd h27 (by rw [tx_3]; exact nI_ge (by omega) (by omega))) (fun h27 => ?_)
    refine bc_aload_n dX7_next_30 rfl ?_
    refine bc_getr dX7_next_31 fX7_9 (rfl) rfl ?_
    refine bc_aload_n dX7_next_34 rfl ?_
    refine bc_geti dX7_next_35 fX7_34 (rfl) rfl ?_
    refine bc_baldE dX7_next_38 (rfl) (tx_3 μ a k f q) (by omega) ?_
    refine bc_goto (tgt := 43) dX7_next_39 (by decide) ?_
    exact bc_ireturn dX7_next_43 rfl rfl (⟨by rw [tx_i _ _ _ _ _ (by decide)], rfl⟩)
  · rw [nx, if_neg hl]
    refine bc_aload_n dX7_next_0 rfl ?_
    refine bc_geti dX7_next_1 fX7_34 (rfl) rfl ?_
    refine bc_if_lt (tgt := 42) dX7_next_4 (by decide) (fun h4 => absurd h4 (by rw [tx_3]; exact nI_pos (by omega))) (fun h4 => ?_)
    refine bc_aload_n dX7_next_7 rfl ?_
    refine bc_geti dX7_next_8 fX7_34 (rfl) rfl ?_
    refine bc_aload_n dX7_next_11 rfl ?_
    refine bc_geti dX7_next_12 fX7_31 (rfl) rfl ?_
    refine bc_icmp_ge (tgt := 42) dX7_next_15 (by decide) (fun h15 => ?_) (fun h15 => absurd h15 (by rw [tx_3, tx_n h2]; exact fun x => x (nI_le (by omega) (by omega))))
    refine bc_iconst (v := (-1)) dX7_next_42 (by decide) ?_
    exact bc_ireturn dX7_next_43 rfl rfl (⟨rfl, rfl⟩)
theorem s_sound : bc_C d LC mX7_isSound [.ref 1] (tx μ a k f q) (fun r ν => r = some (.int (if f = 0 then 1 else 0)) ∧ ν = tx μ a k f q) := by
  refine bc_enter (by decide) (Nat.le_of_ble_eq_true rfl) rfl ?_
  refine bc_aload_n dX7_isSound_0 rfl ?_
  refine bc_geti dX7_isSound_1 fX7_40 (rfl) rfl ?_
  refine bc_if_ne (tgt := 11) dX7_isSound_4 (by decide) (fun h4 => ?_) (fun h4 => ?_)
  · refine bc_iconst (v := 0) dX7_isSound_11 (by decide) ?_
    exact bc_ireturn dX7_isSound_12 rfl rfl (⟨by rw [if_neg (by rw [tx_5] at h4; exact h4)], rfl⟩)
  · refine bc_iconst (v := 1) dX7_isSound_7 (by decide) ?_
    refine bc_goto (tgt := 12) dX7_isSound_8 (by decide) ?_
    exact bc_ireturn dX7_isSound_12 rfl rfl (⟨by rw [if_pos (by rw [tx_5] at h4; exact h4)], rfl⟩)
theorem s_accuse (kd pl : Int32) : bc_C d LC mX7_accuse [.ref 1, .int kd, .int pl] (tx μ a k f q) (fun r ν => r = none ∧ ν = tx μ a k (if f = 0 then kd else f) (if f = 0 then pl else q)) := by
  refine bc_enter (by decide) (Nat.le_of_ble_eq_true rfl) rfl ?_
  by_cases hf : f = 0
  · rw [if_pos hf, if_pos hf]
    refine bc_aload_n dX7_accuse_0 rfl ?_
    refine bc_geti dX7_accuse_1 fX7_40 (rfl) rfl ?_
    refine bc_if_ne (tgt := 17) dX7_accuse_4 (by decide) (fun h4 => absurd h4 (by rw [tx_5]; exact fun x => x hf)) (fun h4 => ?_)
    refine bc_aload_n dX7_accuse_7 rfl ?_
    refine bc_iload_n dX7_accuse_8 rfl ?_
    refine bc_put dX7_accuse_9 fX7_40 ftX7 fpX7_5 rfl rfl (rfl) rfl ?_
    refine bc_aload_n dX7_accuse_12 rfl ?_
    refine bc_iload_n dX7_accuse_13 rfl ?_
    refine bc_put dX7_accuse_14 fX7_15 ftX7 fpX7_6 rfl rfl (rfl) rfl ?_
    exact bc_return dX7_accuse_17 rfl (⟨rfl, by rw [tx_u5, tx_u6]⟩)
  · rw [if_neg hf, if_neg hf]
    refine bc_aload_n dX7_accuse_0 rfl ?_
    refine bc_geti dX7_accuse_1 fX7_40 (rfl) rfl ?_
    refine bc_if_ne (tgt := 17) dX7_accuse_4 (by decide) (fun h4 => ?_) (fun h4 => absurd h4 (by rw [tx_5]; exact hf))
    exact bc_return dX7_accuse_17 rfl (⟨rfl, rfl⟩)
theorem s_goesOn (hn : n ≤ 600) (h2 : μ 1 2 = nI n) (ha : a ≤ n) : bc_C (d + 1) LC mX7_goesOn [.ref 1] (tx μ a k f q) (fun r ν => r = some (.int (if f = 0 ∧ a < n then 1 else 0)) ∧ ν = tx μ a k f q) := by
  refine bc_enter (by decide) (Nat.le_of_ble_eq_true rfl) rfl ?_
  by_cases hf : f = 0
  · by_cases hl : a < n
    · rw [if_pos ⟨hf, hl⟩]
      refine bc_aload_n dX7_goesOn_0 rfl ?_
      refine bc_callV (z := mX7_isSound) (ci := 7) dX7_goesOn_1 lX7_46 qX7_isSound (by rfl) (by rfl) (by rfl) (by rfl) (Nat.le_of_ble_eq_true rfl) (s_sound) (fun r1 μ1 e1 => ?_)
      obtain ⟨rfl, q1⟩ := e1
      obtain rfl := q1.symm
      refine bc_if_eq (tgt := 22) dX7_goesOn_4 (by decide) (fun h4 => absurd h4 (by rw [if_pos hf]; decide)) (fun h4 => ?_)
      refine bc_aload_n dX7_goesOn_7 rfl ?_
      refine bc_geti dX7_goesOn_8 fX7_34 (rfl) rfl ?_
      refine bc_aload_n dX7_goesOn_11 rfl ?_
      refine bc_geti dX7_goesOn_12 fX7_31 (rfl) rfl ?_
      refine bc_icmp_ge (tgt := 22) dX7_goesOn_15 (by decide) (fun h15 => absurd h15 (by rw [tx_3, tx_n h2]; exact nI_ge (by omega) (by omega))) (fun h15 => ?_)
      refine bc_iconst (v := 1) dX7_goesOn_18 (by decide) ?_
      refine bc_goto (tgt := 23) dX7_goesOn_19 (by decide) ?_
      exact bc_ireturn dX7_goesOn_23 rfl rfl (⟨rfl, rfl⟩)
    · rw [if_neg (fun x => hl x.2)]
      refine bc_aload_n dX7_goesOn_0 rfl ?_
      refine bc_callV (z := mX7_isSound) (ci := 7) dX7_goesOn_1 lX7_46 qX7_isSound (by rfl) (by rfl) (by rfl) (by rfl) (Nat.le_of_ble_eq_true rfl) (s_sound) (fun r1 μ1 e1 => ?_)
      obtain ⟨rfl, q1⟩ := e1
      obtain rfl := q1.symm
      refine bc_if_eq (tgt := 22) dX7_goesOn_4 (by decide) (fun h4 => absurd h4 (by rw [if_pos hf]; decide)) (fun h4 => ?_)
      refine bc_aload_n dX7_goesOn_7 rfl ?_
      refine bc_geti dX7_goesOn_8 fX7_34 (rfl) rfl ?_
      refine bc_aload_n dX7_goesOn_11 rfl ?_
      refine bc_geti dX7_goesOn_12 fX7_31 (rfl) rfl ?_
      refine bc_icmp_ge (tgt := 22) dX7_goesOn_15 (by decide) (fun h15 => ?_) (fun h15 => absurd h15 (by rw [tx_3, tx_n h2]; exact fun x => x (nI_le (by omega) (by omega))))
      refine bc_iconst (v := 0) dX7_goesOn_22 (by decide) ?_
      exact bc_ireturn dX7_goesOn_23 rfl rfl (⟨rfl, rfl⟩)
  · rw [if_neg (fun x => hf x.1)]
    refine bc_aload_n dX7_goesOn_0 rfl ?_
    refine bc_callV (z := mX7_isSound) (ci := 7) dX7_goesOn_1 lX7_46 qX7_isSound (by rfl) (by rfl) (by rfl) (by rfl) (Nat.le_of_ble_eq_true rfl) (s_sound) (fun r1 μ1 e1 => ?_)
    obtain ⟨rfl, q1⟩ := e1
    obtain rfl := q1.symm
    refine bc_if_eq (tgt := 22) dX7_goesOn_4 (by decide) (fun h4 => ?_) (fun h4 => absurd h4 (by rw [if_neg hf]; exact fun x => x rfl))
    refine bc_iconst (v := 0) dX7_goesOn_22 (by decide) ?_
    exact bc_ireturn dX7_goesOn_23 rfl rfl (⟨rfl, rfl⟩)
theorem s_nextIs (hn : n ≤ 600) (h2 : μ 1 2 = nI n) (ha : a ≤ n) (c : Int32) : bc_C (d + 1) LC mX7_nextIs [.ref 1, .int c] (tx μ a k f q) (fun r ν => r = some (.int (if nx (μ 2) n a = c then 1 else 0)) ∧ ν = tx μ a k f q) := by
  refine bc_enter (by decide) (Nat.le_of_ble_eq_true rfl) rfl ?_
  refine bc_aload_n dX7_nextIs_0 rfl ?_
  refine bc_callV (z := mX7_next) (ci := 7) dX7_nextIs_1 lX7_50 qX7_next (by rfl) (by rfl) (by rfl) (by rfl) (Nat.le_of_ble_eq_true rfl) (s_next hn h2 ha) (fun r1 μ1 e1 => ?_)
  obtain ⟨rfl, q1⟩ := e1
  obtain rfl := q1.symm
  refine bc_iload_n dX7_nextIs_4 rfl ?_
  refine bc_icmp_ne (tgt := 12) dX7_nextIs_5 (by decide) (fun h5 => ?_) (fun h5 => ?_)
  · refine bc_iconst (v := 0) dX7_nextIs_12 (by decide) ?_
    exact bc_ireturn dX7_nextIs_13 rfl rfl (⟨by rw [if_neg h5], rfl⟩)
  · refine bc_iconst (v := 1) dX7_nextIs_8 (by decide) ?_
    refine bc_goto (tgt := 13) dX7_nextIs_9 (by decide) ?_
    exact bc_ireturn dX7_nextIs_13 rfl rfl (⟨by rw [if_pos h5], rfl⟩)
theorem s_nextDg (hn : n ≤ 600) (h2 : μ 1 2 = nI n) (ha : a ≤ n) : bc_C (d + 1) LC mX7_nextIsDigit [.ref 1] (tx μ a k f q) (fun r ν => r = some (.int (if a < n ∧ isDg (μ 2 a) = true then 1 else 0)) ∧ ν = tx μ a k f q) := by
  refine bc_enter (by decide) (Nat.le_of_ble_eq_true rfl) rfl ?_
  by_cases hD : a < n ∧ isDg (μ 2 a) = true
  · have hx : nx (μ 2) n a = μ 2 a := by rw [nx, if_pos hD.1]
    have h5 : 48 ≤ μ 2 a ∧ μ 2 a ≤ 57 := by simpa [isDg] using hD.2
    rw [if_pos hD]
    refine bc_aload_n dX7_nextIsDigit_0 rfl ?_
    refine bc_callV (z := mX7_next) (ci := 7) dX7_nextIsDigit_1 lX7_50 qX7_next (by rfl) (by rfl) (by rfl) (by rfl) (Nat.le_of_ble_eq_true rfl) (s_next hn h2 ha) (fun r1 μ1 e1 => ?_)
    obtain ⟨rfl, q1⟩ := e1
    obtain rfl := q1.symm
    refine bc_bipush (v := 48) dX7_nextIsDigit_4 (by decide) ?_
    refine bc_icmp_lt (tgt := 22) dX7_nextIsDigit_6 (by decide) (fun h6 => absurd h6 (by rw [hx, Int32.not_lt]; exact h5.1)) (fun h6 => ?_)
    refine bc_aload_n dX7_nextIsDigit_9 rfl ?_
    refine bc_callV (z := mX7_next) (ci := 7) dX7_nextIsDigit_10 lX7_50 qX7_next (by rfl) (by rfl) (by rfl) (by rfl) (Nat.le_of_ble_eq_true rfl) (s_next hn h2 ha) (fun r10 μ10 e10 => ?_)
    obtain ⟨rfl, q10⟩ := e10
    obtain rfl := q10.symm
    refine bc_bipush (v := 57) dX7_nextIsDigit_13 (by decide) ?_
    refine bc_icmp_gt (tgt := 22) dX7_nextIsDigit_15 (by decide) (fun h15 => absurd h15 (by rw [hx]; exact Int32.not_lt.mpr h5.2)) (fun h15 => ?_)
    refine bc_iconst (v := 1) dX7_nextIsDigit_18 (by decide) ?_
    refine bc_goto (tgt := 23) dX7_nextIsDigit_19 (by decide) ?_
    exact bc_ireturn dX7_nextIsDigit_23 rfl rfl (⟨rfl, rfl⟩)
  · rw [if_neg hD]
    refine bc_aload_n dX7_nextIsDigit_0 rfl ?_
    refine bc_callV (z := mX7_next) (ci := 7) dX7_nextIsDigit_1 lX7_50 qX7_next (by rfl) (by rfl) (by rfl) (by rfl) (Nat.le_of_ble_eq_true rfl) (s_next hn h2 ha) (fun r1 μ1 e1 => ?_)
    obtain ⟨rfl, q1⟩ := e1
    obtain rfl := q1.symm
    refine bc_bipush (v := 48) dX7_nextIsDigit_4 (by decide) ?_
    refine bc_icmp_lt (tgt := 22) dX7_nextIsDigit_6 (by decide) (fun h6 => ?_) (fun h6 => ?_)
    · refine bc_iconst (v := 0) dX7_nextIsDigit_22 (by decide) ?_
      exact bc_ireturn dX7_nextIsDigit_23 rfl rfl (⟨rfl, rfl⟩)
    · refine bc_aload_n dX7_nextIsDigit_9 rfl ?_
      refine bc_callV (z := mX7_next) (ci := 7) dX7_nextIsDigit_10 lX7_50 qX7_next (by rfl) (by rfl) (by rfl) (by rfl) (Nat.le_of_ble_eq_true rfl) (s_next hn h2 ha) (fun r10 μ10 e10 => ?_)
      obtain ⟨rfl, q10⟩ := e10
      obtain rfl := q10.symm
      refine bc_bipush (v := 57) dX7_nextIsDigit_13 (by decide) ?_
      refine bc_icmp_gt (tgt := 22) dX7_nextIsDigit_15 (by decide) (fun h15 => ?_) (fun h15 => absurd h15 (fun x => hD (nx_dg (Int32.not_lt.mp h6) (Int32.not_lt.mp x))))
      refine bc_iconst (v := 0) dX7_nextIsDigit_22 (by decide) ?_
      exact bc_ireturn dX7_nextIsDigit_23 rfl rfl (⟨rfl, rfl⟩)
theorem s_nextLt (hn : n ≤ 600) (h2 : μ 1 2 = nI n) (ha : a ≤ n) : bc_C (d + 1) LC mX7_nextIsLetter [.ref 1] (tx μ a k f q) (fun r ν => r = some (.int (if a < n ∧ isLt (μ 2 a) = true then 1 else 0)) ∧ ν = tx μ a k f q) := by
  refine bc_enter (by decide) (Nat.le_of_ble_eq_true rfl) rfl ?_
  by_cases hD : a < n ∧ isLt (μ 2 a) = true
  · have hx : nx (μ 2) n a = μ 2 a := by rw [nx, if_pos hD.1]
    have h5 : 97 ≤ μ 2 a ∧ μ 2 a ≤ 122 := by simpa [isLt] using hD.2
    rw [if_pos hD]
    refine bc_aload_n dX7_nextIsLetter_0 rfl ?_
    refine bc_callV (z := mX7_next) (ci := 7) dX7_nextIsLetter_1 lX7_50 qX7_next (by rfl) (by rfl) (by rfl) (by rfl) (Nat.le_of_ble_eq_true rfl) (s_next hn h2 ha) (fun r1 μ1 e1 => ?_)
    obtain ⟨rfl, q1⟩ := e1
    obtain rfl := q1.symm
    refine bc_bipush (v := 97) dX7_nextIsLetter_4 (by decide) ?_
    refine bc_icmp_lt (tgt := 22) dX7_nextIsLetter_6 (by decide) (fun h6 => absurd h6 (by rw [hx, Int32.not_lt]; exact h5.1)) (fun h6 => ?_)
    refine bc_aload_n dX7_nextIsLetter_9 rfl ?_
    refine bc_callV (z := mX7_next) (ci := 7) dX7_nextIsLetter_10 lX7_50 qX7_next (by rfl) (by rfl) (by rfl) (by rfl) (Nat.le_of_ble_eq_true rfl) (s_next hn h2 ha) (fun r10 μ10 e10 => ?_)
    obtain ⟨rfl, q10⟩ := e10
    obtain rfl := q10.symm
    refine bc_bipush (v := 122) dX7_nextIsLetter_13 (by decide) ?_
    refine bc_icmp_gt (tgt := 22) dX7_nextIsLetter_15 (by decide) (fun h15 => absurd h15 (by rw [hx]; exact Int32.not_lt.mpr h5.2)) (fun h15 => ?_)
    refine bc_iconst (v := 1) dX7_nextIsLetter_18 (by decide) ?_
    refine bc_goto (tgt := 23) dX7_nextIsLetter_19 (by decide) ?_
    exact bc_ireturn dX7_nextIsLetter_23 rfl rfl (⟨rfl, rfl⟩)
  · rw [if_neg hD]
    refine bc_aload_n dX7_nextIsLetter_0 rfl ?_
    refine bc_callV (z := mX7_next) (ci := 7) dX7_nextIsLetter_1 lX7_50 qX7_next (by rfl) (by rfl) (by rfl) (by rfl) (Nat.le_of_ble_eq_true rfl) (s_next hn h2 ha) (fun r1 μ1 e1 => ?_)
    obtain ⟨rfl, q1⟩ := e1
    obtain rfl := q1.symm
    refine bc_bipush (v := 97) dX7_nextIsLetter_4 (by decide) ?_
    refine bc_icmp_lt (tgt := 22) dX7_nextIsLetter_6 (by decide) (fun h6 => ?_) (fun h6 => ?_)
    · refine bc_iconst (v := 0) dX7_nextIsLetter_22 (by decide) ?_
      exact bc_ireturn dX7_nextIsLetter_23 rfl rfl (⟨rfl, rfl⟩)
    · refine bc_aload_n dX7_nextIsLetter_9 rfl ?_
      refine bc_callV (z := mX7_next) (ci := 7) dX7_nextIsLetter_10 lX7_50 qX7_next (by rfl) (by rfl) (by rfl) (by rfl) (Nat.le_of_ble_eq_true rfl) (s_next hn h2 ha) (fun r10 μ10 e10 => ?_)
      obtain ⟨rfl, q10⟩ := e10
      obtain rfl := q10.symm
      refine bc_bipush (v := 122) dX7_nextIsLetter_13 (by decide) ?_
      refine bc_icmp_gt (tgt := 22) dX7_nextIsLetter_15 (by decide) (fun h15 => ?_) (fun h15 => absurd h15 (fun x => hD (nx_lt (Int32.not_lt.mp h6) (Int32.not_lt.mp x))))
      refine bc_iconst (v := 0) dX7_nextIsLetter_22 (by decide) ?_
      exact bc_ireturn dX7_nextIsLetter_23 rfl rfl (⟨rfl, rfl⟩)
theorem nx_c {t : Nat → Int32} {c : Int32} (hc : ¬ c = -1) : nx t n a = c ↔ a < n ∧ t a = c := by
  unfold nx
  split
  · rename_i h; exact ⟨fun x => ⟨h, x⟩, fun x => x.2⟩
  · rename_i h; exact ⟨fun x => absurd x.symm hc, fun x => absurd x.1 h⟩
theorem s_takes (hn : n ≤ 600) (h2 : μ 1 2 = nI n) (ha : a ≤ n) {c : Int32} (hc : ¬ c = -1) : bc_C (d + 1) LC mX7_takes [.ref 1, .int c] (tx μ a k f q) (fun r ν => if f = 0 ∧ a < n ∧ μ 2 a = c then r = some (.int 1) ∧ ν = tx μ (skp (μ 2) n (a + 1)) a f q else r = some (.int 0) ∧ ν = tx μ a k f q) := by
  refine bc_enter (by decide) (Nat.le_of_ble_eq_true rfl) rfl ?_
  by_cases hf : f = 0
  · by_cases hl : a < n ∧ μ 2 a = c
    · simp only [if_pos (show f = 0 ∧ a < n ∧ μ 2 a = c from ⟨hf, hl⟩)]
      refine bc_aload_n dX7_takes_0 rfl ?_
      refine bc_callV (z := mX7_isSound) (ci := 7) dX7_takes_1 lX7_46 qX7_isSound (by rfl) (by rfl) (by rfl) (by rfl) (Nat.le_of_ble_eq_true rfl) (s_sound) (fun r1 μ1 e1 => ?_)
      obtain ⟨rfl, q1⟩ := e1
      obtain rfl := q1.symm
      refine bc_if_eq (tgt := 15) dX7_takes_4 (by decide) (fun h4 => absurd h4 (by rw [if_pos hf]; decide)) (fun h4 => ?_)
      refine bc_aload_n dX7_takes_7 rfl ?_
      refine bc_callV (z := mX7_next) (ci := 7) dX7_takes_8 lX7_50 qX7_next (by rfl) (by rfl) (by rfl) (by rfl) (Nat.le_of_ble_eq_true rfl) (s_next hn h2 ha) (fun r8 μ8 e8 => ?_)
      obtain ⟨rfl, q8⟩ := e8
      obtain rfl := q8.symm
      refine bc_iload_n dX7_takes_11 rfl ?_
      refine bc_icmp_eq (tgt := 17) dX7_takes_12 (by decide) (fun h12 => ?_) (fun h12 => absurd h12 (fun x => x ((nx_c hc).mpr hl)))
      refine bc_aload_n dX7_takes_17 rfl ?_
      refine bc_aload_n dX7_takes_18 rfl ?_
      refine bc_geti dX7_takes_19 fX7_34 (rfl) rfl ?_
      refine bc_put dX7_takes_22 fX7_37 ftX7 fpX7_4 rfl rfl (rfl) rfl ?_
      rw [tx_3, tx_u4]
      refine bc_aload_n dX7_takes_25 rfl ?_
      refine bc_dup dX7_takes_26 rfl ?_
      refine bc_geti dX7_takes_27 fX7_34 (rfl) rfl ?_
      refine bc_iconst (v := 1) dX7_takes_30 (by decide) ?_
      refine bc_iadd dX7_takes_31 ?_
      refine bc_put dX7_takes_32 fX7_34 ftX7 fpX7_3 rfl rfl (rfl) rfl ?_
      rw [tx_3, bn_add1, tx_u3]
      refine bc_aload_n dX7_takes_35 rfl ?_
      refine bc_callV (z := mX7_passBlanks) (ci := 7) dX7_takes_36 lX7_43 qX7_passBlanks (by rfl) (by rfl) (by rfl) (by rfl) (Nat.le_of_ble_eq_true rfl) (s_pass hn h2 (by omega)) (fun r36 μ36 e36 => ?_)
      obtain ⟨rfl, q36⟩ := e36
      obtain rfl := q36.symm
      refine bc_iconst (v := 1) dX7_takes_39 (by decide) ?_
      exact bc_ireturn dX7_takes_40 rfl rfl (⟨rfl, rfl⟩)
    · simp only [if_neg (show ¬ (f = 0 ∧ a < n ∧ μ 2 a = c) from fun x => hl x.2)]
      refine bc_aload_n dX7_takes_0 rfl ?_
      refine bc_callV (z := mX7_isSound) (ci := 7) dX7_takes_1 lX7_46 qX7_isSound (by rfl) (by rfl) (by rfl) (by rfl) (Nat.le_of_ble_eq_true rfl) (s_sound) (fun r1 μ1 e1 => ?_)
      obtain ⟨rfl, q1⟩ := e1
      obtain rfl := q1.symm
      refine bc_if_eq (tgt := 15) dX7_takes_4 (by decide) (fun h4 => absurd h4 (by rw [if_pos hf]; decide)) (fun h4 => ?_)
      refine bc_aload_n dX7_takes_7 rfl ?_
      refine bc_callV (z := mX7_next) (ci := 7) dX7_takes_8 lX7_50 qX7_next (by rfl) (by rfl) (by rfl) (by rfl) (Nat.le_of_ble_eq_true rfl) (s_next hn h2 ha) (fun r8 μ8 e8 => ?_)
      obtain ⟨rfl, q8⟩ := e8
      obtain rfl := q8.symm
      refine bc_iload_n dX7_takes_11 rfl ?_
      refine bc_icmp_eq (tgt := 17) dX7_takes_12 (by decide) (fun h12 => absurd h12 (fun x => hl ((nx_c hc).mp x))) (fun h12 => ?_)
      refine bc_iconst (v := 0) dX7_takes_15 (by decide) ?_
      exact bc_ireturn dX7_takes_16 rfl rfl (⟨rfl, rfl⟩)
  · simp only [if_neg (show ¬ (f = 0 ∧ a < n ∧ μ 2 a = c) from fun x => hf x.1)]
    refine bc_aload_n dX7_takes_0 rfl ?_
    refine bc_callV (z := mX7_isSound) (ci := 7) dX7_takes_1 lX7_46 qX7_isSound (by rfl) (by rfl) (by rfl) (by rfl) (Nat.le_of_ble_eq_true rfl) (s_sound) (fun r1 μ1 e1 => ?_)
    obtain ⟨rfl, q1⟩ := e1
    obtain rfl := q1.symm
    refine bc_if_eq (tgt := 15) dX7_takes_4 (by decide) (fun h4 => ?_) (fun h4 => absurd h4 (by rw [if_neg hf]; exact fun x => x rfl))
    refine bc_iconst (v := 0) dX7_takes_15 (by decide) ?_
    exact bc_ireturn dX7_takes_16 rfl rfl (⟨rfl, rfl⟩)
theorem tq_acc {S : TS} {kd pl : Nat} (h : tq n S a f q) (h1 : 1 ≤ kd) (h3 : kd ≤ 3) (hp : pl ≤ n) : tq n (sAcc kd pl S) a (if f = 0 then nI kd else f) (if f = 0 then nI pl else q) := by
  cases S with
  | inl x =>
    obtain ⟨x, y⟩ := x
    rw [if_neg (tq_f h), if_neg (tq_f h)]
    exact h
  | inr p =>
    rw [if_pos h.2.2.1, if_pos h.2.2.1]
    exact ⟨by rw [h.1]; exact h.2.1, rfl, rfl, h1, h3, hp⟩
theorem s_need {S : TS} (hn : n ≤ 600) (h2 : μ 1 2 = nI n) (hS : tq n S a f q) {c : Int32} (hc : ¬ c = -1) : bc_C (d + 1) LC mX7_need [.ref 1, .int c] (tx μ a k f q) (fun r ν => r = none ∧ ∃ a' f' q', ν = tx μ a' k f' q' ∧ tq n (sNeed (μ 2) n c S) a' f' q') := by
  have ha := tq_le hS
  refine bc_enter (by decide) (Nat.le_of_ble_eq_true rfl) rfl ?_
  by_cases hl : a < n ∧ μ 2 a = c
  · skip
    refine bc_aload_n dX7_need_0 rfl ?_
    refine bc_callV (z := mX7_next) (ci := 7) dX7_need_1 lX7_50 qX7_next (by rfl) (by rfl) (by rfl) (by rfl) (Nat.le_of_ble_eq_true rfl) (s_next hn h2 ha) (fun r1 μ1 e1 => ?_)
    obtain ⟨rfl, q1⟩ := e1
    obtain rfl := q1.symm
    refine bc_iload_n dX7_need_4 rfl ?_
    refine bc_icmp_eq (tgt := 18) dX7_need_5 (by decide) (fun h5 => ?_) (fun h5 => absurd h5 (fun x => x ((nx_c hc).mpr hl)))
    refine bc_aload_n dX7_need_18 rfl ?_
    refine bc_dup dX7_need_19 rfl ?_
    refine bc_geti dX7_need_20 fX7_34 (rfl) rfl ?_
    refine bc_iconst (v := 1) dX7_need_23 (by decide) ?_
    refine bc_iadd dX7_need_24 ?_
    refine bc_put dX7_need_25 fX7_34 ftX7 fpX7_3 rfl rfl (rfl) rfl ?_
    rw [tx_3, bn_add1, tx_u3]
    refine bc_aload_n dX7_need_28 rfl ?_
    refine bc_callV (z := mX7_passBlanks) (ci := 7) dX7_need_29 lX7_43 qX7_passBlanks (by rfl) (by rfl) (by rfl) (by rfl) (Nat.le_of_ble_eq_true rfl) (s_pass hn h2 (by omega)) (fun r29 μ29 e29 => ?_)
    obtain ⟨rfl, q29⟩ := e29
    obtain rfl := q29.symm
    exact bc_return dX7_need_32 rfl (by
refine ⟨rfl, _, _, _, rfl, ?_⟩
cases S with
| inl x => exact ⟨rn_le (by omega), hS.2⟩
| inr p =>
  obtain ⟨rfl, b1, b2, b3⟩ := hS
  simp only [sNeed, if_pos hl]
  exact ⟨rfl, rn_le (by omega), b2, b3⟩)
  · skip
    refine bc_aload_n dX7_need_0 rfl ?_
    refine bc_callV (z := mX7_next) (ci := 7) dX7_need_1 lX7_50 qX7_next (by rfl) (by rfl) (by rfl) (by rfl) (Nat.le_of_ble_eq_true rfl) (s_next hn h2 ha) (fun r1 μ1 e1 => ?_)
    obtain ⟨rfl, q1⟩ := e1
    obtain rfl := q1.symm
    refine bc_iload_n dX7_need_4 rfl ?_
    refine bc_icmp_eq (tgt := 18) dX7_need_5 (by decide) (fun h5 => absurd h5 (fun x => hl ((nx_c hc).mp x))) (fun h5 => ?_)
    refine bc_aload_n dX7_need_8 rfl ?_
    refine bc_iconst (v := 1) dX7_need_9 (by decide) ?_
    refine bc_aload_n dX7_need_10 rfl ?_
    refine bc_geti dX7_need_11 fX7_34 (rfl) rfl ?_
    refine bc_callV (z := mX7_accuse) (ci := 7) dX7_need_14 lX7_54 qX7_accuse (by rfl) (by rfl) (by rfl) (by rfl) (Nat.le_of_ble_eq_true rfl) (s_accuse _ _) (fun r14 μ14 e14 => ?_)
    obtain ⟨rfl, q14⟩ := e14
    obtain rfl := q14.symm
    exact bc_return dX7_need_17 rfl (by
refine ⟨rfl, _, _, _, rfl, ?_⟩
rw [tx_3]
have h9 := tq_acc (kd := 1) (pl := a) hS (by omega) (by omega) ha
cases S with
| inl x => exact h9
| inr p =>
  obtain ⟨rfl, b1, b2, b3⟩ := hS
  simp only [sNeed, if_neg hl]
  exact h9)
def sEnd (n : Nat) : TS → TS
  | .inl x => .inl x
  | .inr p => if p < n then .inl (1, p) else .inr p
theorem s_needEnd {S : TS} (hn : n ≤ 600) (h2 : μ 1 2 = nI n) (hS : tq n S a f q) : bc_C (d + 1) LC mX7_needEnd [.ref 1] (tx μ a k f q) (fun r ν => r = none ∧ ∃ f' q', ν = tx μ a k f' q' ∧ tq n (sEnd n S) a f' q') := by
  have ha := tq_le hS
  refine bc_enter (by decide) (Nat.le_of_ble_eq_true rfl) rfl ?_
  by_cases hl : a < n
  · skip
    refine bc_aload_n dX7_needEnd_0 rfl ?_
    refine bc_geti dX7_needEnd_1 fX7_34 (rfl) rfl ?_
    refine bc_aload_n dX7_needEnd_4 rfl ?_
    refine bc_geti dX7_needEnd_5 fX7_31 (rfl) rfl ?_
    refine bc_icmp_ge (tgt := 20) dX7_needEnd_8 (by decide) (fun h8 => absurd h8 (by rw [tx_3, tx_n h2]; exact nI_ge (by omega) (by omega))) (fun h8 => ?_)
    refine bc_aload_n dX7_needEnd_11 rfl ?_
    refine bc_iconst (v := 1) dX7_needEnd_12 (by decide) ?_
    refine bc_aload_n dX7_needEnd_13 rfl ?_
    refine bc_geti dX7_needEnd_14 fX7_34 (rfl) rfl ?_
    refine bc_callV (z := mX7_accuse) (ci := 7) dX7_needEnd_17 lX7_54 qX7_accuse (by rfl) (by rfl) (by rfl) (by rfl) (Nat.le_of_ble_eq_true rfl) (s_accuse _ _) (fun r17 μ17 e17 => ?_)
    obtain ⟨rfl, q17⟩ := e17
    obtain rfl := q17.symm
    exact bc_return dX7_needEnd_20 rfl (by
refine ⟨rfl, _, _, rfl, ?_⟩
rw [tx_3]
have h9 := tq_acc (kd := 1) (pl := a) hS (by omega) (by omega) ha
cases S with
| inl x => exact h9
| inr p =>
  obtain ⟨rfl, b1, b2, b3⟩ := hS
  simp only [sEnd, if_pos hl]
  exact h9)
  · skip
    refine bc_aload_n dX7_needEnd_0 rfl ?_
    refine bc_geti dX7_needEnd_1 fX7_34 (rfl) rfl ?_
    refine bc_aload_n dX7_needEnd_4 rfl ?_
    refine bc_geti dX7_needEnd_5 fX7_31 (rfl) rfl ?_
    refine bc_icmp_ge (tgt := 20) dX7_needEnd_8 (by decide) (fun h8 => ?_) (fun h8 => absurd h8 (by rw [tx_3, tx_n h2]; exact fun x => x (nI_le (by omega) (by omega))))
    exact bc_return dX7_needEnd_20 rfl (by
refine ⟨rfl, _, _, rfl, ?_⟩
cases S with
| inl x => exact hS
| inr p =>
  obtain ⟨rfl, b1, b2, b3⟩ := hS
  simp only [sEnd, if_neg hl]
  exact ⟨rfl, b1, b2, b3⟩)
end TXT
