/-! BreadCity$Text: numbers and words -/
section TXT
variable {d : Nat} {μ : bc_M} {n a k : Nat} {f q : Int32}
theorem mn6 {c : Int32} {v : Nat} (h : isDg c = true) : (if nI (min 1000000 v) * 10 + c - 48 < 1000000 then nI (min 1000000 v) * 10 + c - 48 else 1000000) = nI (min 1000000 (v * 10 + dgV c)) := by
  obtain ⟨h1, h2⟩ := dg_sub h
  have e : nI (min 1000000 v) * 10 + c - 48 = nI (min 1000000 v * 10 + dgV c) := by
    generalize dgV c = g at h1
    rw [h1]
    rw [show (10 : Int32) = nI 10 from rfl, bn_mul, bn_add, show (48 : Int32) = nI 48 from rfl, pk_sub (by omega)]
    congr 1
  rw [e, show (1000000 : Int32) = nI 1000000 from rfl]
  by_cases h3 : min 1000000 v * 10 + dgV c < 1000000
  · rw [if_pos ((bn_ltN (by omega) (by omega)).mpr h3)]
    congr 1
    omega
  · rw [if_neg (fun x => h3 ((bn_ltN (by omega) (by omega)).mp x))]
    congr 1
    omega
theorem hi_le {w HI : Nat} (hw : w ≤ 1000000) (hH : HI ≤ 1000) : nI w ≤ nI HI - 1 ↔ w < HI := by
  rw [bn_le, bn_ti (by omega)]
  have e : (nI HI - 1).toInt = (HI : Int) - 1 := by
    rw [show (1 : Int32) = nI 1 from rfl, pk_sub_toInt (by omega) (by omega)]
    rfl
  rw [e]
  omega
theorem s_number {S : TS} {LO HI : Nat} {lo hi : Int32} (hn : n ≤ 600) (h2 : μ 1 2 = nI n) (hS : tq n S a f q) (hlo : lo = nI LO) (hhi : hi = nI HI - 1) (hL : LO ≤ 1) (hH : HI ≤ 1000) : bc_C (d + 2) LC mX7_number [.ref 1, .int lo, .int hi] (tx μ a k f q) (fun r ν => ∃ a' f' q' v, r = some (.int v) ∧ ν = tx μ a' a f' q' ∧ tq n (sNum (μ 2) n LO HI S).1 a' f' q' ∧ (∀ p', (sNum (μ 2) n LO HI S).1 = .inr p' → v = nI (sNum (μ 2) n LO HI S).2)) := by
  have ha := tq_le hS
  subst hlo
  subst hhi
  refine bc_enter (by decide) (Nat.le_of_ble_eq_true rfl) rfl ?_
  by_cases hD : a < n ∧ isDg (μ 2 a) = true
  · have hge : a ≤ dgE (μ 2) n a := rn_ge _ _ _ _
    have hle : dgE (μ 2) n a ≤ n := rn_le (by omega)
    have fin : bc_W (d + 2) LC mX7_number 77 [.ref 1, .int (nI LO), .int (nI HI - 1), .int (nI (min 1000000 (dv (μ 2) n a)))] [] (tx μ (dgE (μ 2) n a) a f q) (fun r ν => ∃ a' f' q' v, r = some (.int v) ∧ ν = tx μ a' a f' q' ∧ tq n (sNum (μ 2) n LO HI S).1 a' f' q' ∧ (∀ p', (sNum (μ 2) n LO HI S).1 = .inr p' → v = nI (sNum (μ 2) n LO HI S).2)) := by
      have hsk : skp (μ 2) n (dgE (μ 2) n a) ≤ n := rn_le hle
      by_cases hb : LO ≤ dv (μ 2) n a ∧ dv (μ 2) n a < HI
      · skip
        refine bc_aload_n dX7_number_77 rfl ?_
        refine bc_callV (z := mX7_passBlanks) (ci := 7) dX7_number_78 lX7_43 qX7_passBlanks (by rfl) (by rfl) (by rfl) (by rfl) (Nat.le_of_ble_eq_true rfl) (s_pass hn h2 hle) (fun r78 μ78 e78 => ?_)
        obtain ⟨rfl, q78⟩ := e78
        obtain rfl := q78.symm
        refine bc_iload_n dX7_number_81 rfl ?_
        refine bc_iload_n dX7_number_82 rfl ?_
        refine bc_icmp_lt (tgt := 91) dX7_number_83 (by decide) (fun h83 => absurd h83 (by rw [bn_ltN (by omega) (by omega)]; omega)) (fun h83 => ?_)
        refine bc_iload_n dX7_number_86 rfl ?_
        refine bc_iload_n dX7_number_87 rfl ?_
        refine bc_icmp_le (tgt := 100) dX7_number_88 (by decide) (fun h88 => ?_) (fun h88 => absurd h88 (fun x => x ((hi_le (by omega) hH).mpr (by omega))))
        refine bc_iload_n dX7_number_100 rfl ?_
        exact bc_ireturn dX7_number_101 rfl rfl (by
refine ⟨_, _, _, _, rfl, rfl, ?_, ?_⟩
· cases S with
  | inl x => exact ⟨hsk, hS.2⟩
  | inr p =>
    obtain ⟨rfl, b1, b2, b3⟩ := hS
    simp only [sNum, if_pos hD, if_pos hb]
    exact ⟨rfl, hsk, b2, b3⟩
· intro p' hp'
  cases S with
  | inl x => exact absurd hp' (by simp [sNum])
  | inr p =>
    obtain ⟨rfl, b1, b2, b3⟩ := hS
    simp only [sNum, if_pos hD, if_pos hb]
    congr 1
    omega)
      · have fin2 : ∀ ls : List Value, ls = [.ref 1, .int (nI LO), .int (nI HI - 1), .int (nI (min 1000000 (dv (μ 2) n a)))] → bc_W (d + 2) LC mX7_number 91 ls [] (tx μ (skp (μ 2) n (dgE (μ 2) n a)) a f q) (fun r ν => ∃ a' f' q' v, r = some (.int v) ∧ ν = tx μ a' a f' q' ∧ tq n (sNum (μ 2) n LO HI S).1 a' f' q' ∧ (∀ p', (sNum (μ 2) n LO HI S).1 = .inr p' → v = nI (sNum (μ 2) n LO HI S).2)) := by
          intro ls hls
          subst hls
          refine bc_aload_n dX7_number_91 rfl ?_
          refine bc_iconst (v := 2) dX7_number_92 (by decide) ?_
          refine bc_aload_n dX7_number_93 rfl ?_
          refine bc_geti dX7_number_94 fX7_37 (rfl) rfl ?_
          refine bc_callV (z := mX7_accuse) (ci := 7) dX7_number_97 lX7_54 qX7_accuse (by rfl) (by rfl) (by rfl) (by rfl) (Nat.le_of_ble_eq_true rfl) (s_accuse _ _) (fun r97 μ97 e97 => ?_)
          obtain ⟨rfl, q97⟩ := e97
          obtain rfl := q97.symm
          refine bc_iload_n dX7_number_100 rfl ?_
          exact bc_ireturn dX7_number_101 rfl rfl (by
refine ⟨_, _, _, _, rfl, rfl, ?_, ?_⟩
· rw [tx_4]
  cases S with
  | inl x =>
    obtain ⟨x, y⟩ := x
    rw [if_neg (tq_f hS), if_neg (tq_f hS)]
    exact ⟨hsk, hS.2⟩
  | inr p =>
    obtain ⟨rfl, b1, b2, b3⟩ := hS
    simp only [sNum, if_pos hD, if_neg hb, if_pos b2]
    exact ⟨hsk, rfl, rfl, by omega, by omega, b1⟩
· intro p' hp'
  cases S with
  | inl x => exact absurd hp' (by simp [sNum])
  | inr p =>
    obtain ⟨rfl, b1, b2, b3⟩ := hS
    simp only [sNum, if_pos hD, if_neg hb] at hp'
    cases hp')
        refine bc_aload_n dX7_number_77 rfl ?_
        refine bc_callV (z := mX7_passBlanks) (ci := 7) dX7_number_78 lX7_43 qX7_passBlanks (by rfl) (by rfl) (by rfl) (by rfl) (Nat.le_of_ble_eq_true rfl) (s_pass hn h2 hle) (fun r78 μ78 e78 => ?_)
        obtain ⟨rfl, q78⟩ := e78
        obtain rfl := q78.symm
        refine bc_iload_n dX7_number_81 rfl ?_
        refine bc_iload_n dX7_number_82 rfl ?_
        refine bc_icmp_lt (tgt := 91) dX7_number_83 (by decide) (fun h83 => ?_) (fun h83 => ?_)
        · exact fin2 _ rfl
        · refine bc_iload_n dX7_number_86 rfl ?_
          refine bc_iload_n dX7_number_87 rfl ?_
          refine bc_icmp_le (tgt := 100) dX7_number_88 (by decide) (fun h88 => absurd h88 (by rw [bn_ltN (by omega) (by omega)] at h83; rw [hi_le (by omega) hH]; omega)) (fun h88 => ?_)
          exact fin2 _ rfl
    have loop : ∀ m b v, b + m = dgE (μ 2) n a → a ≤ b → dvF (μ 2) m b v = dv (μ 2) n a → bc_W (d + 2) LC mX7_number 28 [.ref 1, .int (nI LO), .int (nI HI - 1), .int (nI (min 1000000 v))] [] (tx μ b a f q) (fun r ν => ∃ a' f' q' v, r = some (.int v) ∧ ν = tx μ a' a f' q' ∧ tq n (sNum (μ 2) n LO HI S).1 a' f' q' ∧ (∀ p', (sNum (μ 2) n LO HI S).1 = .inr p' → v = nI (sNum (μ 2) n LO HI S).2)) := by
      intro m
      induction m with
      | zero =>
        intro b v hb hab hv
        have hb : b = dgE (μ 2) n a := by omega
        subst hb
        have hv : v = dv (μ 2) n a := hv
        subst hv
        refine bc_aload_n dX7_number_28 rfl ?_
        refine bc_geti dX7_number_29 fX7_34 (rfl) rfl ?_
        refine bc_aload_n dX7_number_32 rfl ?_
        refine bc_geti dX7_number_33 fX7_31 (rfl) rfl ?_
        refine bc_icmp_ge (tgt := 77) dX7_number_36 (by decide) (fun h36 => ?_) (fun h36 => ?_)
        · exact fin
        · refine bc_aload_n dX7_number_39 rfl ?_
          refine bc_callV (z := mX7_nextIsDigit) (ci := 7) dX7_number_40 lX7_58 qX7_nextIsDigit (by rfl) (by rfl) (by rfl) (by rfl) (Nat.le_of_ble_eq_true rfl) (s_nextDg hn h2 hle) (fun r40 μ40 e40 => ?_)
          obtain ⟨rfl, q40⟩ := e40
          obtain rfl := q40.symm
          refine bc_if_eq (tgt := 77) dX7_number_43 (by decide) (fun h43 => ?_) (fun h43 => absurd h43 (by rw [if_neg (fun x => rn_at ha x.1 x.2)]; exact fun x => x rfl))
          exact fin
      | succ m ih =>
        intro b v hb hab hv
        have hdb : isDg (μ 2 b) = true := rn_all (n := n) (p := a) hab (by show b < dgE (μ 2) n a; omega)
        have hnx : nx (μ 2) n b = μ 2 b := by rw [nx, if_pos (by omega)]
        refine bc_aload_n dX7_number_28 rfl ?_
        refine bc_geti dX7_number_29 fX7_34 (rfl) rfl ?_
        refine bc_aload_n dX7_number_32 rfl ?_
        refine bc_geti dX7_number_33 fX7_31 (rfl) rfl ?_
        refine bc_icmp_ge (tgt := 77) dX7_number_36 (by decide) (fun h36 => absurd h36 (by rw [tx_3, tx_n h2]; exact nI_ge (by omega) (by omega))) (fun h36 => ?_)
        refine bc_aload_n dX7_number_39 rfl ?_
        refine bc_callV (z := mX7_nextIsDigit) (ci := 7) dX7_number_40 lX7_58 qX7_nextIsDigit (by rfl) (by rfl) (by rfl) (by rfl) (Nat.le_of_ble_eq_true rfl) (s_nextDg hn h2 (by omega)) (fun r40 μ40 e40 => ?_)
        obtain ⟨rfl, q40⟩ := e40
        obtain rfl := q40.symm
        refine bc_if_eq (tgt := 77) dX7_number_43 (by decide) (fun h43 => absurd h43 (by rw [if_pos ⟨by omega, hdb⟩]; decide)) (fun h43 => ?_)
        refine bc_ldc dX7_number_46 nX7_61 ?_
        refine bc_iload_n dX7_number_48 rfl ?_
        refine bc_bipush (v := 10) dX7_number_49 (by decide) ?_
        refine bc_imul dX7_number_51 ?_
        refine bc_aload_n dX7_number_52 rfl ?_
        refine bc_callV (z := mX7_next) (ci := 7) dX7_number_53 lX7_50 qX7_next (by rfl) (by rfl) (by rfl) (by rfl) (Nat.le_of_ble_eq_true rfl) (s_next hn h2 (by omega)) (fun r53 μ53 e53 => ?_)
        obtain ⟨rfl, q53⟩ := e53
        obtain rfl := q53.symm
        refine bc_iadd dX7_number_56 ?_
        refine bc_bipush (v := 48) dX7_number_57 (by decide) ?_
        refine bc_isub dX7_number_59 ?_
        refine bc_min dX7_number_60 wX7_22 (Nat.le_of_ble_eq_true rfl) ?_
        rw [hnx, mn6 hdb]
        refine bc_istore_n dX7_number_63 (by decide) rfl ?_
        refine bc_aload_n dX7_number_64 rfl ?_
        refine bc_dup dX7_number_65 rfl ?_
        refine bc_geti dX7_number_66 fX7_34 (rfl) rfl ?_
        refine bc_iconst (v := 1) dX7_number_69 (by decide) ?_
        refine bc_iadd dX7_number_70 ?_
        refine bc_put dX7_number_71 fX7_34 ftX7 fpX7_3 rfl rfl (rfl) rfl ?_
        refine bc_goto (tgt := 28) dX7_number_74 (by decide) ?_
        rw [tx_3, bn_add1, tx_u3]
        exact ih (b + 1) (v * 10 + dgV (μ 2 b)) (by omega) (by omega) hv
    refine bc_aload_n dX7_number_0 rfl ?_
    refine bc_aload_n dX7_number_1 rfl ?_
    refine bc_geti dX7_number_2 fX7_34 (rfl) rfl ?_
    refine bc_put dX7_number_5 fX7_37 ftX7 fpX7_4 rfl rfl (rfl) rfl ?_
    rw [tx_3, tx_u4]
    refine bc_aload_n dX7_number_8 rfl ?_
    refine bc_callV (z := mX7_nextIsDigit) (ci := 7) dX7_number_9 lX7_58 qX7_nextIsDigit (by rfl) (by rfl) (by rfl) (by rfl) (Nat.le_of_ble_eq_true rfl) (s_nextDg hn h2 ha) (fun r9 μ9 e9 => ?_)
    obtain ⟨rfl, q9⟩ := e9
    obtain rfl := q9.symm
    refine bc_if_ne (tgt := 26) dX7_number_12 (by decide) (fun h12 => ?_) (fun h12 => absurd h12 (by rw [if_pos hD]; decide))
    refine bc_iconst (v := 0) dX7_number_26 (by decide) ?_
    refine bc_istore_n dX7_number_27 (by decide) rfl ?_
    exact loop (dgE (μ 2) n a - a) a 0 (by omega) (Nat.le_refl _) rfl
  · skip
    refine bc_aload_n dX7_number_0 rfl ?_
    refine bc_aload_n dX7_number_1 rfl ?_
    refine bc_geti dX7_number_2 fX7_34 (rfl) rfl ?_
    refine bc_put dX7_number_5 fX7_37 ftX7 fpX7_4 rfl rfl (rfl) rfl ?_
    rw [tx_3, tx_u4]
    refine bc_aload_n dX7_number_8 rfl ?_
    refine bc_callV (z := mX7_nextIsDigit) (ci := 7) dX7_number_9 lX7_58 qX7_nextIsDigit (by rfl) (by rfl) (by rfl) (by rfl) (Nat.le_of_ble_eq_true rfl) (s_nextDg hn h2 ha) (fun r9 μ9 e9 => ?_)
    obtain ⟨rfl, q9⟩ := e9
    obtain rfl := q9.symm
    refine bc_if_ne (tgt := 26) dX7_number_12 (by decide) (fun h12 => absurd h12 (by rw [if_neg hD]; exact fun x => x rfl)) (fun h12 => ?_)
    refine bc_aload_n dX7_number_15 rfl ?_
    refine bc_iconst (v := 1) dX7_number_16 (by decide) ?_
    refine bc_aload_n dX7_number_17 rfl ?_
    refine bc_geti dX7_number_18 fX7_34 (rfl) rfl ?_
    refine bc_callV (z := mX7_accuse) (ci := 7) dX7_number_21 lX7_54 qX7_accuse (by rfl) (by rfl) (by rfl) (by rfl) (Nat.le_of_ble_eq_true rfl) (s_accuse _ _) (fun r21 μ21 e21 => ?_)
    obtain ⟨rfl, q21⟩ := e21
    obtain rfl := q21.symm
    refine bc_iload_n dX7_number_24 rfl ?_
    exact bc_ireturn dX7_number_25 rfl rfl (by
refine ⟨_, _, _, _, rfl, rfl, ?_, ?_⟩
· rw [tx_3]
  cases S with
  | inl x =>
    obtain ⟨x, y⟩ := x
    rw [if_neg (tq_f hS), if_neg (tq_f hS)]
    exact hS
  | inr p =>
    obtain ⟨rfl, b1, b2, b3⟩ := hS
    simp only [sNum, if_neg hD, if_pos b2]
    exact ⟨by omega, rfl, rfl, by omega, by omega, b1⟩
· intro p' hp'
  cases S with
  | inl x => exact absurd hp' (by simp [sNum])
  | inr p =>
    obtain ⟨rfl, b1, b2, b3⟩ := hS
    simp only [sNum, if_neg hD] at hp'
    cases hp')
/-! words -/
/-- at a String constant's place i: the words before, where this one begins -/
def wcF (K : Nat) : Nat → Nat × Nat
  | 0 => (0, 0)
  | i + 1 => if sch K i = 32 then ((wcF K i).1 + 1, i + 1) else wcF K i
theorem wcF_stat {K i : Nat} (hK : 1 ≤ K) (hK3 : K ≤ 3) (hi : i < bc_len.getD K 0) (h : sch K i = 32) : (bw K)[(wcF K i).1]? = some (wdF (sch K) (i - (wcF K i).2) (wcF K i).2) ∧ (wcF K i).2 ≤ i := by
  have h9 : ∀ K, K < 4 → ∀ i, i < bc_len.getD K 0 → (K = 0 ∨ ¬ sch K i = 32 ∨ ((bw K)[(wcF K i).1]? = some (wdF (sch K) (i - (wcF K i).2) (wcF K i).2) ∧ (wcF K i).2 ≤ i)) := by decide +kernel
  rcases h9 K (by omega) i hi with q | q | q
  · omega
  · exact absurd h q
  · exact q
theorem wcF_end {K : Nat} (hK : 1 ≤ K) (hK3 : K ≤ 3) : (wcF K (bc_len.getD K 0)).1 = (bw K).length ∧ bc_len.getD K 0 < 100 := by
  have h9 : ∀ K, K ≤ 3 → 1 ≤ K → (wcF K (bc_len.getD K 0)).1 = (bw K).length ∧ bc_len.getD K 0 < 100 := by decide +kernel
  exact h9 K hK3 hK
theorem s_atMark {K fr to : Nat} (hK : K < 24) (hft : fr ≤ to) (hto : to ≤ bc_len.getD K 0) (hl : bc_len.getD K 0 < 100) (hk : k + (to - fr) ≤ 600) : bc_C (d + 4) LC mX7_isAtMark [.ref 1, .ref (1000 + K), .int (nI fr), .int (nI to)] (tx μ a k f q) (fun r ν => r = some (.int (if wdF (μ 2) (to - fr) k = wdF (sch K) (to - fr) fr then 1 else 0)) ∧ ν = tx μ a k f q) := by
  refine bc_enter (by decide) (Nat.le_of_ble_eq_true rfl) rfl ?_
  have loop : ∀ (m i : Nat) (w : Value), i + m = to → fr ≤ i → w.category = 1 → bc_W (d + 4) LC mX7_isAtMark 3 [.ref 1, .ref (1000 + K), .int (nI fr), .int (nI to), .int (nI i), w] [] (tx μ a k f q) (fun r ν => r = some (.int (if wdF (μ 2) m (k + (i - fr)) = wdF (sch K) m i then 1 else 0)) ∧ ν = tx μ a k f q) := by
    intro m
    induction m with
    | zero =>
      intro i w hi hfi hw
      refine bc_iload dX7_isAtMark_3 rfl ?_
      refine bc_iload_n dX7_isAtMark_5 rfl ?_
      refine bc_icmp_ge (tgt := 68) dX7_isAtMark_6 (by decide) (fun h6 => ?_) (fun h6 => absurd h6 (fun x => x (nI_le (by omega) (by omega))))
      refine bc_iconst (v := 1) dX7_isAtMark_68 (by decide) ?_
      exact bc_ireturn dX7_isAtMark_69 rfl rfl (⟨rfl, rfl⟩)
    | succ m ih =>
      intro i w hi hfi hw
      have ei : nI k + nI i - nI fr = nI (k + (i - fr)) := by rw [bn_add, pk_sub (by omega)]; congr 1; omega
      have hwr : bc_nc [Value.ref 1, .ref (1000 + K), .int (nI fr), .int (nI to), .int (nI i), w] 5 = true := rfl
      refine bc_iload dX7_isAtMark_3 rfl ?_
      refine bc_iload_n dX7_isAtMark_5 rfl ?_
      refine bc_icmp_ge (tgt := 68) dX7_isAtMark_6 (by decide) (fun h6 => absurd h6 (by rw [bn_leN (by omega) (by omega)]; omega)) (fun h6 => ?_)
      refine bc_iload dX7_isAtMark_9 rfl ?_
      refine bc_aload_n dX7_isAtMark_11 rfl ?_
      refine bc_callVS (z := mJ0_length_8abf5) (hK) dX7_isAtMark_12 lX7_65 qJ0_length_8abf5 rfl (by rfl) (by rfl) (Nat.le_of_ble_eq_true rfl) (s_length (d := d + 2) hK) (fun r12 μ12 e12 => ?_)
      obtain ⟨rfl, q12⟩ := e12
      obtain rfl := q12.symm
      refine bc_icmp_ge (tgt := 68) dX7_isAtMark_15 (by decide) (fun h15 => absurd h15 (by rw [bn_leN (by omega) (by omega)]; omega)) (fun h15 => ?_)
      refine bc_aload_n dX7_isAtMark_18 rfl ?_
      refine bc_geti dX7_isAtMark_19 fX7_37 (rfl) rfl ?_
      refine bc_iload dX7_isAtMark_22 rfl ?_
      refine bc_iadd dX7_isAtMark_24 ?_
      refine bc_iload_n dX7_isAtMark_25 rfl ?_
      refine bc_isub dX7_isAtMark_26 ?_
      rw [tx_4, ei]
      refine bc_istore dX7_isAtMark_27 (by decide) rfl ?_
      refine bc_iload dX7_isAtMark_29 rfl ?_
      refine bc_if_lt (tgt := 60) dX7_isAtMark_31 (by decide) (fun h31 => absurd h31 (nI_pos (by omega))) (fun h31 => ?_)
      refine bc_iload dX7_isAtMark_34 rfl ?_
      refine bc_aload_n dX7_isAtMark_36 rfl ?_
      refine bc_getr dX7_isAtMark_37 fX7_9 (rfl) rfl ?_
      refine bc_len1 dX7_isAtMark_40 (rfl) ?_
      refine bc_icmp_ge (tgt := 60) dX7_isAtMark_41 (by decide) (fun h41 => absurd h41 (by rw [show (nI 600 : Int32) = nI 600 from rfl, bn_leN (by omega) (by omega)]; omega)) (fun h41 => ?_)
      refine bc_aload_n dX7_isAtMark_44 rfl ?_
      refine bc_getr dX7_isAtMark_45 fX7_9 (rfl) rfl ?_
      refine bc_iload dX7_isAtMark_48 rfl ?_
      refine bc_baldE dX7_isAtMark_50 (rfl) (rfl) (by omega) ?_
      refine bc_aload_n dX7_isAtMark_51 rfl ?_
      refine bc_iload dX7_isAtMark_52 rfl ?_
      refine bc_callVS (z := mJ0_charAt_5068e) (hK) dX7_isAtMark_54 lX7_70 qJ0_charAt_5068e rfl (by rfl) (by rfl) (Nat.le_of_ble_eq_true rfl) (s_charAt (d := d) (j := i) hK rfl (by omega)) (fun r54 μ54 e54 => ?_)
      obtain ⟨rfl, q54⟩ := e54
      obtain rfl := q54.symm
      rw [tx_i _ _ _ _ _ (by decide)]
      refine bc_icmp_eq (tgt := 62) dX7_isAtMark_57 (by decide) (fun h57 => ?_) (fun h57 => ?_)
      · refine bc_iinc1 dX7_isAtMark_62 rfl (by decide) rfl ?_
        refine bc_goto (tgt := 3) dX7_isAtMark_65 (by decide) ?_
        have e : (wdF (μ 2) (m + 1) (k + (i - fr)) = wdF (sch K) (m + 1) i) = (wdF (μ 2) m (k + (i + 1 - fr)) = wdF (sch K) m (i + 1)) := by
          simp only [wdF, List.cons.injEq, h57, true_and]
          rw [show k + (i - fr) + 1 = k + (i + 1 - fr) by omega]
        have e2 : (fun (r : Option Value) (ν : bc_M) => r = some (Value.int (if wdF (μ 2) (m + 1) (k + (i - fr)) = wdF (sch K) (m + 1) i then 1 else 0)) ∧ ν = tx μ a k f q) = (fun r ν => r = some (Value.int (if wdF (μ 2) m (k + (i + 1 - fr)) = wdF (sch K) m (i + 1) then 1 else 0)) ∧ ν = tx μ a k f q) := by
          simp only [e]
        rw [bn_add1, e2]
        exact ih (i + 1) _ (by omega) (by omega) rfl
      · refine bc_iconst (v := 0) dX7_isAtMark_60 (by decide) ?_
        exact bc_ireturn dX7_isAtMark_61 rfl rfl (⟨by have hne : ¬ wdF (μ 2) (m + 1) (k + (i - fr)) = wdF (sch K) (m + 1) i := (fun x => h57 (List.cons.inj x).1); rw [if_neg hne], rfl⟩)
  have h0 := loop (to - fr) fr .null (by omega) (Nat.le_refl _) rfl
  rw [Nat.sub_self, Nat.add_zero] at h0
  refine bc_iload_n dX7_isAtMark_0 rfl ?_
  refine bc_istore dX7_isAtMark_1 (by decide) rfl ?_
  exact h0
/-- the number of the word l, -1 if it is none -/
def wV (W : List (List Int32)) (l : List Int32) : Int32 := if W.idxOf l < W.length then nI (W.idxOf l) else -1
theorem idxOf_first {W : List (List Int32)} {l : List Int32} {j : Nat} (h : W[j]? = some l) (h0 : ∀ i, i < j → W[i]? ≠ some l) : W.idxOf l = j := by
  induction W generalizing j with
  | nil => cases h
  | cons x W ih =>
    cases j with
    | zero => simp at h; subst h; simp
    | succ j =>
      have hx : ¬ x = l := fun e => h0 0 (by omega) (by simp [e])
      rw [List.idxOf_cons]
      have hb : (x == l) = false := by simpa using hx
      rw [hb]
      simp only [cond_false]
      rw [ih (by simpa using h) (fun i hi => by have := h0 (i + 1) (by omega); simpa using this)]
end TXT
