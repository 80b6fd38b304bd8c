/-! BreadCity itself: onions that hold it, the sweetest quarter, ways, tracks -/
section OW3
variable {d : Nat} {μ ν ξ : bc_M} {n no nq nm : Nat}
theorem upd_upd {f : Nat → Int32} {k : Nat} {v w : Int32} : upd (upd f k v) k w = upd f k w := by
  funext j
  by_cases h : j = k
  · subst h; rw [upd_eq, upd_eq]
  · rw [upd_ne h, upd_ne h, upd_ne h]
theorem upd_id {f : Nat → Int32} {k : Nat} : upd f k (f k) = f := by
  funext j
  by_cases h : j = k
  · subst h; rw [upd_eq]
  · rw [upd_ne h]
def trmB (μ : bc_M) (n no nq q k : Nat) : Bool := decide (eaM (plug μ (upd (row 31 μ) (q + 22) (nI k))) 31 n no nq (lbM (μ 32) 0 no) (μ 31 4) = 0 ∧ noM (plug μ (upd (row 31 μ) (q + 22) (nI k))) 31 n no nq (lbM (μ 32) 0 no) (μ 31 4) = 0)
theorem s_trim {q : Nat} (hB : okB μ n no nq) (hq : q < nq) : bc_C (d + 5) LC mX9_trim [.ref 0, .int (nI q)] μ (fun r ν => r = some (.int (srB (trmB μ n no nq q) 100 0)) ∧ trS μ ν) := by
  have hnq := hB.2.1.2.1
  have hq6 : q < 6 := by omega
  refine bc_enter (by decide) (Nat.le_of_ble_eq_true rfl) rfl ?_
  have loop : ∀ (m k : Nat) (v : Int32) (ν : bc_M), k + m = 100 → ahI n no nq μ (upd (row 31 μ) (q + 22) v) ν → bc_W (d + 5) LC mX9_trim 34 [.ref 0, .int (nI q), .int (lbM (μ 32) 0 no), .int (nI k)] [] ν (fun r ν => r = some (.int (srB (trmB μ n no nq q) m k)) ∧ trS μ ν) := by
    intro m
    induction m with
    | zero =>
      intro k v ν hk hI
      have hk : k = 100 := by omega
      subst hk
      refine bc_iload_n dX9_trim_34 rfl ?_
      refine bc_bipush (v := 99) dX9_trim_35 (by decide) ?_
      refine bc_icmp_gt (tgt := 92) dX9_trim_37 (by decide) (fun h37 => ?_) (fun h37 => absurd h37 (fun h => h (by decide)))
      refine bc_iconst (v := (-1)) dX9_trim_92 (by decide) ?_
      exact bc_ireturn dX9_trim_93 rfl rfl (⟨rfl, hI.1⟩)
    | succ m ih =>
      intro k v ν hk hI
      refine bc_iload_n dX9_trim_34 rfl ?_
      refine bc_bipush (v := 99) dX9_trim_35 (by decide) ?_
      refine bc_icmp_gt (tgt := 92) dX9_trim_37 (by decide) (fun h37 => absurd h37 (Int32.not_lt.mpr (nle (b := 99) (by omega) (by omega)))) (fun h37 => ?_)
      refine bc_aload_n dX9_trim_40 rfl ?_
      refine bc_getr dX9_trim_41 fX9_56 (rfl) rfl ?_
      refine bc_iload_n dX9_trim_44 rfl ?_
      refine bc_iload_n dX9_trim_45 rfl ?_
      refine bc_callV (z := mX1_putOnions) (ci := 1) dX9_trim_46 lX9_282 qX1_putOnions (by rfl) (by rfl) (by rfl) (by rfl) (Nat.le_of_ble_eq_true rfl) (s_putOnions (.inr rfl) hq6 _) (fun r46 μ46 e46 => ?_)
      obtain ⟨rfl, q46⟩ := e46
      obtain rfl := q46.symm
      refine bc_aload_n dX9_trim_49 rfl ?_
      refine bc_getr dX9_trim_50 fX9_56 (rfl) rfl ?_
      refine bc_iload_n dX9_trim_53 rfl ?_
      refine bc_aload_n dX9_trim_54 rfl ?_
      refine bc_getr dX9_trim_55 fX9_52 (rfl) rfl ?_
      refine bc_geti dX9_trim_58 fX9_185 (rfl) rfl ?_
      have hI2 : ahI n no nq μ (upd (row 31 μ) (q + 22) (nI k)) (bc_u ν (38 + 3) q (nI k)) := ⟨hI.1.u (by omega), by rw [row_u3 hq6, hI.2, upd_upd]⟩
      have hB2 := okB_env hI2.1.env hB
      have hV := plug_eqV (n := n) (no := no) (c := 38) hI2.1.env hnq
      rw [hI2.2] at hV
      rw [show bc_u ν (38 + 3) q (nI k) 31 4 = μ 31 4 from hI2.1 31 4 (by omega)]
      refine bc_callV (z := mX1_reckon) (ci := 1) dX9_trim_61 lX9_257 qX1_reckon (by rfl) (by rfl) (by rfl) (by rfl) (Nat.le_of_ble_eq_true rfl) (s_reckon (.inr rfl) hB2.1 hB2.2.1 hB2.2.2 _ _) (fun r61 μ61 e61 => ?_)
      obtain ⟨rfl, e1, e2, e3, e4⟩ := e61
      have e3 := e3.trans (ea_eqV hV (lit := lbM (μ 32) 0 no) (H := μ 31 4))
      have e4 := e4.trans (no_eqV hV (lit := lbM (μ 32) 0 no) (H := μ 31 4))
      have hI3 : ahI n no nq μ (upd (row 31 μ) (q + 22) (nI k)) μ61 := ⟨hI2.1.tr e1.trS, by rw [e1.row38]; exact hI2.2⟩
      have hT : trmB μ n no nq q k = true ↔ (μ61 38 15 = 0 ∧ μ61 38 16 = 0) := by unfold trmB; rw [decide_eq_true_iff, e3, e4]
      refine bc_aload_n dX9_trim_64 rfl ?_
      refine bc_getr dX9_trim_65 fX9_56 (rfl) rfl ?_
      refine bc_geti dX9_trim_68 fX9_260 (rfl) rfl ?_
      refine bc_if_ne (tgt := 86) dX9_trim_71 (by decide) (fun h71 => ?_) (fun h71 => ?_)
      · refine bc_iinc1 dX9_trim_86 rfl (by decide) rfl ?_
        refine bc_goto (tgt := 34) dX9_trim_89 (by decide) ?_
        rw [bn_add1, srB, if_neg (fun z => h71 (hT.mp z).1)]
        exact ih (k + 1) _ _ (by omega) hI3
      · refine bc_aload_n dX9_trim_74 rfl ?_
        refine bc_getr dX9_trim_75 fX9_56 (rfl) rfl ?_
        refine bc_geti dX9_trim_78 fX9_263 (rfl) rfl ?_
        refine bc_if_ne (tgt := 86) dX9_trim_81 (by decide) (fun h81 => ?_) (fun h81 => ?_)
        · refine bc_iinc1 dX9_trim_86 rfl (by decide) rfl ?_
          refine bc_goto (tgt := 34) dX9_trim_89 (by decide) ?_
          rw [bn_add1, srB, if_neg (fun z => h81 (hT.mp z).2)]
          exact ih (k + 1) _ _ (by omega) hI3
        · refine bc_iload_n dX9_trim_84 rfl ?_
          exact bc_ireturn dX9_trim_85 rfl rfl (⟨by rw [srB, if_pos (hT.mpr ⟨h71, h81⟩)], hI3.1⟩)
  refine bc_aload_n dX9_trim_0 rfl ?_
  refine bc_iload_n dX9_trim_1 rfl ?_
  refine bc_aload_n dX9_trim_2 rfl ?_
  refine bc_getr dX9_trim_3 fX9_19 (rfl) rfl ?_
  refine bc_geti dX9_trim_6 fX9_176 (rfl) rfl ?_
  rw [hB.2.1.1]
  refine bc_callV (z := mX9_needThere) (ci := 9) dX9_trim_9 lX9_204 qX9_needThere (by rfl) (by rfl) (by rfl) (by rfl) (Nat.le_of_ble_eq_true rfl) (s_needT (bn_nn (by omega)) (nlt hq (by omega))) (fun r9 μ9 e9 => ?_)
  obtain ⟨rfl, q9⟩ := e9
  obtain rfl := q9.symm
  refine bc_aload_n dX9_trim_12 rfl ?_
  refine bc_getr dX9_trim_13 fX9_52 (rfl) rfl ?_
  refine bc_iconst (v := 0) dX9_trim_16 (by decide) ?_
  refine bc_callV (z := mX1_litBits) (ci := 1) dX9_trim_17 lX9_200 qX1_litBits (by rfl) (by rfl) (by rfl) (by rfl) (Nat.le_of_ble_eq_true rfl) (s_litBits (.inl rfl) hB.1.1 hB.1.2.1 0) (fun r17 μ17 e17 => ?_)
  obtain ⟨rfl, q17⟩ := e17
  obtain rfl := q17.symm
  refine bc_istore_n dX9_trim_20 (by decide) rfl ?_
  refine bc_aload_n dX9_trim_21 rfl ?_
  refine bc_getr dX9_trim_22 fX9_56 (rfl) rfl ?_
  refine bc_aload_n dX9_trim_25 rfl ?_
  refine bc_getr dX9_trim_26 fX9_52 (rfl) rfl ?_
  refine bc_callV (z := mX1_become) (ci := 1) dX9_trim_29 lX9_270 qX1_become (by rfl) (by rfl) (by rfl) (by rfl) (Nat.le_of_ble_eq_true rfl) (ahI.bec (n := n) (no := no) (nq := nq)) (fun r29 μ29 e29 => ?_)
  obtain ⟨rfl, e29⟩ := e29
  refine bc_iconst (v := 0) dX9_trim_32 (by decide) ?_
  refine bc_istore_n dX9_trim_33 (by decide) rfl ?_
  exact loop 100 0 (row 31 μ (q + 22)) _ (by omega) (by rw [upd_id]; exact e29)
def swM (L : Nat → Int32) : Nat → Int32 × Int32
  | 0 => (-1, 0)
  | k + 1 => if (swM L k).1 = -1 ∨ (swM L k).2 < L k then (nI k, L k) else swM L k
theorem s_sweetest {w : Nat} (hB : okB μ n no nq) (hw : w ≤ 1) : bc_C (d + 4) LC mX9_sweetest [.ref 0, .int (nI w)] μ (fun r ν => r = some (.int (if w = 0 then (swM (mL μ 31 n no (lbM (μ 32) 0 no) (μ 31 4)) nq).1 else (swM (mL μ 31 n no (lbM (μ 32) 0 no) (μ 31 4)) nq).2)) ∧ sameS 31 μ ν) := by
  have hnq := hB.2.1.2.1
  refine bc_enter (by decide) (Nat.le_of_ble_eq_true rfl) rfl ?_
  obtain ⟨L, hL⟩ : ∃ L, L = mL μ 31 n no (lbM (μ 32) 0 no) (μ 31 4) := ⟨_, rfl⟩
  rw [← hL]
  have loop : ∀ (m k : Nat) (v : Value) (ν : bc_M), v.category = 1 → k + m = nq → smI 31 μ (lbM (μ 32) 0 no) no ν → bc_W (d + 4) LC mX9_sweetest 29 [.ref 0, .int (nI w), .int (swM L k).1, .int (swM L k).2, .int (nI k), v] [] ν (fun r ν => r = some (.int (if w = 0 then (swM L nq).1 else (swM L nq).2)) ∧ sameS 31 μ ν) := by
    intro m
    induction m with
    | zero =>
      intro k v ν hv hk hI
      have hk : k = nq := by omega
      subst hk
      have e1 : ν 3 0 = nI k := (hI.1 3 0 (by unfold scr; omega)).trans hB.2.1.1
      have hc : w = 0 ∨ w = 1 := by omega
      rcases hc with rfl | rfl
      · skip
        refine bc_iload dX9_sweetest_29 rfl ?_
        refine bc_aload_n dX9_sweetest_31 rfl ?_
        refine bc_getr dX9_sweetest_32 fX9_19 (rfl) rfl ?_
        refine bc_geti dX9_sweetest_35 fX9_176 (rfl) rfl ?_
        refine bc_icmp_ge (tgt := 82) dX9_sweetest_38 (by decide) (fun h38 => ?_) (fun h38 => absurd h38 (fun q => q (by rw [e1]; exact Int32.le_refl _)))
        refine bc_iload_n dX9_sweetest_82 rfl ?_
        refine bc_if_ne (tgt := 90) dX9_sweetest_83 (by decide) (fun h83 => absurd h83 (by decide)) (fun h83 => ?_)
        refine bc_iload_n dX9_sweetest_86 rfl ?_
        refine bc_goto (tgt := 91) dX9_sweetest_87 (by decide) ?_
        exact bc_ireturn dX9_sweetest_91 rfl rfl (⟨rfl, hI.1⟩)
      · skip
        refine bc_iload dX9_sweetest_29 rfl ?_
        refine bc_aload_n dX9_sweetest_31 rfl ?_
        refine bc_getr dX9_sweetest_32 fX9_19 (rfl) rfl ?_
        refine bc_geti dX9_sweetest_35 fX9_176 (rfl) rfl ?_
        refine bc_icmp_ge (tgt := 82) dX9_sweetest_38 (by decide) (fun h38 => ?_) (fun h38 => absurd h38 (fun q => q (by rw [e1]; exact Int32.le_refl _)))
        refine bc_iload_n dX9_sweetest_82 rfl ?_
        refine bc_if_ne (tgt := 90) dX9_sweetest_83 (by decide) (fun h83 => ?_) (fun h83 => absurd h83 (by decide))
        refine bc_iload_n dX9_sweetest_90 rfl ?_
        exact bc_ireturn dX9_sweetest_91 rfl rfl (⟨rfl, hI.1⟩)
    | succ m ih =>
      intro k v ν hv hk hI
      have e1 : ν 3 0 = nI nq := (hI.1 3 0 (by unfold scr; omega)).trans hB.2.1.1
      have e2 : ν 19 1 = nI n := (hI.1 19 1 (by unfold scr; omega)).trans hB.2.2.1
      have e3 : ν 20 = μ 20 := funext fun j => hI.1 20 j (by unfold scr; omega)
      have hvv : lawV (ν 20) n (fcs (ν (31 + 4) k) (half (ν 5 k) (ν 31 7 >>> (nI k &&& 31) &&& 1)) (ν (31 + 5) k) (ν 31 13 - ν (31 + 4) k) (ν (31 + 3) k) (ν 4 k) (ν 31 4)) = L k := by rw [rkI.val (.inl rfl) hI (by omega), hI.1 31 4 (by unfold scr; omega), hL]
      refine bc_iload dX9_sweetest_29 rfl ?_
      refine bc_aload_n dX9_sweetest_31 rfl ?_
      refine bc_getr dX9_sweetest_32 fX9_19 (rfl) rfl ?_
      refine bc_geti dX9_sweetest_35 fX9_176 (rfl) rfl ?_
      refine bc_icmp_ge (tgt := 82) dX9_sweetest_38 (by decide) (fun h38 => absurd h38 (by rw [e1, bn_leN (by omega) (by omega)]; omega)) (fun h38 => ?_)
      refine bc_aload_n dX9_sweetest_41 rfl ?_
      refine bc_getr dX9_sweetest_42 fX9_52 (rfl) rfl ?_
      refine bc_iload dX9_sweetest_45 rfl ?_
      refine bc_aload_n dX9_sweetest_47 rfl ?_
      refine bc_getr dX9_sweetest_48 fX9_52 (rfl) rfl ?_
      refine bc_geti dX9_sweetest_51 fX9_185 (rfl) rfl ?_
      refine bc_callV (z := mX1_leanOf) (ci := 1) dX9_sweetest_54 lX9_225 qX1_leanOf (by rfl) (by rfl) (by rfl) (by rfl) (Nat.le_of_ble_eq_true rfl) (s_leanOf (.inl rfl) (by omega) e2 (by rw [e3]; exact hB.2.2.2) _) (fun r54 μ54 e54 => ?_)
      obtain ⟨rfl, f9, g9, rfl⟩ := e54
      rw [hvv]
      have hI2 : smI 31 μ (lbM (μ 32) 0 no) no (bc_us (bc_us ν 23 g9) 22 f9) := hI.off (fun i j q1 q2 q3 => by rw [bc_us_r, if_neg q1, bc_us_r, if_neg q2]) (.inl rfl)
      refine bc_istore dX9_sweetest_57 (by decide) rfl ?_
      refine bc_iload_n dX9_sweetest_59 rfl ?_
      refine bc_iconst (v := (-1)) dX9_sweetest_60 (by decide) ?_
      refine bc_icmp_eq (tgt := 70) dX9_sweetest_61 (by decide) (fun h61 => ?_) (fun h61 => ?_)
      · refine bc_iload dX9_sweetest_70 rfl ?_
        refine bc_istore_n dX9_sweetest_72 (by decide) rfl ?_
        refine bc_iload dX9_sweetest_73 rfl ?_
        refine bc_istore_n dX9_sweetest_75 (by decide) rfl ?_
        refine bc_iinc1 dX9_sweetest_76 rfl (by decide) rfl ?_
        refine bc_goto (tgt := 29) dX9_sweetest_79 (by decide) ?_
        have h2 := ih (k + 1) (.int (L k)) _ rfl (by omega) hI2
        rw [swM, if_pos (.inl h61)] at h2
        rw [bn_add1]
        exact h2
      · refine bc_iload dX9_sweetest_64 rfl ?_
        refine bc_iload_n dX9_sweetest_66 rfl ?_
        refine bc_icmp_le (tgt := 76) dX9_sweetest_67 (by decide) (fun h67 => ?_) (fun h67 => ?_)
        · refine bc_iinc1 dX9_sweetest_76 rfl (by decide) rfl ?_
          refine bc_goto (tgt := 29) dX9_sweetest_79 (by decide) ?_
          have h2 := ih (k + 1) (.int (L k)) _ rfl (by omega) hI2
          rw [swM, if_neg (fun z => z.elim h61 (Int32.not_lt.mpr h67))] at h2
          rw [bn_add1]
          exact h2
        · refine bc_iload dX9_sweetest_70 rfl ?_
          refine bc_istore_n dX9_sweetest_72 (by decide) rfl ?_
          refine bc_iload dX9_sweetest_73 rfl ?_
          refine bc_istore_n dX9_sweetest_75 (by decide) rfl ?_
          refine bc_iinc1 dX9_sweetest_76 rfl (by decide) rfl ?_
          refine bc_goto (tgt := 29) dX9_sweetest_79 (by decide) ?_
          have h2 := ih (k + 1) (.int (L k)) _ rfl (by omega) hI2
          rw [swM, if_pos (.inr (bn_nle h67))] at h2
          rw [bn_add1]
          exact h2
  refine bc_aload_n dX9_sweetest_0 rfl ?_
  refine bc_iload_n dX9_sweetest_1 rfl ?_
  refine bc_iconst (v := 0) dX9_sweetest_2 (by decide) ?_
  refine bc_iconst (v := 1) dX9_sweetest_3 (by decide) ?_
  refine bc_callV (z := mX9_needWithin) (ci := 9) dX9_sweetest_4 lX9_172 qX9_needWithin (by rfl) (by rfl) (by rfl) (by rfl) (Nat.le_of_ble_eq_true rfl) (s_needW (bn_nn (by omega)) (nle (b := 1) hw (by omega))) (fun r4 μ4 e4 => ?_)
  obtain ⟨rfl, q4⟩ := e4
  obtain rfl := q4.symm
  refine bc_aload_n dX9_sweetest_7 rfl ?_
  refine bc_getr dX9_sweetest_8 fX9_52 (rfl) rfl ?_
  refine bc_aload_n dX9_sweetest_11 rfl ?_
  refine bc_getr dX9_sweetest_12 fX9_52 (rfl) rfl ?_
  refine bc_iconst (v := 0) dX9_sweetest_15 (by decide) ?_
  refine bc_callV (z := mX1_litBits) (ci := 1) dX9_sweetest_16 lX9_200 qX1_litBits (by rfl) (by rfl) (by rfl) (by rfl) (Nat.le_of_ble_eq_true rfl) (s_litBits (.inl rfl) hB.1.1 hB.1.2.1 0) (fun r16 μ16 e16 => ?_)
  obtain ⟨rfl, q16⟩ := e16
  obtain rfl := q16.symm
  refine bc_callV (z := mX1_smell) (ci := 1) dX9_sweetest_19 lX9_207 qX1_smell (by rfl) (by rfl) (by rfl) (by rfl) (Nat.le_of_ble_eq_true rfl) (s_smell (.inl rfl) hB.1 _) (fun r19 μ19 e19 => ?_)
  obtain ⟨rfl, hI⟩ := e19
  refine bc_iconst (v := (-1)) dX9_sweetest_22 (by decide) ?_
  refine bc_istore_n dX9_sweetest_23 (by decide) rfl ?_
  refine bc_iconst (v := 0) dX9_sweetest_24 (by decide) ?_
  refine bc_istore_n dX9_sweetest_25 (by decide) rfl ?_
  refine bc_iconst (v := 0) dX9_sweetest_26 (by decide) ?_
  refine bc_istore dX9_sweetest_27 (by decide) rfl ?_
  exact loop nq 0 .null _ rfl (by omega) hI
theorem s_steps {k x y tx ty : Nat} (hnm : μ 3 3 = nI nm) (hnm6 : nm ≤ 6) (hk : k < nm) (ex : μ 31 2 = nI x) (ey : μ 31 3 = nI y) (etx : μ 8 k = nI tx) (ety : μ 9 k = nI ty) (hx : x < 31) (hy : y < 31) (htx : tx < 31) (hty : ty < 31) : bc_C (d + 4) LC mX9_steps [.ref 0, .int (nI k)] μ (fun r ν => r = some (.int (srB (wtB (μ 10) (st0 x y) tx ty) 961 0)) ∧ ∀ i j, i ≠ 135 → i ≠ 136 → ν i j = μ i j) := by
  refine bc_enter (by decide) (Nat.le_of_ble_eq_true rfl) rfl ?_
  refine bc_aload_n dX9_steps_0 rfl ?_
  refine bc_iload_n dX9_steps_1 rfl ?_
  refine bc_aload_n dX9_steps_2 rfl ?_
  refine bc_getr dX9_steps_3 fX9_19 (rfl) rfl ?_
  refine bc_geti dX9_steps_6 fX9_182 (rfl) rfl ?_
  rw [hnm]
  refine bc_callV (z := mX9_needThere) (ci := 9) dX9_steps_9 lX9_204 qX9_needThere (by rfl) (by rfl) (by rfl) (by rfl) (Nat.le_of_ble_eq_true rfl) (s_needT (bn_nn (by omega)) (nlt hk (by omega))) (fun r9 μ9 e9 => ?_)
  obtain ⟨rfl, q9⟩ := e9
  obtain rfl := q9.symm
  refine bc_aload_n dX9_steps_12 rfl ?_
  refine bc_getr dX9_steps_13 fX9_80 (rfl) rfl ?_
  refine bc_aload_n dX9_steps_16 rfl ?_
  refine bc_getr dX9_steps_17 fX9_52 (rfl) rfl ?_
  refine bc_geti dX9_steps_20 fX9_188 (rfl) rfl ?_
  rw [ex]
  refine bc_aload_n dX9_steps_23 rfl ?_
  refine bc_getr dX9_steps_24 fX9_52 (rfl) rfl ?_
  refine bc_geti dX9_steps_27 fX9_191 (rfl) rfl ?_
  rw [ey]
  refine bc_aload_n dX9_steps_30 rfl ?_
  refine bc_getr dX9_steps_31 fX9_19 (rfl) rfl ?_
  refine bc_iload_n dX9_steps_34 rfl ?_
  refine bc_callV (z := mX0_mooringX) (ci := 0) dX9_steps_35 lX9_244 qX0_mooringX (by rfl) (by rfl) (by rfl) (by rfl) (Nat.le_of_ble_eq_true rfl) (s_mxB LC_b3 (by omega)) (fun r35 μ35 e35 => ?_)
  obtain ⟨rfl, q35⟩ := e35
  obtain rfl := q35.symm
  rw [show μ (3 + 5) k = nI tx from etx]
  refine bc_aload_n dX9_steps_38 rfl ?_
  refine bc_getr dX9_steps_39 fX9_19 (rfl) rfl ?_
  refine bc_iload_n dX9_steps_42 rfl ?_
  refine bc_callV (z := mX0_mooringY) (ci := 0) dX9_steps_43 lX9_247 qX0_mooringY (by rfl) (by rfl) (by rfl) (by rfl) (Nat.le_of_ble_eq_true rfl) (s_myB LC_b3 (by omega)) (fun r43 μ43 e43 => ?_)
  obtain ⟨rfl, q43⟩ := e43
  obtain rfl := q43.symm
  rw [show μ (3 + 6) k = nI ty from ety]
  refine bc_callV (z := mX6_fewestCells) (ci := 6) dX9_steps_46 lX9_285 qX6_fewestCells (by rfl) (by rfl) (by rfl) (by rfl) (Nat.le_of_ble_eq_true rfl) (s_fewestCells hy hty hx htx) (fun r46 μ46 e46 => ?_)
  obtain ⟨rfl, e46⟩ := e46
  exact bc_ireturn dX9_steps_49 rfl rfl (⟨rfl, e46⟩)
/-! tracks, as they would be -/
def coreE (μ ν : bc_M) : Prop := (∀ i j, 3 ≤ i → i ≤ 10 → ν i j = μ i j) ∧ (∀ j, ν 20 j = μ 20 j) ∧ (∀ j, 2 ≤ j → j ≤ 7 → ν 31 j = μ 31 j) ∧ ∀ i j, 32 ≤ i → i ≤ 34 → ν i j = μ i j
theorem coreE.eqV (h : coreE μ ν) : eqV n no nq 31 31 μ ν := ⟨fun q _ => ⟨h.1 4 q (by omega) (by omega), h.1 5 q (by omega) (by omega), h.2.2.2 34 q (by omega) (by omega)⟩, fun o _ => ⟨h.1 6 o (by omega) (by omega), h.1 7 o (by omega) (by omega)⟩, fun k _ => h.2.1 k, h.2.2.1 7 (by omega) (by omega)⟩
theorem coreE.op (h : coreE μ ν) : opB ν = opB μ := opB_cg (fun y _ => h.1 10 y (by omega) (by omega))
theorem coreE.lb (h : coreE μ ν) (H : Int32) : lbM (ν 32) H no = lbM (μ 32) H no := lbM_cg no (fun i _ => h.2.2.2 32 i (by omega) (by omega))
theorem coreE.cool (h : coreE μ ν) : coolv ν no = coolv μ no := by unfold coolv; rw [h.lb]
theorem coreE.trk (h : coreE μ ν) (g s : Nat) : trP ν n no nq g s = trP μ n no nq g s := by
  induction g with
  | zero => show (ν 31 2, ν 31 3) = (μ 31 2, μ 31 3); rw [h.2.2.1 2 (by omega) (by omega), h.2.2.1 3 (by omega) (by omega)]
  | succ g ih =>
    show stp ν n no nq g s (trP ν n no nq g s) = stp μ n no nq g s (trP μ n no nq g s)
    rw [ih]
    unfold stp litH
    rw [h.op, h.lb, h.2.2.1 4 (by omega) (by omega), ea_eqV h.eqV, no_eqV h.eqV]
theorem tS.core (h : tS μ ν) : coreE μ ν := ⟨fun i j a b => h i j (by unfold tkc; omega), fun j => h 20 j (by unfold tkc; omega), fun j a b => h 31 j (by unfold tkc; omega), fun i j a b => h i j (by unfold tkc; omega)⟩
theorem trS.core (h : trS μ ν) : coreE μ ν := ⟨fun i j a b => h i j (by omega), fun j => h 20 j (by omega), fun j a b => h 31 j (by omega), fun i j a b => h i j (by omega)⟩
theorem sameS.core (h : sameS 31 μ ν) : coreE μ ν := ⟨fun i j a b => h i j (by unfold scr; omega), fun j => h 20 j (by unfold scr; omega), fun j a b => h 31 j (by unfold scr; omega), fun i j a b => h i j (by unfold scr; omega)⟩
/-- the tracks are known, or not -/
def kn (n no nq : Nat) (μ : bc_M) : Prop := μ 117 7 = 0 ∨ (μ 117 7 = 1 ∧ tkI n no nq μ)
theorem tkI.same (hc : coreE μ ν) (h8 : ν 117 8 = μ 117 8) (hr : ∀ i j, 119 ≤ i → i ≤ 131 → ν i j = μ i j) (h : tkI n no nq μ) : tkI n no nq ν := by
  refine ⟨by rw [h8, hc.cool]; exact h.1, fun g hg s hs ho => ?_⟩
  rw [hr _ s (by omega) (by omega), hc.trk]
  refine h.2 g hg s hs ?_
  unfold offP at ho ⊢
  rw [h8, hc.2.2.1 5 (by omega) (by omega)] at ho
  exact ho
theorem kn.same (hc : coreE μ ν) (h7 : ν 117 7 = μ 117 7) (h8 : ν 117 8 = μ 117 8) (hr : ∀ i j, 119 ≤ i → i ≤ 131 → ν i j = μ i j) (h : kn n no nq μ) : kn n no nq ν := by
  rcases h with h | ⟨h, h'⟩
  · exact .inl (h7.trans h)
  · exact .inr ⟨h7.trans h, h'.same hc h8 hr⟩
def offS (μ : bc_M) (no s : Nat) : Bool := decide (nI s &&& (coolv μ no ^^^ -1) = 0 ∧ bcnt (nI s) ≤ μ 31 5)
theorem off_S (hc : coreE μ ν) (h : tkI n no nq ν) (s : Nat) : offB ν s = offS μ no s := by unfold offB offS; rw [h.1, hc.cool, hc.2.2.1 5 (by omega) (by omega)]
theorem fwM_cg {P P' : Nat → Bool} : ∀ k, (∀ s, s < k → P s = P' s) → fwM P k = fwM P' k := by
  intro k
  induction k with
  | zero => intro _; rfl
  | succ k ih => intro h; rw [fwM, fwM, ih (fun s hs => h s (by omega)), h k (by omega)]
def pilM (μ : bc_M) (n no nq k h : Nat) : Int32 := fwM (fun s => offS μ no s && decide (cel (trP μ n no nq h s) = cel (μ 8 k, μ 9 k))) (2 ^ no)
/-- what the tracks' reckoning changes -/
def tqS (μ ν : bc_M) : Prop := ∀ i k, ¬ (i = 22 ∨ i = 23 ∨ (38 ≤ i ∧ i ≤ 44) ∨ (119 ≤ i ∧ i ≤ 133) ∨ (i = 117 ∧ 7 ≤ k)) → ν i k = μ i k
theorem tS.tq (h : tS μ ν) : tqS μ ν := fun i k q => h i k (by unfold tkc; omega)
theorem s_pilot {k h : Nat} (hB : okB μ n no nq) (h0 : rng (μ 31 2, μ 31 3)) (hkn : kn n no nq μ) (hnm : μ 3 3 = nI nm) (hnm6 : nm ≤ 6) (hk : k < nm) (hh : h ≤ 12) : bc_C (d + 7) LC mX9_pilot [.ref 0, .int (nI k), .int (nI h)] μ (fun r ν => r = some (.int (pilM μ n no nq k h)) ∧ tqS μ ν ∧ kn n no nq ν) := by
  refine bc_enter (by decide) (Nat.le_of_ble_eq_true rfl) rfl ?_
  refine bc_aload_n dX9_pilot_0 rfl ?_
  refine bc_iload_n dX9_pilot_1 rfl ?_
  refine bc_aload_n dX9_pilot_2 rfl ?_
  refine bc_getr dX9_pilot_3 fX9_19 (rfl) rfl ?_
  refine bc_geti dX9_pilot_6 fX9_182 (rfl) rfl ?_
  rw [hnm]
  refine bc_callV (z := mX9_needThere) (ci := 9) dX9_pilot_9 lX9_204 qX9_needThere (by rfl) (by rfl) (by rfl) (by rfl) (Nat.le_of_ble_eq_true rfl) (s_needT (bn_nn (by omega)) (nlt hk (by omega))) (fun r9 μ9 e9 => ?_)
  obtain ⟨rfl, q9⟩ := e9
  obtain rfl := q9.symm
  refine bc_aload_n dX9_pilot_12 rfl ?_
  refine bc_iload_n dX9_pilot_13 rfl ?_
  refine bc_iconst (v := 0) dX9_pilot_14 (by decide) ?_
  refine bc_bipush (v := 12) dX9_pilot_15 (by decide) ?_
  refine bc_callV (z := mX9_needWithin) (ci := 9) dX9_pilot_17 lX9_172 qX9_needWithin (by rfl) (by rfl) (by rfl) (by rfl) (Nat.le_of_ble_eq_true rfl) (s_needW (bn_nn (by omega)) (nle (b := 12) hh (by omega))) (fun r17 μ17 e17 => ?_)
  obtain ⟨rfl, q17⟩ := e17
  obtain rfl := q17.symm
  refine bc_aload_n dX9_pilot_20 rfl ?_
  refine bc_getr dX9_pilot_21 fX9_71 (rfl) rfl ?_
  refine bc_callV (z := mX8_reckonAll) (ci := 8) dX9_pilot_24 lX9_275 qX8_reckonAll (by rfl) (by rfl) (by rfl) (by rfl) (Nat.le_of_ble_eq_true rfl) (s_reckonAll hB h0 hkn) (fun r24 μ24 e24 => ?_)
  obtain ⟨rfl, e1, e2, e3⟩ := e24
  refine bc_aload_n dX9_pilot_27 rfl ?_
  refine bc_getr dX9_pilot_28 fX9_71 (rfl) rfl ?_
  refine bc_aload_n dX9_pilot_31 rfl ?_
  refine bc_getr dX9_pilot_32 fX9_19 (rfl) rfl ?_
  refine bc_iload_n dX9_pilot_35 rfl ?_
  refine bc_callV (z := mX0_mooringX) (ci := 0) dX9_pilot_36 lX9_244 qX0_mooringX (by rfl) (by rfl) (by rfl) (by rfl) (Nat.le_of_ble_eq_true rfl) (s_mxB LC_b3 (by omega)) (fun r36 μ36 e36 => ?_)
  obtain ⟨rfl, q36⟩ := e36
  obtain rfl := q36.symm
  refine bc_aload_n dX9_pilot_39 rfl ?_
  refine bc_getr dX9_pilot_40 fX9_19 (rfl) rfl ?_
  refine bc_iload_n dX9_pilot_43 rfl ?_
  refine bc_callV (z := mX0_mooringY) (ci := 0) dX9_pilot_44 lX9_247 qX0_mooringY (by rfl) (by rfl) (by rfl) (by rfl) (Nat.le_of_ble_eq_true rfl) (s_myB LC_b3 (by omega)) (fun r44 μ44 e44 => ?_)
  obtain ⟨rfl, q44⟩ := e44
  obtain rfl := q44.symm
  refine bc_iload_n dX9_pilot_47 rfl ?_
  refine bc_callV (z := mX8_fewestTo) (ci := 8) dX9_pilot_48 lX9_278 qX8_fewestTo (by rfl) (by rfl) (by rfl) (by rfl) (Nat.le_of_ble_eq_true rfl) (s_fewestTo (by omega) ((e1 3 1 (by unfold tkc; omega)).trans hB.1.1) hB.1.2.1 _ _) (fun r48 μ48 e48 => ?_)
  obtain ⟨rfl, q48⟩ := e48
  obtain rfl := q48.symm
  exact bc_ireturn dX9_pilot_51 rfl rfl (by
refine ⟨congrArg (fun z => some (Value.int z)) (fwM_cg _ (fun s hs => ?_)), e1.tq, .inr ⟨e2, e3⟩⟩
show (offB μ24 s && decide (μ24 (119 + h) s = cel (μ24 (3 + 5) k, μ24 (3 + 6) k))) = _
rw [show μ24 (3 + 5) k = μ 8 k from e1 8 k (by unfold tkc; omega), show μ24 (3 + 6) k = μ 9 k from e1 9 k (by unfold tkc; omega), off_S e1.core e3]
by_cases ho : offS μ no s = true
· rw [e3.2 h hh s hs (offB_P.mpr ((off_S e1.core e3 s).trans ho)), e1.core.trk]
· rw [show offS μ no s = false by simpa using ho]; rfl)
def lnS (L : Nat → Int32) (C : Nat → Int32) : Nat → Bool
  | 0 => true
  | k + 1 => lnS L C k && (decide (L (k + 1) = -1) || decide (L (k + 1) = C (k + 1)))
def fitS (μ : bc_M) (n no nq s : Nat) : Bool := offS μ no s && lnS (μ 29) (fun h => cel (trP μ n no nq h s)) 12
theorem lnB_S {s : Nat} : ∀ k, k ≤ 12 → (∀ h, 1 ≤ h → h ≤ k → ν (119 + h) s = cel (trP μ n no nq h s)) → (∀ j, ν 29 j = μ 29 j) → lnB ν s k = lnS (μ 29) (fun h => cel (trP μ n no nq h s)) k := by
  intro k
  induction k with
  | zero => intro _ _ _; rfl
  | succ k ih => intro hk hc hl; rw [lnB, lnS, ih (by omega) (fun h a b => hc h a (by omega)) hl, hc (k + 1) (by omega) (by omega), hl]
theorem fit_S (hc : coreE μ ν) (hl : ∀ j, ν 29 j = μ 29 j) (h : tkI n no nq ν) {s : Nat} (hs : s < 2 ^ no) : fitB ν s = fitS μ n no nq s := by
  unfold fitB fitS
  rw [off_S hc h]
  by_cases ho : offS μ no s = true
  · rw [lnB_S 12 (by omega) (fun g a b => by rw [h.2 g b s hs (offB_P.mpr ((off_S hc h s).trans ho)), hc.trk]) hl]
  · rw [show offS μ no s = false by simpa using ho]; rfl
theorem ctM_cg {F G : Nat → Bool} : ∀ k, (∀ s, s < k → F s = G s) → ctM F k = ctM G k := by
  intro k
  induction k with
  | zero => intro _; rfl
  | succ k ih => intro h; rw [ctM, ctM, ih (fun s hs => h s (by omega)), h k (by omega)]
theorem fsM_cg {F G : Nat → Bool} : ∀ k, (∀ s, s < k → F s = G s) → fsM F k = fsM G k := by
  intro k
  induction k with
  | zero => intro _; rfl
  | succ k ih => intro h; rw [fsM, fsM, ih (fun s hs => h s (by omega)), h k (by omega), ctM_cg k (fun s hs => h s (by omega))]
theorem suM_cg {F G : Nat → Bool} : ∀ k, (∀ s, s < k → F s = G s) → suM F k = suM G k := by
  intro k
  induction k with
  | zero => intro _; rfl
  | succ k ih => intro h; rw [suM, suM, ih (fun s hs => h s (by omega)), h k (by omega), ctM_cg k (fun s hs => h s (by omega))]
theorem ft_tq (h1 : tqS μ ν) {k : Nat} (h : ftI ν k ξ) : tqS μ ξ := fun i j q => (h.1 i j (by omega) (by omega)).trans (h1 i j q)
theorem ft_kn {k : Nat} (h : ftI ν k ξ) (hk : ν 117 7 = 1) (ht : tkI n no nq ν) : ξ 117 7 = 1 ∧ tkI n no nq ξ :=
  ⟨(h.1 117 7 (by omega) (by omega)).trans hk, ht.same ⟨fun i j a b => h.1 i j (by omega) (by omega), fun j => h.1 20 j (by omega) (by omega), fun j a b => h.1 31 j (by omega) (by omega), fun i j a b => h.1 i j (by omega) (by omega)⟩ (h.1 117 8 (by omega) (by omega)) (fun i j a b => h.1 i j (by omega) (by omega))⟩
def fisM (F : Nat → Bool) (K : Nat) : Nat → Int32
  | 0 => nI (ctM F K) | 1 => fsM F K
  | _ => suM F K
theorem s_fits {w : Nat} (hB : okB μ n no nq) (h0 : rng (μ 31 2, μ 31 3)) (hkn : kn n no nq μ) (hw : w ≤ 2) : bc_C (d + 7) LC mX9_fits [.ref 0, .int (nI w)] μ (fun r ν => r = some (.int (fisM (fitS μ n no nq) (2 ^ no) w)) ∧ tqS μ ν ∧ kn n no nq ν) := by
  refine bc_enter (by decide) (Nat.le_of_ble_eq_true rfl) rfl ?_
  have hc : w = 0 ∨ w = 1 ∨ w = 2 := by omega
  rcases hc with rfl | rfl | rfl
  · skip
    refine bc_aload_n dX9_fits_0 rfl ?_
    refine bc_iload_n dX9_fits_1 rfl ?_
    refine bc_iconst (v := 0) dX9_fits_2 (by decide) ?_
    refine bc_iconst (v := 2) dX9_fits_3 (by decide) ?_
    refine bc_callV (z := mX9_needWithin) (ci := 9) dX9_fits_4 lX9_172 qX9_needWithin (by rfl) (by rfl) (by rfl) (by rfl) (Nat.le_of_ble_eq_true rfl) (s_needW (by decide) (by decide)) (fun r4 μ4 e4 => ?_)
    obtain ⟨rfl, q4⟩ := e4
    obtain rfl := q4.symm
    refine bc_aload_n dX9_fits_7 rfl ?_
    refine bc_getr dX9_fits_8 fX9_71 (rfl) rfl ?_
    refine bc_callV (z := mX8_reckonAll) (ci := 8) dX9_fits_11 lX9_275 qX8_reckonAll (by rfl) (by rfl) (by rfl) (by rfl) (Nat.le_of_ble_eq_true rfl) (s_reckonAll hB h0 hkn) (fun r11 μ11 e11 => ?_)
    obtain ⟨rfl, e1, e2, e3⟩ := e11
    refine bc_aload_n dX9_fits_14 rfl ?_
    refine bc_getr dX9_fits_15 fX9_71 (rfl) rfl ?_
    refine bc_callV (z := mX8_reckonFits) (ci := 8) dX9_fits_18 lX9_289 qX8_reckonFits (by rfl) (by rfl) (by rfl) (by rfl) (Nat.le_of_ble_eq_true rfl) (s_reckonFits ((e1 3 1 (by unfold tkc; omega)).trans hB.1.1) hB.1.2.1) (fun r18 μ18 e18 => ?_)
    obtain ⟨rfl, e4⟩ := e18
    refine bc_iload_n dX9_fits_21 rfl ?_
    refine bc_lookup (off := 26) (tgt := 48) dX9_fits_22 (by decide) (by decide) (by decide) ?_
    refine bc_aload_n dX9_fits_48 rfl ?_
    refine bc_getr dX9_fits_49 fX9_71 (rfl) rfl ?_
    refine bc_geti dX9_fits_52 fX9_292 (rfl) rfl ?_
    exact bc_ireturn dX9_fits_55 rfl rfl (⟨by rw [e4.2.1, ctM_cg _ (fun s hs => fit_S e1.core (fun j => e1 29 j (by unfold tkc; omega)) e3 hs)]; rfl, ft_tq e1.tq e4, .inr (ft_kn e4 e2 e3)⟩)
  · skip
    refine bc_aload_n dX9_fits_0 rfl ?_
    refine bc_iload_n dX9_fits_1 rfl ?_
    refine bc_iconst (v := 0) dX9_fits_2 (by decide) ?_
    refine bc_iconst (v := 2) dX9_fits_3 (by decide) ?_
    refine bc_callV (z := mX9_needWithin) (ci := 9) dX9_fits_4 lX9_172 qX9_needWithin (by rfl) (by rfl) (by rfl) (by rfl) (Nat.le_of_ble_eq_true rfl) (s_needW (by decide) (by decide)) (fun r4 μ4 e4 => ?_)
    obtain ⟨rfl, q4⟩ := e4
    obtain rfl := q4.symm
    refine bc_aload_n dX9_fits_7 rfl ?_
    refine bc_getr dX9_fits_8 fX9_71 (rfl) rfl ?_
    refine bc_callV (z := mX8_reckonAll) (ci := 8) dX9_fits_11 lX9_275 qX8_reckonAll (by rfl) (by rfl) (by rfl) (by rfl) (Nat.le_of_ble_eq_true rfl) (s_reckonAll hB h0 hkn) (fun r11 μ11 e11 => ?_)
    obtain ⟨rfl, e1, e2, e3⟩ := e11
    refine bc_aload_n dX9_fits_14 rfl ?_
    refine bc_getr dX9_fits_15 fX9_71 (rfl) rfl ?_
    refine bc_callV (z := mX8_reckonFits) (ci := 8) dX9_fits_18 lX9_289 qX8_reckonFits (by rfl) (by rfl) (by rfl) (by rfl) (Nat.le_of_ble_eq_true rfl) (s_reckonFits ((e1 3 1 (by unfold tkc; omega)).trans hB.1.1) hB.1.2.1) (fun r18 μ18 e18 => ?_)
    obtain ⟨rfl, e4⟩ := e18
    refine bc_iload_n dX9_fits_21 rfl ?_
    refine bc_lookup (off := 34) (tgt := 56) dX9_fits_22 (by decide) (by decide) (by decide) ?_
    refine bc_aload_n dX9_fits_56 rfl ?_
    refine bc_getr dX9_fits_57 fX9_71 (rfl) rfl ?_
    refine bc_geti dX9_fits_60 fX9_295 (rfl) rfl ?_
    exact bc_ireturn dX9_fits_63 rfl rfl (⟨by rw [e4.2.2.1, fsM_cg _ (fun s hs => fit_S e1.core (fun j => e1 29 j (by unfold tkc; omega)) e3 hs)]; rfl, ft_tq e1.tq e4, .inr (ft_kn e4 e2 e3)⟩)
  · skip
    refine bc_aload_n dX9_fits_0 rfl ?_
    refine bc_iload_n dX9_fits_1 rfl ?_
    refine bc_iconst (v := 0) dX9_fits_2 (by decide) ?_
    refine bc_iconst (v := 2) dX9_fits_3 (by decide) ?_
    refine bc_callV (z := mX9_needWithin) (ci := 9) dX9_fits_4 lX9_172 qX9_needWithin (by rfl) (by rfl) (by rfl) (by rfl) (Nat.le_of_ble_eq_true rfl) (s_needW (by decide) (by decide)) (fun r4 μ4 e4 => ?_)
    obtain ⟨rfl, q4⟩ := e4
    obtain rfl := q4.symm
    refine bc_aload_n dX9_fits_7 rfl ?_
    refine bc_getr dX9_fits_8 fX9_71 (rfl) rfl ?_
    refine bc_callV (z := mX8_reckonAll) (ci := 8) dX9_fits_11 lX9_275 qX8_reckonAll (by rfl) (by rfl) (by rfl) (by rfl) (Nat.le_of_ble_eq_true rfl) (s_reckonAll hB h0 hkn) (fun r11 μ11 e11 => ?_)
    obtain ⟨rfl, e1, e2, e3⟩ := e11
    refine bc_aload_n dX9_fits_14 rfl ?_
    refine bc_getr dX9_fits_15 fX9_71 (rfl) rfl ?_
    refine bc_callV (z := mX8_reckonFits) (ci := 8) dX9_fits_18 lX9_289 qX8_reckonFits (by rfl) (by rfl) (by rfl) (by rfl) (Nat.le_of_ble_eq_true rfl) (s_reckonFits ((e1 3 1 (by unfold tkc; omega)).trans hB.1.1) hB.1.2.1) (fun r18 μ18 e18 => ?_)
    obtain ⟨rfl, e4⟩ := e18
    refine bc_iload_n dX9_fits_21 rfl ?_
    refine bc_lookup (off := 42) (tgt := 64) dX9_fits_22 (by decide) (by decide) (by decide) ?_
    refine bc_aload_n dX9_fits_64 rfl ?_
    refine bc_getr dX9_fits_65 fX9_71 (rfl) rfl ?_
    refine bc_geti dX9_fits_68 fX9_298 (rfl) rfl ?_
    exact bc_ireturn dX9_fits_71 rfl rfl (⟨by rw [e4.2.2.2.1, suM_cg _ (fun s hs => fit_S e1.core (fun j => e1 29 j (by unfold tkc; omega)) e3 hs)]; rfl, ft_tq e1.tq e4, .inr (ft_kn e4 e2 e3)⟩)
theorem crM_cg {F G : Nat → Bool} {C D : Nat → Int32} : ∀ k, (∀ s, s < k → F s = G s ∧ (F s = true → C s = D s)) → crM F C k = crM G D k := by
  intro k
  induction k with
  | zero => intro _; rfl
  | succ k ih =>
    intro h
    rw [crM, crM, ih (fun s hs => h s (by omega)), ← (h k (by omega)).1]
    by_cases hf : F k = true
    · rw [if_pos hf, if_pos hf, (h k (by omega)).2 hf]
    · rw [if_neg hf, if_neg hf]
theorem woM_cg {F G : Nat → Bool} {C D : Nat → Int32} : ∀ k, (∀ s, s < k → F s = G s ∧ (F s = true → C s = D s)) → woM F C k = woM G D k := by
  intro k
  induction k with
  | zero => intro _; rfl
  | succ k ih =>
    intro h
    rw [woM, woM, ih (fun s hs => h s (by omega)), crM_cg k (fun s hs => h s (by omega)), ← (h k (by omega)).1]
    by_cases hf : F k = true
    · rw [if_pos hf, if_pos hf, (h k (by omega)).2 hf]
    · rw [if_neg hf, if_neg hf]
def lkC (L W : Nat → Int32) : Nat → Int32 × Int32
  | 0 => (-1, -1)
  | k + 1 => if L (k + 1) = -1 ∧ ((lkC L W k).1 = -1 ∨ W (k + 1) < (lkC L W k).2) then (nI (k + 1), W (k + 1)) else lkC L W k
theorem lkM_C {F : Nat → Bool} {L W : Nat → Int32} : ∀ k, (∀ h, 1 ≤ h → h ≤ k → μ 29 h = L h ∧ woM F (μ (119 + h)) (2 ^ no) = W h) → lkM μ F no k = lkC L W k := by
  intro k
  induction k with
  | zero => intro _; rfl
  | succ k ih => intro h; rw [lkM, lkC, ih (fun g a b => h g a (by omega)), (h (k + 1) (by omega) (by omega)).1, (h (k + 1) (by omega) (by omega)).2]
def lokM (μ : bc_M) (n no nq : Nat) : Int32 × Int32 := lkC (μ 29) (fun h => woM (fitS μ n no nq) (fun s => cel (trP μ n no nq h s)) (2 ^ no)) 12
theorem cel_lt {p : Int32 × Int32} (h : rng p) : ∃ j, j < 961 ∧ cel p = nI j := by
  obtain ⟨a, b, ha, hb, rfl⟩ := h
  refine ⟨a * 31 + b, by omega, ?_⟩
  unfold cel
  rw [show (31 : Int32) = nI 31 from rfl, bn_mul, bn_add]
theorem ft_look (hB : okB μ n no nq) (h0 : rng (μ 31 2, μ 31 3)) (e1 : tS μ ν) (e3 : tkI n no nq ν) (e4 : ftI ν (2 ^ no) ξ) : (fkI ξ (fitB ν) no ∧ ∀ h, h < 13 → ∀ s, s < 2 ^ no → fitB ν s = true → ∃ j, j < 961 ∧ ξ (119 + h) s = nI j) ∧ lkM ξ (fitB ν) no 12 = lokM μ n no nq := by
  have hcel : ∀ h, h < 13 → ∀ s, s < 2 ^ no → fitB ν s = true → ξ (119 + h) s = cel (trP μ n no nq h s) := fun h hh s hs hf => by
    unfold fitB at hf
    rw [Bool.and_eq_true] at hf
    rw [e4.1 _ s (by omega) (by omega), e3.2 h (by omega) s hs (offB_P.mpr hf.1), e1.core.trk]
  refine ⟨⟨fun s hs => e4.2.2.2.2 s hs, fun h hh s hs hf => ?_⟩, ?_⟩
  · rw [hcel h hh s hs hf]
    exact cel_lt (trP_rng h0 s h)
  · unfold lokM
    refine lkM_C 12 (fun h a b => ⟨?_, ?_⟩)
    · rw [e4.1 29 h (by omega) (by omega)]; exact e1 29 h (by unfold tkc; omega)
    · refine woM_cg _ (fun s hs => ⟨fit_S e1.core (fun j => e1 29 j (by unfold tkc; omega)) e3 hs, fun hf => hcel h (by omega) s hs hf⟩)
theorem lk_kn {F : Nat → Bool} {k : Nat} (h : lkI ν F no k ξ) (hk : ν 117 7 = 1 ∧ tkI n no nq ν) : ξ 117 7 = 1 ∧ tkI n no nq ξ :=
  ⟨(h.1 117 7 (by omega) (by omega)).trans hk.1, hk.2.same ⟨fun i j a b => h.1 i j (by omega) (by omega), fun j => h.1 20 j (by omega) (by omega), fun j a b => h.1 31 j (by omega) (by omega), fun i j a b => h.1 i j (by omega) (by omega)⟩ (h.1 117 8 (by omega) (by omega)) (fun i j a b => h.1 i j (by omega) (by omega))⟩
theorem s_look {w : Nat} (hB : okB μ n no nq) (h0 : rng (μ 31 2, μ 31 3)) (hkn : kn n no nq μ) (hw : w ≤ 1) : bc_C (d + 7) LC mX9_look [.ref 0, .int (nI w)] μ (fun r ν => r = some (.int (if w = 0 then (lokM μ n no nq).1 else (lokM μ n no nq).2)) ∧ tqS μ ν ∧ kn n no nq ν) := by
  refine bc_enter (by decide) (Nat.le_of_ble_eq_true rfl) rfl ?_
  have hc : w = 0 ∨ w = 1 := by omega
  rcases hc with rfl | rfl
  · skip
    refine bc_aload_n dX9_look_0 rfl ?_
    refine bc_iload_n dX9_look_1 rfl ?_
    refine bc_iconst (v := 0) dX9_look_2 (by decide) ?_
    refine bc_iconst (v := 1) dX9_look_3 (by decide) ?_
    refine bc_callV (z := mX9_needWithin) (ci := 9) dX9_look_4 lX9_172 qX9_needWithin (by rfl) (by rfl) (by rfl) (by rfl) (Nat.le_of_ble_eq_true rfl) (s_needW (by decide) (by decide)) (fun r4 μ4 e4 => ?_)
    obtain ⟨rfl, q4⟩ := e4
    obtain rfl := q4.symm
    refine bc_aload_n dX9_look_7 rfl ?_
    refine bc_getr dX9_look_8 fX9_71 (rfl) rfl ?_
    refine bc_callV (z := mX8_reckonAll) (ci := 8) dX9_look_11 lX9_275 qX8_reckonAll (by rfl) (by rfl) (by rfl) (by rfl) (Nat.le_of_ble_eq_true rfl) (s_reckonAll hB h0 hkn) (fun r11 μ11 e11 => ?_)
    obtain ⟨rfl, e1, e2, e3⟩ := e11
    refine bc_aload_n dX9_look_14 rfl ?_
    refine bc_getr dX9_look_15 fX9_71 (rfl) rfl ?_
    refine bc_callV (z := mX8_reckonFits) (ci := 8) dX9_look_18 lX9_289 qX8_reckonFits (by rfl) (by rfl) (by rfl) (by rfl) (Nat.le_of_ble_eq_true rfl) (s_reckonFits ((e1 3 1 (by unfold tkc; omega)).trans hB.1.1) hB.1.2.1) (fun r18 μ18 e18 => ?_)
    obtain ⟨rfl, e4⟩ := e18
    refine bc_aload_n dX9_look_21 rfl ?_
    refine bc_getr dX9_look_22 fX9_71 (rfl) rfl ?_
    have e5 := ft_look hB h0 e1 e3 e4
    have e6 : μ18 3 1 = nI no := (e4.1 3 1 (by omega) (by omega)).trans ((e1 3 1 (by unfold tkc; omega)).trans hB.1.1)
    refine bc_callV (z := mX8_reckonLook) (ci := 8) dX9_look_25 lX9_301 qX8_reckonLook (by rfl) (by rfl) (by rfl) (by rfl) (Nat.le_of_ble_eq_true rfl) (s_reckonLook e6 hB.1.2.1 e5.1.1 e5.1.2) (fun r25 μ25 e25 => ?_)
    obtain ⟨rfl, e7⟩ := e25
    refine bc_iload_n dX9_look_28 rfl ?_
    refine bc_if_ne (tgt := 42) dX9_look_29 (by decide) (fun h29 => absurd h29 (by decide)) (fun h29 => ?_)
    refine bc_aload_n dX9_look_32 rfl ?_
    refine bc_getr dX9_look_33 fX9_71 (rfl) rfl ?_
    refine bc_geti dX9_look_36 fX9_304 (rfl) rfl ?_
    refine bc_goto (tgt := 49) dX9_look_39 (by decide) ?_
    exact bc_ireturn dX9_look_49 rfl rfl (⟨by rw [e7.2.1, e5.2]; rfl, fun i j q => (e7.1 i j (by omega) (by omega)).trans (ft_tq e1.tq e4 i j q), .inr (lk_kn e7 (ft_kn e4 e2 e3))⟩)
  · skip
    refine bc_aload_n dX9_look_0 rfl ?_
    refine bc_iload_n dX9_look_1 rfl ?_
    refine bc_iconst (v := 0) dX9_look_2 (by decide) ?_
    refine bc_iconst (v := 1) dX9_look_3 (by decide) ?_
    refine bc_callV (z := mX9_needWithin) (ci := 9) dX9_look_4 lX9_172 qX9_needWithin (by rfl) (by rfl) (by rfl) (by rfl) (Nat.le_of_ble_eq_true rfl) (s_needW (by decide) (by decide)) (fun r4 μ4 e4 => ?_)
    obtain ⟨rfl, q4⟩ := e4
    obtain rfl := q4.symm
    refine bc_aload_n dX9_look_7 rfl ?_
    refine bc_getr dX9_look_8 fX9_71 (rfl) rfl ?_
    refine bc_callV (z := mX8_reckonAll) (ci := 8) dX9_look_11 lX9_275 qX8_reckonAll (by rfl) (by rfl) (by rfl) (by rfl) (Nat.le_of_ble_eq_true rfl) (s_reckonAll hB h0 hkn) (fun r11 μ11 e11 => ?_)
    obtain ⟨rfl, e1, e2, e3⟩ := e11
    refine bc_aload_n dX9_look_14 rfl ?_
    refine bc_getr dX9_look_15 fX9_71 (rfl) rfl ?_
    refine bc_callV (z := mX8_reckonFits) (ci := 8) dX9_look_18 lX9_289 qX8_reckonFits (by rfl) (by rfl) (by rfl) (by rfl) (Nat.le_of_ble_eq_true rfl) (s_reckonFits ((e1 3 1 (by unfold tkc; omega)).trans hB.1.1) hB.1.2.1) (fun r18 μ18 e18 => ?_)
    obtain ⟨rfl, e4⟩ := e18
    refine bc_aload_n dX9_look_21 rfl ?_
    refine bc_getr dX9_look_22 fX9_71 (rfl) rfl ?_
    have e5 := ft_look hB h0 e1 e3 e4
    have e6 : μ18 3 1 = nI no := (e4.1 3 1 (by omega) (by omega)).trans ((e1 3 1 (by unfold tkc; omega)).trans hB.1.1)
    refine bc_callV (z := mX8_reckonLook) (ci := 8) dX9_look_25 lX9_301 qX8_reckonLook (by rfl) (by rfl) (by rfl) (by rfl) (Nat.le_of_ble_eq_true rfl) (s_reckonLook e6 hB.1.2.1 e5.1.1 e5.1.2) (fun r25 μ25 e25 => ?_)
    obtain ⟨rfl, e7⟩ := e25
    refine bc_iload_n dX9_look_28 rfl ?_
    refine bc_if_ne (tgt := 42) dX9_look_29 (by decide) (fun h29 => ?_) (fun h29 => absurd h29 (by decide))
    refine bc_aload_n dX9_look_42 rfl ?_
    refine bc_getr dX9_look_43 fX9_71 (rfl) rfl ?_
    refine bc_geti dX9_look_46 fX9_307 (rfl) rfl ?_
    exact bc_ireturn dX9_look_49 rfl rfl (⟨by rw [e7.2.2, e5.2]; rfl, fun i j q => (e7.1 i j (by omega) (by omega)).trans (ft_tq e1.tq e4 i j q), .inr (lk_kn e7 (ft_kn e4 e2 e3))⟩)
end OW3
