/-! BreadCity$Law reads a unit, and all -/
section RDL
variable {d : Nat} {μ μ0 : bc_M} {n a k : Nat} {f q : Int32}
theorem lS_inl {g : Nat × Nat} {l l' : List Nat} (h : lS n μ0 (.inl g) l μ) : lS n μ0 (.inl g) l' μ := by
  obtain ⟨μ', a', k', f', q', rfl, e1, e2, e3⟩ := h
  exact ⟨μ', a', k', f', q', rfl, e1, e2, fun p hp => by cases hp⟩
theorem s_tkF (hn : n ≤ 600) (h2 : μ 1 2 = nI n) (ha : a ≤ n) {c : Int32} (hc : ¬ c = -1) (hx : ¬ (f = 0 ∧ a < n ∧ μ 2 a = c)) : bc_C (d + 1) LC mX7_takes [.ref 1, .int c] (tx μ a k f q) (fun r ν => r = some (.int 0) ∧ ν = tx μ a k f q) :=
  bc_C.weaken (s_takes hn h2 ha hc) (fun r ν q => by rw [if_neg hx] at q; exact q)
theorem s_tkT (hn : n ≤ 600) (h2 : μ 1 2 = nI n) (ha : a ≤ n) {c : Int32} (hc : ¬ c = -1) (hx : f = 0 ∧ a < n ∧ μ 2 a = c) : bc_C (d + 1) LC mX7_takes [.ref 1, .int c] (tx μ a k f q) (fun r ν => r = some (.int 1) ∧ ν = tx μ (skp (μ 2) n (a + 1)) a f q) :=
  bc_C.weaken (s_takes hn h2 ha hc) (fun r ν q => by rw [if_pos hx] at q; exact q)
theorem s_unitF {o : Int32} {g : Nat × Nat} {l : List Nat} (hn : n ≤ 150) (h2 : μ0 1 2 = nI n) (h : lS n μ0 (.inl g) l μ) : bc_C (d + 10) LC mX2_readUnit [.ref 19, .ref 1, .int o] μ (fun r ν => r = none ∧ lS n μ0 (.inl g) l ν) := by
  obtain ⟨μ', a', k', f', q', rfl, e1, e2, e3, e4, e5⟩ := lS_n h h2
  have ha := tq_le e2
  obtain ⟨g1, g2⟩ := g
  have hf := tq_f e2
  have hlt : ∀ (b k9 : Nat) (f9 q9 : Int32), tq n (.inl (g1, g2)) b f9 q9 → lS n μ0 (.inl (g1, g2)) l (tx μ' b k9 f9 q9) := fun b k9 f9 q9 t => ⟨μ', b, k9, f9, q9, rfl, e1, t, fun p hp => by cases hp⟩
  refine bc_enter (by decide) (Nat.le_of_ble_eq_true rfl) rfl ?_
  refine bc_aload_n dX2_readUnit_0 rfl ?_
  refine bc_callV (z := mX7_nextIsDigit) (ci := 7) dX2_readUnit_1 lX2_68 qX7_nextIsDigit (by rfl) (by rfl) (by rfl) (by rfl) (Nat.le_of_ble_eq_true rfl) (s_nextDg (by omega) e4 ha) (fun r1 μ1 e1 => ?_)
  obtain ⟨rfl, q1⟩ := e1
  obtain rfl := q1.symm
  refine bc_if_eq (tgt := 20) dX2_readUnit_4 (by decide) (fun h4 => ?_) (fun h4 => ?_)
  · refine bc_aload_n dX2_readUnit_20 rfl ?_
    refine bc_bipush (v := 40) dX2_readUnit_21 (by decide) ?_
    refine bc_callV (z := mX7_takes) (ci := 7) dX2_readUnit_23 lX2_61 qX7_takes (by rfl) (by rfl) (by rfl) (by rfl) (Nat.le_of_ble_eq_true rfl) (s_tkF (by omega) e4 ha (by decide) (fun x => hf x.1)) (fun r23 μ23 e23 => ?_)
    obtain ⟨rfl, q23⟩ := e23
    obtain rfl := q23.symm
    refine bc_if_eq (tgt := 34) dX2_readUnit_26 (by decide) (fun h26 => ?_) (fun h26 => absurd h26 (fun x => x rfl))
    refine bc_aload_n dX2_readUnit_34 rfl ?_
    refine bc_ldcS (tx := "bread noses lit others onions side hour least most ") (k := 2) dX2_readUnit_35 (by decide) ?_
    refine bc_callV (z := mX7_word) (ci := 7) dX2_readUnit_37 lX2_77 qX7_word (by rfl) (by rfl) (by rfl) (by rfl) (Nat.le_of_ble_eq_true rfl) (s_word (d := d + 4) (K := 2) (S := .inl (g1, g2)) (by decide) (by decide) (by omega) e4 e2) (fun r37 μ37 e37 => ?_)
    obtain ⟨a1, f1, q1, rfl, rfl, t1⟩ := e37
    refine bc_istore_n dX2_readUnit_40 (by decide) rfl ?_
    refine bc_iload_n dX2_readUnit_41 rfl ?_
    refine bc_if_lt (tgt := 61) dX2_readUnit_42 (by decide) (fun h42 => ?_) (fun h42 => ?_)
    · refine bc_iload_n dX2_readUnit_61 rfl ?_
      refine bc_bipush (v := 6) dX2_readUnit_62 (by decide) ?_
      refine bc_icmp_lt (tgt := 76) dX2_readUnit_64 (by decide) (fun h64 => ?_) (fun h64 => ?_)
      · refine bc_aload_n dX2_readUnit_76 rfl ?_
        refine bc_callV (z := mX7_isSound) (ci := 7) dX2_readUnit_77 lX2_57 qX7_isSound (by rfl) (by rfl) (by rfl) (by rfl) (Nat.le_of_ble_eq_true rfl) (s_lsound (hlt _ _ _ _ t1)) (fun r77 μ77 e77 => ?_)
        obtain ⟨rfl, q77⟩ := e77
        obtain rfl := q77.symm
        refine bc_if_ne (tgt := 84) dX2_readUnit_80 (by decide) (fun h80 => absurd h80 (fun x => x rfl)) (fun h80 => ?_)
        exact bc_return dX2_readUnit_83 rfl (⟨rfl, hlt _ _ _ _ t1⟩)
      · refine bc_aload_n dX2_readUnit_67 rfl ?_
        refine bc_iconst (v := 3) dX2_readUnit_68 (by decide) ?_
        refine bc_aload_n dX2_readUnit_69 rfl ?_
        refine bc_geti dX2_readUnit_70 fX2_81 (rfl) rfl ?_
        refine bc_callV (z := mX7_accuse) (ci := 7) dX2_readUnit_73 lX2_84 qX7_accuse (by rfl) (by rfl) (by rfl) (by rfl) (Nat.le_of_ble_eq_true rfl) (s_accuse _ _) (fun r73 μ73 e73 => ?_)
        obtain ⟨rfl, q73⟩ := e73
        obtain rfl := q73.symm
        rw [if_neg (tq_f (show tq n (.inl (g1, g2)) a1 f1 q1 from t1)), if_neg (tq_f (show tq n (.inl (g1, g2)) a1 f1 q1 from t1))]
        refine bc_aload_n dX2_readUnit_76 rfl ?_
        refine bc_callV (z := mX7_isSound) (ci := 7) dX2_readUnit_77 lX2_57 qX7_isSound (by rfl) (by rfl) (by rfl) (by rfl) (Nat.le_of_ble_eq_true rfl) (s_lsound (hlt _ _ _ _ t1)) (fun r77 μ77 e77 => ?_)
        obtain ⟨rfl, q77⟩ := e77
        obtain rfl := q77.symm
        refine bc_if_ne (tgt := 84) dX2_readUnit_80 (by decide) (fun h80 => absurd h80 (fun x => x rfl)) (fun h80 => ?_)
        exact bc_return dX2_readUnit_83 rfl (⟨rfl, hlt _ _ _ _ t1⟩)
    · refine bc_iload_n dX2_readUnit_45 rfl ?_
      refine bc_bipush (v := 7) dX2_readUnit_46 (by decide) ?_
      refine bc_icmp_ge (tgt := 61) dX2_readUnit_48 (by decide) (fun h48 => ?_) (fun h48 => ?_)
      · refine bc_iload_n dX2_readUnit_61 rfl ?_
        refine bc_bipush (v := 6) dX2_readUnit_62 (by decide) ?_
        refine bc_icmp_lt (tgt := 76) dX2_readUnit_64 (by decide) (fun h64 => ?_) (fun h64 => ?_)
        · refine bc_aload_n dX2_readUnit_76 rfl ?_
          refine bc_callV (z := mX7_isSound) (ci := 7) dX2_readUnit_77 lX2_57 qX7_isSound (by rfl) (by rfl) (by rfl) (by rfl) (Nat.le_of_ble_eq_true rfl) (s_lsound (hlt _ _ _ _ t1)) (fun r77 μ77 e77 => ?_)
          obtain ⟨rfl, q77⟩ := e77
          obtain rfl := q77.symm
          refine bc_if_ne (tgt := 84) dX2_readUnit_80 (by decide) (fun h80 => absurd h80 (fun x => x rfl)) (fun h80 => ?_)
          exact bc_return dX2_readUnit_83 rfl (⟨rfl, hlt _ _ _ _ t1⟩)
        · refine bc_aload_n dX2_readUnit_67 rfl ?_
          refine bc_iconst (v := 3) dX2_readUnit_68 (by decide) ?_
          refine bc_aload_n dX2_readUnit_69 rfl ?_
          refine bc_geti dX2_readUnit_70 fX2_81 (rfl) rfl ?_
          refine bc_callV (z := mX7_accuse) (ci := 7) dX2_readUnit_73 lX2_84 qX7_accuse (by rfl) (by rfl) (by rfl) (by rfl) (Nat.le_of_ble_eq_true rfl) (s_accuse _ _) (fun r73 μ73 e73 => ?_)
          obtain ⟨rfl, q73⟩ := e73
          obtain rfl := q73.symm
          rw [if_neg (tq_f (show tq n (.inl (g1, g2)) a1 f1 q1 from t1)), if_neg (tq_f (show tq n (.inl (g1, g2)) a1 f1 q1 from t1))]
          refine bc_aload_n dX2_readUnit_76 rfl ?_
          refine bc_callV (z := mX7_isSound) (ci := 7) dX2_readUnit_77 lX2_57 qX7_isSound (by rfl) (by rfl) (by rfl) (by rfl) (Nat.le_of_ble_eq_true rfl) (s_lsound (hlt _ _ _ _ t1)) (fun r77 μ77 e77 => ?_)
          obtain ⟨rfl, q77⟩ := e77
          obtain rfl := q77.symm
          refine bc_if_ne (tgt := 84) dX2_readUnit_80 (by decide) (fun h80 => absurd h80 (fun x => x rfl)) (fun h80 => ?_)
          exact bc_return dX2_readUnit_83 rfl (⟨rfl, hlt _ _ _ _ t1⟩)
      · refine bc_aload_n dX2_readUnit_51 rfl ?_
        refine bc_sipush (v := 1000) dX2_readUnit_52 (by decide) ?_
        refine bc_iload_n dX2_readUnit_55 rfl ?_
        refine bc_iadd dX2_readUnit_56 ?_
        refine bc_callV (z := mX2_put) (ci := 2) dX2_readUnit_57 lX2_31 qX2_put (by rfl) (by rfl) (by rfl) (by rfl) (Nat.le_of_ble_eq_true rfl) (s_lput (x := 0) (hlt _ _ _ _ t1) (fun p hp => by cases hp)) (fun r57 μ57 e57 => ?_)
        obtain ⟨rfl, h57⟩ := e57
        exact bc_return dX2_readUnit_60 rfl (⟨rfl, lS_inl h57⟩)
  · refine bc_aload_n dX2_readUnit_7 rfl ?_
    refine bc_aload_n dX2_readUnit_8 rfl ?_
    refine bc_iconst (v := 0) dX2_readUnit_9 (by decide) ?_
    refine bc_sipush (v := 999) dX2_readUnit_10 (by decide) ?_
    refine bc_callV (z := mX7_number) (ci := 7) dX2_readUnit_13 lX2_71 qX7_number (by rfl) (by rfl) (by rfl) (by rfl) (Nat.le_of_ble_eq_true rfl) (s_number (d := d + 7) (S := .inl (g1, g2)) (LO := 0) (HI := 1000) (by omega) e4 e2 (by decide) (by decide) (by omega) (by omega)) (fun r13 μ13 e13 => ?_)
    obtain ⟨a1, f1, q1, v1, rfl, rfl, t1, w1⟩ := e13
    refine bc_callV (z := mX2_put) (ci := 2) dX2_readUnit_16 lX2_31 qX2_put (by rfl) (by rfl) (by rfl) (by rfl) (Nat.le_of_ble_eq_true rfl) (s_lput (x := 0) (hlt _ _ _ _ t1) (fun p hp => by cases hp)) (fun r16 μ16 e16 => ?_)
    obtain ⟨rfl, h16⟩ := e16
    exact bc_return dX2_readUnit_19 rfl (⟨rfl, lS_inl h16⟩)
theorem wV_lt {W : List (List Int32)} {t : Nat → Int32} {p : Nat} (hW : W.length ≤ 99) (h : (sWrd t n W (.inr p)).2 < W.length) : wV W (wd t n p) = nI (sWrd t n W (.inr p)).2 ∧ (sWrd t n W (.inr p)).1 = .inr (skp t n (ltE t n p)) := by
  unfold sWrd wV at *
  by_cases hi : W.idxOf (wd t n p) < W.length
  · simp only [if_pos hi]; exact ⟨trivial, trivial⟩
  · exfalso
    simp only [if_neg hi] at h
    omega
theorem wV_cs {t : Nat → Int32} {p : Nat} : ((sWrd t n (bw 2) (.inr p)).2 < 9) ∨ ((sWrd t n (bw 2) (.inr p)).2 = 99 ∧ wV (bw 2) (wd t n p) = -1 ∧ (sWrd t n (bw 2) (.inr p)).1 = .inl (1, p)) := by
  unfold sWrd wV
  by_cases hi : (bw 2).idxOf (wd t n p) < (bw 2).length
  · simp only [if_pos hi]; exact .inl hi
  · simp only [if_neg hi]; exact .inr ⟨trivial, trivial, trivial⟩
theorem s_unit {o : Nat} {nest : Option (LSt → LSt)} (hn : n ≤ 150) (h2 : μ0 1 2 = nI n) (hO : (nest = none ∧ o = 6) ∨ (∃ g, nest = some g ∧ o < 6 ∧ good n g ∧ Lok n μ0 (d + 8) mX2_readSum [.ref 19, .ref 1, .int (nI (o + 1))] g ∧ Lok n μ0 (d + 9) mX2_readSum [.ref 19, .ref 1, .int (nI (o + 1))] g)) : Lok n μ0 (d + 10) mX2_readUnit [.ref 19, .ref 1, .int (nI o)] (pUt (μ0 2) n nest) := by
  intro μ S l h0 hinv
  cases S with
  | inl g => exact s_unitF hn h2 h0
  | inr p =>
    obtain ⟨μ', a', k', f', q', rfl, e1, e2, e3, e4, e5⟩ := lS_n h0 h2
    have ha := tq_le e2
    obtain ⟨rfl, b1, b2, b3⟩ := id e2
    obtain ⟨hlp, -⟩ := hinv a' rfl
    have hlR := e3 a' rfl
    have hlt : ∀ (S : TS) (b k9 : Nat) (f9 q9 : Int32), tq n S b f9 q9 → lS n μ0 S l (tx μ' b k9 f9 q9) := fun S b k9 f9 q9 t => ⟨μ', b, k9, f9, q9, rfl, e1, t, fun p hp => hlR⟩
    have ho6 : o ≤ 6 := by rcases hO with ⟨-, h⟩ | ⟨g, -, h, -⟩ <;> omega
    refine bc_enter (by decide) (Nat.le_of_ble_eq_true rfl) rfl ?_
    by_cases hD : a' < n ∧ isDg (μ0 2 a') = true
    · have hdef : pUt (μ0 2) n nest (.inr a', l) = ((sNum (μ0 2) n 0 1000 (.inr a')).1, l ++ [(sNum (μ0 2) n 0 1000 (.inr a')).2]) := by simp only [pUt, if_pos hD]
      rw [hdef]
      refine bc_aload_n dX2_readUnit_0 rfl ?_
      refine bc_callV (z := mX7_nextIsDigit) (ci := 7) dX2_readUnit_1 lX2_68 qX7_nextIsDigit (by rfl) (by rfl) (by rfl) (by rfl) (Nat.le_of_ble_eq_true rfl) (s_nextDg (by omega) e4 ha) (fun r1 μ1 e1 => ?_)
      obtain ⟨rfl, q1⟩ := e1
      obtain rfl := q1.symm
      refine bc_if_eq (tgt := 20) dX2_readUnit_4 (by decide) (fun h4 => absurd h4 (by rw [e5, if_pos hD]; decide)) (fun h4 => ?_)
      refine bc_aload_n dX2_readUnit_7 rfl ?_
      refine bc_aload_n dX2_readUnit_8 rfl ?_
      refine bc_iconst (v := 0) dX2_readUnit_9 (by decide) ?_
      refine bc_sipush (v := 999) dX2_readUnit_10 (by decide) ?_
      refine bc_callV (z := mX7_number) (ci := 7) dX2_readUnit_13 lX2_71 qX7_number (by rfl) (by rfl) (by rfl) (by rfl) (Nat.le_of_ble_eq_true rfl) (s_number (d := d + 7) (LO := 0) (HI := 1000) (by omega) e4 e2 (by decide) (by decide) (by omega) (by omega)) (fun r13 μ13 e13 => ?_)
      obtain ⟨a1, f1, q1, v1, rfl, rfl, t1, w1⟩ := e13
      refine bc_callV (z := mX2_put) (ci := 2) dX2_readUnit_16 lX2_31 qX2_put (by rfl) (by rfl) (by rfl) (by rfl) (Nat.le_of_ble_eq_true rfl) (s_lput (x := (sNum (μ0 2) n 0 1000 (.inr a')).2) (hlt _ _ _ _ _ t1) (fun p hp => by rw [e5] at w1 hp; exact ⟨w1 p hp, by omega⟩)) (fun r16 μ16 e16 => ?_)
      obtain ⟨rfl, h16⟩ := e16
      exact bc_return dX2_readUnit_19 rfl (by
rw [e5] at h16
exact ⟨rfl, h16⟩)
    · by_cases hB : a' < n ∧ μ0 2 a' = 40
      · have hsk : a' + 1 ≤ skp (μ0 2) n (a' + 1) := rn_ge _ _ _ _
        have hsk2 : skp (μ0 2) n (a' + 1) ≤ n := rn_le (by omega)
        have t1 : tq n (.inr (skp (μ0 2) n (a' + 1))) (skp (μ0 2) n (a' + 1)) f' q' := ⟨rfl, hsk2, b2, b3⟩
        rcases hO with ⟨rfl, rfl⟩ | ⟨g, rfl, hlt6, hg, hG, hG9⟩
        · have hdef : pUt (μ0 2) n none (.inr a', l) = (.inl (3, a'), l) := by simp only [pUt, if_neg hD, if_pos hB]
          rw [hdef]
          refine bc_aload_n dX2_readUnit_0 rfl ?_
          refine bc_callV (z := mX7_nextIsDigit) (ci := 7) dX2_readUnit_1 lX2_68 qX7_nextIsDigit (by rfl) (by rfl) (by rfl) (by rfl) (Nat.le_of_ble_eq_true rfl) (s_nextDg (by omega) e4 ha) (fun r1 μ1 e1 => ?_)
          obtain ⟨rfl, q1⟩ := e1
          obtain rfl := q1.symm
          refine bc_if_eq (tgt := 20) dX2_readUnit_4 (by decide) (fun h4 => ?_) (fun h4 => absurd h4 (by rw [e5, if_neg hD]; exact fun x => x rfl))
          refine bc_aload_n dX2_readUnit_20 rfl ?_
          refine bc_bipush (v := 40) dX2_readUnit_21 (by decide) ?_
          refine bc_callV (z := mX7_takes) (ci := 7) dX2_readUnit_23 lX2_61 qX7_takes (by rfl) (by rfl) (by rfl) (by rfl) (Nat.le_of_ble_eq_true rfl) (s_tkT (by omega) e4 ha (by decide) ⟨b2, by rw [e5]; exact hB⟩) (fun r23 μ23 e23 => ?_)
          obtain ⟨rfl, q23⟩ := e23
          obtain rfl := q23.symm
          refine bc_if_eq (tgt := 34) dX2_readUnit_26 (by decide) (fun h26 => absurd h26 (by decide)) (fun h26 => ?_)
          refine bc_bipush (v := 9) dX2_readUnit_29 (by decide) ?_
          refine bc_goto (tgt := 40) dX2_readUnit_31 (by decide) ?_
          refine bc_istore_n dX2_readUnit_40 (by decide) rfl ?_
          refine bc_iload_n dX2_readUnit_41 rfl ?_
          refine bc_if_lt (tgt := 61) dX2_readUnit_42 (by decide) (fun h42 => absurd h42 (by decide)) (fun h42 => ?_)
          refine bc_iload_n dX2_readUnit_45 rfl ?_
          refine bc_bipush (v := 7) dX2_readUnit_46 (by decide) ?_
          refine bc_icmp_ge (tgt := 61) dX2_readUnit_48 (by decide) (fun h48 => ?_) (fun h48 => absurd h48 (by decide))
          refine bc_iload_n dX2_readUnit_61 rfl ?_
          refine bc_bipush (v := 6) dX2_readUnit_62 (by decide) ?_
          refine bc_icmp_lt (tgt := 76) dX2_readUnit_64 (by decide) (fun h64 => absurd h64 (by decide)) (fun h64 => ?_)
          refine bc_aload_n dX2_readUnit_67 rfl ?_
          refine bc_iconst (v := 3) dX2_readUnit_68 (by decide) ?_
          refine bc_aload_n dX2_readUnit_69 rfl ?_
          refine bc_geti dX2_readUnit_70 fX2_81 (rfl) rfl ?_
          refine bc_callV (z := mX7_accuse) (ci := 7) dX2_readUnit_73 lX2_84 qX7_accuse (by rfl) (by rfl) (by rfl) (by rfl) (Nat.le_of_ble_eq_true rfl) (s_accuse _ _) (fun r73 μ73 e73 => ?_)
          obtain ⟨rfl, q73⟩ := e73
          obtain rfl := q73.symm
          rw [tx_4, e5]
          refine bc_aload_n dX2_readUnit_76 rfl ?_
          refine bc_callV (z := mX7_isSound) (ci := 7) dX2_readUnit_77 lX2_57 qX7_isSound (by rfl) (by rfl) (by rfl) (by rfl) (Nat.le_of_ble_eq_true rfl) (s_lsound (hlt _ _ _ _ _ (tq_acc (kd := 3) (pl := a') t1 (by omega) (by omega) ha))) (fun r77 μ77 e77 => ?_)
          obtain ⟨rfl, q77⟩ := e77
          obtain rfl := q77.symm
          refine bc_if_ne (tgt := 84) dX2_readUnit_80 (by decide) (fun h80 => absurd h80 (fun x => x rfl)) (fun h80 => ?_)
          exact bc_return dX2_readUnit_83 rfl (⟨rfl, hlt _ _ _ _ _ (tq_acc (kd := 3) (pl := a') t1 (by omega) (by omega) ha)⟩)
        · have hdef : pUt (μ0 2) n (some g) (.inr a', l) = (sNeed (μ0 2) n 41 (g (.inr (skp (μ0 2) n (a' + 1)), l)).1, (g (.inr (skp (μ0 2) n (a' + 1)), l)).2) := by simp only [pUt, if_neg hD, if_pos hB]
          rw [hdef]
          refine bc_aload_n dX2_readUnit_0 rfl ?_
          refine bc_callV (z := mX7_nextIsDigit) (ci := 7) dX2_readUnit_1 lX2_68 qX7_nextIsDigit (by rfl) (by rfl) (by rfl) (by rfl) (Nat.le_of_ble_eq_true rfl) (s_nextDg (by omega) e4 ha) (fun r1 μ1 e1 => ?_)
          obtain ⟨rfl, q1⟩ := e1
          obtain rfl := q1.symm
          refine bc_if_eq (tgt := 20) dX2_readUnit_4 (by decide) (fun h4 => ?_) (fun h4 => absurd h4 (by rw [e5, if_neg hD]; exact fun x => x rfl))
          refine bc_aload_n dX2_readUnit_20 rfl ?_
          refine bc_bipush (v := 40) dX2_readUnit_21 (by decide) ?_
          refine bc_callV (z := mX7_takes) (ci := 7) dX2_readUnit_23 lX2_61 qX7_takes (by rfl) (by rfl) (by rfl) (by rfl) (Nat.le_of_ble_eq_true rfl) (s_tkT (by omega) e4 ha (by decide) ⟨b2, by rw [e5]; exact hB⟩) (fun r23 μ23 e23 => ?_)
          obtain ⟨rfl, q23⟩ := e23
          obtain rfl := q23.symm
          refine bc_if_eq (tgt := 34) dX2_readUnit_26 (by decide) (fun h26 => absurd h26 (by decide)) (fun h26 => ?_)
          refine bc_bipush (v := 9) dX2_readUnit_29 (by decide) ?_
          refine bc_goto (tgt := 40) dX2_readUnit_31 (by decide) ?_
          refine bc_istore_n dX2_readUnit_40 (by decide) rfl ?_
          refine bc_iload_n dX2_readUnit_41 rfl ?_
          refine bc_if_lt (tgt := 61) dX2_readUnit_42 (by decide) (fun h42 => absurd h42 (by decide)) (fun h42 => ?_)
          refine bc_iload_n dX2_readUnit_45 rfl ?_
          refine bc_bipush (v := 7) dX2_readUnit_46 (by decide) ?_
          refine bc_icmp_ge (tgt := 61) dX2_readUnit_48 (by decide) (fun h48 => ?_) (fun h48 => absurd h48 (by decide))
          refine bc_iload_n dX2_readUnit_61 rfl ?_
          refine bc_bipush (v := 6) dX2_readUnit_62 (by decide) ?_
          refine bc_icmp_lt (tgt := 76) dX2_readUnit_64 (by decide) (fun h64 => ?_) (fun h64 => absurd h64 (fun x => x (nI_lt (b := 6) hlt6 (by omega))))
          rw [e5]
          refine bc_aload_n dX2_readUnit_76 rfl ?_
          refine bc_callV (z := mX7_isSound) (ci := 7) dX2_readUnit_77 lX2_57 qX7_isSound (by rfl) (by rfl) (by rfl) (by rfl) (Nat.le_of_ble_eq_true rfl) (s_lsound (hlt _ _ _ _ _ t1)) (fun r77 μ77 e77 => ?_)
          obtain ⟨rfl, q77⟩ := e77
          obtain rfl := q77.symm
          refine bc_if_ne (tgt := 84) dX2_readUnit_80 (by decide) (fun h80 => ?_) (fun h80 => absurd h80 (fun x => absurd (show (1 : Int32) = 0 from x) (by decide)))
          refine bc_iload_n dX2_readUnit_84 rfl ?_
          refine bc_bipush (v := 9) dX2_readUnit_85 (by decide) ?_
          refine bc_icmp_ne (tgt := 107) dX2_readUnit_87 (by decide) (fun h87 => absurd h87 (fun x => x rfl)) (fun h87 => ?_)
          refine bc_aload_n dX2_readUnit_90 rfl ?_
          refine bc_aload_n dX2_readUnit_91 rfl ?_
          refine bc_iload_n dX2_readUnit_92 rfl ?_
          refine bc_iconst (v := 1) dX2_readUnit_93 (by decide) ?_
          refine bc_iadd dX2_readUnit_94 ?_
          rw [bn_add1]
          refine bc_callV (z := mX2_readSum) (ci := 2) dX2_readUnit_95 lX2_45 qX2_readSum (by rfl) (by rfl) (by rfl) (by rfl) (Nat.le_of_ble_eq_true rfl) (hG9 _ _ _ (hlt _ _ _ _ _ t1) (fun p hp => by have hp := Sum.inr.inj hp; omega)) (fun r95 μ95 e95 => ?_)
          obtain ⟨rfl, h95⟩ := e95
          refine bc_aload_n dX2_readUnit_98 rfl ?_
          refine bc_bipush (v := 41) dX2_readUnit_99 (by decide) ?_
          refine bc_callV (z := mX7_need) (ci := 7) dX2_readUnit_101 lX2_88 qX7_need (by rfl) (by rfl) (by rfl) (by rfl) (Nat.le_of_ble_eq_true rfl) (s_lneed (by omega) h2 h95 (by decide)) (fun r101 μ101 e101 => ?_)
          obtain ⟨rfl, h101⟩ := e101
          refine bc_goto (tgt := 130) dX2_readUnit_104 (by decide) ?_
          exact bc_return dX2_readUnit_130 rfl (⟨rfl, h101⟩)
      · have htk : ¬ (f' = 0 ∧ a' < n ∧ μ' 2 a' = 40) := fun x => hB (by rw [e5] at x; exact x.2)
        rcases wV_cs (t := μ0 2) (n := n) (p := a') with hw9 | ⟨hw99, hwv, hw1⟩
        · obtain ⟨hwv, hw1⟩ := wV_lt (W := bw 2) (t := μ0 2) (n := n) (p := a') (by decide) hw9
          have hsk2 : skp (μ0 2) n (ltE (μ0 2) n a') ≤ n := rn_le (rn_le ha)
          by_cases h7 : (sWrd (μ0 2) n (bw 2) (.inr a')).2 < 7
          · have hdef : pUt (μ0 2) n nest (.inr a', l) = ((sWrd (μ0 2) n (bw 2) (.inr a')).1, l ++ [1000 + (sWrd (μ0 2) n (bw 2) (.inr a')).2]) := by simp only [pUt, if_neg hD, if_neg hB, if_pos h7]
            rw [hdef]
            refine bc_aload_n dX2_readUnit_0 rfl ?_
            refine bc_callV (z := mX7_nextIsDigit) (ci := 7) dX2_readUnit_1 lX2_68 qX7_nextIsDigit (by rfl) (by rfl) (by rfl) (by rfl) (Nat.le_of_ble_eq_true rfl) (s_nextDg (by omega) e4 ha) (fun r1 μ1 e1 => ?_)
            obtain ⟨rfl, q1⟩ := e1
            obtain rfl := q1.symm
            refine bc_if_eq (tgt := 20) dX2_readUnit_4 (by decide) (fun h4 => ?_) (fun h4 => absurd h4 (by rw [e5, if_neg hD]; exact fun x => x rfl))
            refine bc_aload_n dX2_readUnit_20 rfl ?_
            refine bc_bipush (v := 40) dX2_readUnit_21 (by decide) ?_
            refine bc_callV (z := mX7_takes) (ci := 7) dX2_readUnit_23 lX2_61 qX7_takes (by rfl) (by rfl) (by rfl) (by rfl) (Nat.le_of_ble_eq_true rfl) (s_tkF (by omega) e4 ha (by decide) htk) (fun r23 μ23 e23 => ?_)
            obtain ⟨rfl, q23⟩ := e23
            obtain rfl := q23.symm
            refine bc_if_eq (tgt := 34) dX2_readUnit_26 (by decide) (fun h26 => ?_) (fun h26 => absurd h26 (fun x => x rfl))
            refine bc_aload_n dX2_readUnit_34 rfl ?_
            refine bc_ldcS (tx := "bread noses lit others onions side hour least most ") (k := 2) dX2_readUnit_35 (by decide) ?_
            refine bc_callV (z := mX7_word) (ci := 7) dX2_readUnit_37 lX2_77 qX7_word (by rfl) (by rfl) (by rfl) (by rfl) (Nat.le_of_ble_eq_true rfl) (s_word (d := d + 4) (K := 2) (by decide) (by decide) (by omega) e4 e2) (fun r37 μ37 e37 => ?_)
            obtain ⟨a1, f1, q1, rfl, rfl, t1⟩ := e37
            rw [e5, hwv]
            refine bc_istore_n dX2_readUnit_40 (by decide) rfl ?_
            refine bc_iload_n dX2_readUnit_41 rfl ?_
            refine bc_if_lt (tgt := 61) dX2_readUnit_42 (by decide) (fun h42 => absurd h42 (nI_pos (by omega))) (fun h42 => ?_)
            refine bc_iload_n dX2_readUnit_45 rfl ?_
            refine bc_bipush (v := 7) dX2_readUnit_46 (by decide) ?_
            refine bc_icmp_ge (tgt := 61) dX2_readUnit_48 (by decide) (fun h48 => absurd h48 (nI_ge (b := 7) h7 (by omega))) (fun h48 => ?_)
            refine bc_aload_n dX2_readUnit_51 rfl ?_
            refine bc_sipush (v := 1000) dX2_readUnit_52 (by decide) ?_
            refine bc_iload_n dX2_readUnit_55 rfl ?_
            refine bc_iadd dX2_readUnit_56 ?_
            refine bc_callV (z := mX2_put) (ci := 2) dX2_readUnit_57 lX2_31 qX2_put (by rfl) (by rfl) (by rfl) (by rfl) (Nat.le_of_ble_eq_true rfl) (s_lput (x := 1000 + (sWrd (μ0 2) n (bw 2) (.inr a')).2) (hlt _ _ _ _ _ t1) (fun p hp => ⟨by rw [show (1000 : Int32) = nI 1000 from rfl, bn_add], by rw [e5, hw1] at hp; have h9 := sWrd_ok bw2_ne hw1 ha; omega⟩)) (fun r57 μ57 e57 => ?_)
            obtain ⟨rfl, h57⟩ := e57
            exact bc_return dX2_readUnit_60 rfl (by
rw [e5] at h57
exact ⟨rfl, h57⟩)
          · have h78 : (sWrd (μ0 2) n (bw 2) (.inr a')).2 = 7 ∨ (sWrd (μ0 2) n (bw 2) (.inr a')).2 = 8 := by omega
            have h99 : ¬ (sWrd (μ0 2) n (bw 2) (.inr a')).2 = 99 := by omega
            rcases hO with ⟨rfl, rfl⟩ | ⟨g, rfl, hlt6, hg, hG, hG9⟩
            · have hdef : pUt (μ0 2) n none (.inr a', l) = (.inl (3, a'), l) := by simp only [pUt, if_neg hD, if_neg hB, if_neg h7, if_neg h99]
              rw [hdef]
              refine bc_aload_n dX2_readUnit_0 rfl ?_
              refine bc_callV (z := mX7_nextIsDigit) (ci := 7) dX2_readUnit_1 lX2_68 qX7_nextIsDigit (by rfl) (by rfl) (by rfl) (by rfl) (Nat.le_of_ble_eq_true rfl) (s_nextDg (by omega) e4 ha) (fun r1 μ1 e1 => ?_)
              obtain ⟨rfl, q1⟩ := e1
              obtain rfl := q1.symm
              refine bc_if_eq (tgt := 20) dX2_readUnit_4 (by decide) (fun h4 => ?_) (fun h4 => absurd h4 (by rw [e5, if_neg hD]; exact fun x => x rfl))
              refine bc_aload_n dX2_readUnit_20 rfl ?_
              refine bc_bipush (v := 40) dX2_readUnit_21 (by decide) ?_
              refine bc_callV (z := mX7_takes) (ci := 7) dX2_readUnit_23 lX2_61 qX7_takes (by rfl) (by rfl) (by rfl) (by rfl) (Nat.le_of_ble_eq_true rfl) (s_tkF (by omega) e4 ha (by decide) htk) (fun r23 μ23 e23 => ?_)
              obtain ⟨rfl, q23⟩ := e23
              obtain rfl := q23.symm
              refine bc_if_eq (tgt := 34) dX2_readUnit_26 (by decide) (fun h26 => ?_) (fun h26 => absurd h26 (fun x => x rfl))
              refine bc_aload_n dX2_readUnit_34 rfl ?_
              refine bc_ldcS (tx := "bread noses lit others onions side hour least most ") (k := 2) dX2_readUnit_35 (by decide) ?_
              refine bc_callV (z := mX7_word) (ci := 7) dX2_readUnit_37 lX2_77 qX7_word (by rfl) (by rfl) (by rfl) (by rfl) (Nat.le_of_ble_eq_true rfl) (s_word (d := d + 4) (K := 2) (by decide) (by decide) (by omega) e4 e2) (fun r37 μ37 e37 => ?_)
              obtain ⟨a1, f1, q1, rfl, rfl, t1⟩ := e37
              rw [e5, hw1] at t1
              rw [e5, hwv]
              refine bc_istore_n dX2_readUnit_40 (by decide) rfl ?_
              refine bc_iload_n dX2_readUnit_41 rfl ?_
              refine bc_if_lt (tgt := 61) dX2_readUnit_42 (by decide) (fun h42 => absurd h42 (nI_pos (by omega))) (fun h42 => ?_)
              refine bc_iload_n dX2_readUnit_45 rfl ?_
              refine bc_bipush (v := 7) dX2_readUnit_46 (by decide) ?_
              refine bc_icmp_ge (tgt := 61) dX2_readUnit_48 (by decide) (fun h48 => ?_) (fun h48 => absurd h48 (fun x => x (nI_le (a := 7) (by omega) (by omega))))
              refine bc_iload_n dX2_readUnit_61 rfl ?_
              refine bc_bipush (v := 6) dX2_readUnit_62 (by decide) ?_
              refine bc_icmp_lt (tgt := 76) dX2_readUnit_64 (by decide) (fun h64 => absurd h64 (by decide)) (fun h64 => ?_)
              refine bc_aload_n dX2_readUnit_67 rfl ?_
              refine bc_iconst (v := 3) dX2_readUnit_68 (by decide) ?_
              refine bc_aload_n dX2_readUnit_69 rfl ?_
              refine bc_geti dX2_readUnit_70 fX2_81 (rfl) rfl ?_
              refine bc_callV (z := mX7_accuse) (ci := 7) dX2_readUnit_73 lX2_84 qX7_accuse (by rfl) (by rfl) (by rfl) (by rfl) (Nat.le_of_ble_eq_true rfl) (s_accuse _ _) (fun r73 μ73 e73 => ?_)
              obtain ⟨rfl, q73⟩ := e73
              obtain rfl := q73.symm
              rw [tx_4]
              refine bc_aload_n dX2_readUnit_76 rfl ?_
              refine bc_callV (z := mX7_isSound) (ci := 7) dX2_readUnit_77 lX2_57 qX7_isSound (by rfl) (by rfl) (by rfl) (by rfl) (Nat.le_of_ble_eq_true rfl) (s_lsound (hlt _ _ _ _ _ (tq_acc (kd := 3) (pl := a') t1 (by omega) (by omega) ha))) (fun r77 μ77 e77 => ?_)
              obtain ⟨rfl, q77⟩ := e77
              obtain rfl := q77.symm
              refine bc_if_ne (tgt := 84) dX2_readUnit_80 (by decide) (fun h80 => absurd h80 (fun x => x rfl)) (fun h80 => ?_)
              exact bc_return dX2_readUnit_83 rfl (⟨rfl, hlt _ _ _ _ _ (tq_acc (kd := 3) (pl := a') t1 (by omega) (by omega) ha)⟩)
            · have hdef : pUt (μ0 2) n (some g) (.inr a', l) = pTwo (μ0 2) n g (if (sWrd (μ0 2) n (bw 2) (.inr a')).2 = 7 then 1012 else 1013) ((sWrd (μ0 2) n (bw 2) (.inr a')).1, l) := by simp only [pUt, if_neg hD, if_neg hB, if_neg h7, if_neg h99]
              rw [hdef]
              have hin : ∀ p, (sWrd (μ0 2) n (bw 2) (.inr a')).1 = .inr p → l.length ≤ p ∧ p ≤ n := fun p hp => by have h9 := sWrd_ok bw2_ne hp ha; omega
              refine bc_aload_n dX2_readUnit_0 rfl ?_
              refine bc_callV (z := mX7_nextIsDigit) (ci := 7) dX2_readUnit_1 lX2_68 qX7_nextIsDigit (by rfl) (by rfl) (by rfl) (by rfl) (Nat.le_of_ble_eq_true rfl) (s_nextDg (by omega) e4 ha) (fun r1 μ1 e1 => ?_)
              obtain ⟨rfl, q1⟩ := e1
              obtain rfl := q1.symm
              refine bc_if_eq (tgt := 20) dX2_readUnit_4 (by decide) (fun h4 => ?_) (fun h4 => absurd h4 (by rw [e5, if_neg hD]; exact fun x => x rfl))
              refine bc_aload_n dX2_readUnit_20 rfl ?_
              refine bc_bipush (v := 40) dX2_readUnit_21 (by decide) ?_
              refine bc_callV (z := mX7_takes) (ci := 7) dX2_readUnit_23 lX2_61 qX7_takes (by rfl) (by rfl) (by rfl) (by rfl) (Nat.le_of_ble_eq_true rfl) (s_tkF (by omega) e4 ha (by decide) htk) (fun r23 μ23 e23 => ?_)
              obtain ⟨rfl, q23⟩ := e23
              obtain rfl := q23.symm
              refine bc_if_eq (tgt := 34) dX2_readUnit_26 (by decide) (fun h26 => ?_) (fun h26 => absurd h26 (fun x => x rfl))
              refine bc_aload_n dX2_readUnit_34 rfl ?_
              refine bc_ldcS (tx := "bread noses lit others onions side hour least most ") (k := 2) dX2_readUnit_35 (by decide) ?_
              refine bc_callV (z := mX7_word) (ci := 7) dX2_readUnit_37 lX2_77 qX7_word (by rfl) (by rfl) (by rfl) (by rfl) (Nat.le_of_ble_eq_true rfl) (s_word (d := d + 4) (K := 2) (by decide) (by decide) (by omega) e4 e2) (fun r37 μ37 e37 => ?_)
              obtain ⟨a1, f1, q1, rfl, rfl, t1⟩ := e37
              rw [e5] at t1
              rw [e5, hwv]
              refine bc_istore_n dX2_readUnit_40 (by decide) rfl ?_
              refine bc_iload_n dX2_readUnit_41 rfl ?_
              refine bc_if_lt (tgt := 61) dX2_readUnit_42 (by decide) (fun h42 => absurd h42 (nI_pos (by omega))) (fun h42 => ?_)
              refine bc_iload_n dX2_readUnit_45 rfl ?_
              refine bc_bipush (v := 7) dX2_readUnit_46 (by decide) ?_
              refine bc_icmp_ge (tgt := 61) dX2_readUnit_48 (by decide) (fun h48 => ?_) (fun h48 => absurd h48 (fun x => x (nI_le (a := 7) (by omega) (by omega))))
              refine bc_iload_n dX2_readUnit_61 rfl ?_
              refine bc_bipush (v := 6) dX2_readUnit_62 (by decide) ?_
              refine bc_icmp_lt (tgt := 76) dX2_readUnit_64 (by decide) (fun h64 => ?_) (fun h64 => absurd h64 (fun x => x (nI_lt (b := 6) hlt6 (by omega))))
              refine bc_aload_n dX2_readUnit_76 rfl ?_
              refine bc_callV (z := mX7_isSound) (ci := 7) dX2_readUnit_77 lX2_57 qX7_isSound (by rfl) (by rfl) (by rfl) (by rfl) (Nat.le_of_ble_eq_true rfl) (s_lsound (hlt _ _ _ _ _ t1)) (fun r77 μ77 e77 => ?_)
              obtain ⟨rfl, q77⟩ := e77
              obtain rfl := q77.symm
              refine bc_if_ne (tgt := 84) dX2_readUnit_80 (by decide) (fun h80 => ?_) (fun h80 => absurd h80 (fun x => absurd (show (1 : Int32) = 0 from by rw [hw1] at x; exact x) (by decide)))
              refine bc_iload_n dX2_readUnit_84 rfl ?_
              refine bc_bipush (v := 9) dX2_readUnit_85 (by decide) ?_
              refine bc_icmp_ne (tgt := 107) dX2_readUnit_87 (by decide) (fun h87 => ?_) (fun h87 => absurd h87 (by rw [show (9 : Int32) = nI 9 from rfl, bn_eqN (by omega) (by omega)]; omega))
              refine bc_aload_n dX2_readUnit_107 rfl ?_
              refine bc_aload_n dX2_readUnit_108 rfl ?_
              refine bc_iload_n dX2_readUnit_109 rfl ?_
              refine bc_iconst (v := 1) dX2_readUnit_110 (by decide) ?_
              refine bc_iadd dX2_readUnit_111 ?_
              rw [bn_add1]
              refine bc_iload_n dX2_readUnit_112 rfl ?_
              refine bc_bipush (v := 7) dX2_readUnit_113 (by decide) ?_
              refine bc_icmp_ne (tgt := 124) dX2_readUnit_115 (by decide) (fun h115 => ?_) (fun h115 => ?_)
              · refine bc_sipush (v := 1013) dX2_readUnit_124 (by decide) ?_
                refine bc_callV (z := mX2_readPair) (ci := 2) dX2_readUnit_127 lX2_92 qX2_readPair (by rfl) (by rfl) (by rfl) (by rfl) (Nat.le_of_ble_eq_true rfl) (s_readPair (c := 1013) hn h2 hg hG (by omega) _ _ _ (hlt _ _ _ _ _ t1) hin) (fun r127 μ127 e127 => ?_)
                obtain ⟨rfl, h127⟩ := e127
                exact bc_return dX2_readUnit_130 rfl (by
rw [show (7 : Int32) = nI 7 from rfl, bn_eqN (by omega) (by omega)] at h115
rw [if_neg h115]
exact ⟨rfl, h127⟩)
              · refine bc_sipush (v := 1012) dX2_readUnit_118 (by decide) ?_
                refine bc_goto (tgt := 127) dX2_readUnit_121 (by decide) ?_
                refine bc_callV (z := mX2_readPair) (ci := 2) dX2_readUnit_127 lX2_92 qX2_readPair (by rfl) (by rfl) (by rfl) (by rfl) (Nat.le_of_ble_eq_true rfl) (s_readPair (c := 1012) hn h2 hg hG (by omega) _ _ _ (hlt _ _ _ _ _ t1) hin) (fun r127 μ127 e127 => ?_)
                obtain ⟨rfl, h127⟩ := e127
                exact bc_return dX2_readUnit_130 rfl (by
rw [show (7 : Int32) = nI 7 from rfl, bn_eqN (by omega) (by omega)] at h115
rw [if_pos h115]
exact ⟨rfl, h127⟩)
        · have h7 : ¬ (sWrd (μ0 2) n (bw 2) (.inr a')).2 < 7 := by omega
          have hdef : pUt (μ0 2) n nest (.inr a', l) = ((sWrd (μ0 2) n (bw 2) (.inr a')).1, l) := by simp only [pUt, if_neg hD, if_neg hB, if_neg h7, if_pos hw99]
          rw [hdef, hw1]
          refine bc_aload_n dX2_readUnit_0 rfl ?_
          refine bc_callV (z := mX7_nextIsDigit) (ci := 7) dX2_readUnit_1 lX2_68 qX7_nextIsDigit (by rfl) (by rfl) (by rfl) (by rfl) (Nat.le_of_ble_eq_true rfl) (s_nextDg (by omega) e4 ha) (fun r1 μ1 e1 => ?_)
          obtain ⟨rfl, q1⟩ := e1
          obtain rfl := q1.symm
          refine bc_if_eq (tgt := 20) dX2_readUnit_4 (by decide) (fun h4 => ?_) (fun h4 => absurd h4 (by rw [e5, if_neg hD]; exact fun x => x rfl))
          refine bc_aload_n dX2_readUnit_20 rfl ?_
          refine bc_bipush (v := 40) dX2_readUnit_21 (by decide) ?_
          refine bc_callV (z := mX7_takes) (ci := 7) dX2_readUnit_23 lX2_61 qX7_takes (by rfl) (by rfl) (by rfl) (by rfl) (Nat.le_of_ble_eq_true rfl) (s_tkF (by omega) e4 ha (by decide) htk) (fun r23 μ23 e23 => ?_)
          obtain ⟨rfl, q23⟩ := e23
          obtain rfl := q23.symm
          refine bc_if_eq (tgt := 34) dX2_readUnit_26 (by decide) (fun h26 => ?_) (fun h26 => absurd h26 (fun x => x rfl))
          refine bc_aload_n dX2_readUnit_34 rfl ?_
          refine bc_ldcS (tx := "bread noses lit others onions side hour least most ") (k := 2) dX2_readUnit_35 (by decide) ?_
          refine bc_callV (z := mX7_word) (ci := 7) dX2_readUnit_37 lX2_77 qX7_word (by rfl) (by rfl) (by rfl) (by rfl) (Nat.le_of_ble_eq_true rfl) (s_word (d := d + 4) (K := 2) (by decide) (by decide) (by omega) e4 e2) (fun r37 μ37 e37 => ?_)
          obtain ⟨a1, f1, q1, rfl, rfl, t1⟩ := e37
          rw [e5, hw1] at t1
          rw [e5, hwv]
          refine bc_istore_n dX2_readUnit_40 (by decide) rfl ?_
          refine bc_iload_n dX2_readUnit_41 rfl ?_
          refine bc_if_lt (tgt := 61) dX2_readUnit_42 (by decide) (fun h42 => ?_) (fun h42 => absurd h42 (fun x => x (by decide)))
          refine bc_iload_n dX2_readUnit_61 rfl ?_
          refine bc_bipush (v := 6) dX2_readUnit_62 (by decide) ?_
          refine bc_icmp_lt (tgt := 76) dX2_readUnit_64 (by decide) (fun h64 => ?_) (fun h64 => ?_)
          · refine bc_aload_n dX2_readUnit_76 rfl ?_
            refine bc_callV (z := mX7_isSound) (ci := 7) dX2_readUnit_77 lX2_57 qX7_isSound (by rfl) (by rfl) (by rfl) (by rfl) (Nat.le_of_ble_eq_true rfl) (s_lsound (hlt _ _ _ _ _ t1)) (fun r77 μ77 e77 => ?_)
            obtain ⟨rfl, q77⟩ := e77
            obtain rfl := q77.symm
            refine bc_if_ne (tgt := 84) dX2_readUnit_80 (by decide) (fun h80 => absurd h80 (fun x => x rfl)) (fun h80 => ?_)
            exact bc_return dX2_readUnit_83 rfl (⟨rfl, hlt _ _ _ _ _ t1⟩)
          · refine bc_aload_n dX2_readUnit_67 rfl ?_
            refine bc_iconst (v := 3) dX2_readUnit_68 (by decide) ?_
            refine bc_aload_n dX2_readUnit_69 rfl ?_
            refine bc_geti dX2_readUnit_70 fX2_81 (rfl) rfl ?_
            refine bc_callV (z := mX7_accuse) (ci := 7) dX2_readUnit_73 lX2_84 qX7_accuse (by rfl) (by rfl) (by rfl) (by rfl) (Nat.le_of_ble_eq_true rfl) (s_accuse _ _) (fun r73 μ73 e73 => ?_)
            obtain ⟨rfl, q73⟩ := e73
            obtain rfl := q73.symm
            rw [if_neg (tq_f t1), if_neg (tq_f t1)]
            refine bc_aload_n dX2_readUnit_76 rfl ?_
            refine bc_callV (z := mX7_isSound) (ci := 7) dX2_readUnit_77 lX2_57 qX7_isSound (by rfl) (by rfl) (by rfl) (by rfl) (Nat.le_of_ble_eq_true rfl) (s_lsound (hlt _ _ _ _ _ t1)) (fun r77 μ77 e77 => ?_)
            obtain ⟨rfl, q77⟩ := e77
            obtain rfl := q77.symm
            refine bc_if_ne (tgt := 84) dX2_readUnit_80 (by decide) (fun h80 => absurd h80 (fun x => x rfl)) (fun h80 => ?_)
            exact bc_return dX2_readUnit_83 rfl (⟨rfl, hlt _ _ _ _ _ t1⟩)
theorem s_unitD (hn : n ≤ 150) (h2 : μ0 1 2 = nI n) : ∀ dep, dep ≤ 6 → ∀ d, Lok n μ0 (d + 4 * dep + 10) mX2_readUnit [.ref 19, .ref 1, .int (nI (6 - dep))] (pUn (μ0 2) n dep) := by
  intro dep
  induction dep with
  | zero => intro _ d; exact s_unit hn h2 (.inl ⟨rfl, rfl⟩)
  | succ dep ih =>
    intro hd d
    have h1 := fun d : Nat => s_readSum (d := d + 4 * dep + 4) hn h2 (pPr_good (pUn_good dep)) (s_readProduct (d := d + 4 * dep + 4) hn h2 (pUn_good dep) (ih (by omega) d))
    have h3 := s_unit (d := d + 4 * dep + 4) (o := 6 - (dep + 1)) (nest := some (pSu (μ0 2) n (pUn (μ0 2) n dep))) hn h2 (.inr ⟨_, rfl, by omega, pSu_good (pUn_good dep), by rw [show 6 - (dep + 1) + 1 = 6 - dep by omega]; exact h1 d, by rw [show 6 - (dep + 1) + 1 = 6 - dep by omega, show d + 4 * dep + 4 + 9 = d + 1 + 4 * dep + 4 + 8 by omega]; exact h1 (d + 1)⟩)
    rw [show d + 4 * (dep + 1) + 10 = d + 4 * dep + 4 + 10 by omega]
    exact h3
def pLaw (t : Nat → Int32) (n p : Nat) : LSt := (sEnd n (pSu t n (pUn t n 6) (.inr p, [])).1, (pSu t n (pUn t n 6) (.inr p, [])).2)
theorem s_lawFrom (hn : n ≤ 150) (h2 : μ 1 2 = nI n) (hS : tq n (.inr a) a f q) : bc_C (d + 37) LC mX2_readFrom [.ref 19, .ref 1] (tx μ a k f q) (fun r ν => r = none ∧ lS n μ (pLaw (μ 2) n a).1 (pLaw (μ 2) n a).2 ν) := by
  have hsum : Lok n μ (d + 36) mX2_readSum [.ref 19, .ref 1, .int (nI 0)] (pSu (μ 2) n (pUn (μ 2) n 6)) := s_readSum (d := d + 28) hn h2 (pPr_good (pUn_good 6)) (s_readProduct (d := d + 28) hn h2 (pUn_good 6) (s_unitD (dep := 6) hn h2 (by omega) d))
  have hfr : fr19 μ (bc_u μ 19 3 0) := ⟨fun i x y => bc_u_i x, fun j y => by rw [bc_u_s]; simp only [upd, if_neg y]⟩
  refine bc_enter (by decide) (Nat.le_of_ble_eq_true rfl) rfl ?_
  refine bc_aload_n dX2_readFrom_0 rfl ?_
  refine bc_iconst (v := 0) dX2_readFrom_1 (by decide) ?_
  refine bc_put dX2_readFrom_2 fX2_27 ftX2 fpX2_3 rfl rfl (rfl) rfl ?_
  rw [tx_u _ _ _ _ _ (by decide)]
  refine bc_aload_n dX2_readFrom_5 rfl ?_
  refine bc_aload_n dX2_readFrom_6 rfl ?_
  refine bc_iconst (v := 0) dX2_readFrom_7 (by decide) ?_
  refine bc_callV (z := mX2_readSum) (ci := 2) dX2_readFrom_8 lX2_45 qX2_readSum (by rfl) (by rfl) (by rfl) (by rfl) (Nat.le_of_ble_eq_true rfl) (hsum _ (.inr a) [] ⟨bc_u μ 19 3 0, a, k, f, q, rfl, hfr, hS, fun p hp => ⟨by rw [bc_u_s]; simp [upd]; rfl, fun i x hx => by cases hx⟩⟩ (fun p hp => ⟨Nat.zero_le _, by have := hS.2.1; have hp := Sum.inr.inj hp; omega⟩)) (fun r8 μ8 e8 => ?_)
  obtain ⟨rfl, h8⟩ := e8
  obtain ⟨μ1, a1, k1, f1, q1, rfl, g1, g2, g3, g4, g5⟩ := lS_n h8 h2
  refine bc_aload_n dX2_readFrom_11 rfl ?_
  refine bc_callV (z := mX7_needEnd) (ci := 7) dX2_readFrom_12 lX2_49 qX7_needEnd (by rfl) (by rfl) (by rfl) (by rfl) (Nat.le_of_ble_eq_true rfl) (s_needEnd (d := d + 35) (by omega) g4 g2) (fun r12 μ12 e12 => ?_)
  obtain ⟨rfl, f2, q2, rfl, t2⟩ := e12
  exact bc_return dX2_readFrom_15 rfl (by
refine ⟨rfl, μ1, a1, k1, f2, q2, rfl, g1, ?_, fun p hp => g3 p ?_⟩
· exact t2
· unfold pLaw at hp
  simp only at hp
  revert hp
  cases (pSu (μ 2) n (pUn (μ 2) n 6) (.inr a, [])).1 with
  | inl x => intro hp; cases hp
  | inr y =>
    intro hp
    simp only [sEnd] at hp
    split at hp
    · cases hp
    · exact hp)
end RDL
