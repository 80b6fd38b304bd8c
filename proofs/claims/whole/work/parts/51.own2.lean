/-! BreadCity itself: what it reckons with the trial city -/
section OW2
variable {d : Nat} {μ ν ξ : bc_M} {n no nq nm : Nat}
/-- nothing but the trial city, and the law's scratch -/
def trS (μ ν : bc_M) : Prop := ∀ i k, ¬ (i = 22 ∨ i = 23 ∨ (38 ≤ i ∧ i ≤ 44)) → ν i k = μ i k
theorem trS.rf (μ : bc_M) : trS μ μ := fun _ _ _ => rfl
theorem trS.tr (h : trS μ ν) (h2 : trS ν ξ) : trS μ ξ := fun i k q => (h2 i k q).trans (h i k q)
theorem trS.env (h : trS μ ν) : envE μ ν := ⟨fun i j a b => h i j (by omega), h 19 1 (by omega), fun j => h 20 j (by omega)⟩
theorem trS.u {i k : Nat} {v : Int32} (h : trS μ ν) (hi : 38 ≤ i ∧ i ≤ 44) : trS μ (bc_u ν i k v) := fun x y q => by rw [bu2 (by omega)]; exact h x y q
theorem bcS.trS (h : bcS μ ν) : trS μ ν := fun i k q => h.1 i k (by omega) (by omega) (by omega) (by omega)
theorem bcS.row (h : bcS μ ν) : row 38 ν = row 31 μ := by
  refine row_ext (fun k hk => ?_) (fun k hk => ?_) (fun k hk => ?_) (fun k hk => ?_) (fun k hk => row_out hk)
  · rw [row_v hk]; exact h.2.1 _ (by omega) (by omega)
  · rw [row_hl hk]; exact h.2.2.1 _ hk
  · rw [row_tl hk]; exact h.2.2.2.1 _ hk
  · rw [row_on hk]; exact h.2.2.2.2 _ hk
theorem hrI.trS (h : hrI 38 n no nq μ ν) : trS μ ν := fun i k q => h.1 i k (by unfold scr; omega) (by omega) (by omega)
theorem sameS.trS (h : sameS 38 μ ν) : trS μ ν := fun i k q => h i k (by unfold scr; omega)
theorem sameS.row38 (h : sameS 38 μ ν) : row 38 ν = row 38 μ := row_same (fun i j a b c => h i j (by unfold scr; omega))
def itH (g : Row → Row) : Nat → Row → Row
  | 0, A => A
  | k + 1, A => g (itH g k A)
/-- k hours ahead -/
def ahI (n no nq : Nat) (μ : bc_M) (A : Row) (ν : bc_M) : Prop := trS μ ν ∧ row 38 ν = A
theorem ahI.pass {A : Row} (hB : okB μ n no nq) (h : ahI n no nq μ A ν) : bc_C (d + 5) LC mX1_passHour [.ref 38] ν (fun r ξ => r = none ∧ ahI n no nq μ (hourR μ n no nq A) ξ) :=
  (s_passHour (.inr rfl) (okB_env h.1.env hB)).weaken (fun r ξ e => ⟨e.1, h.1.tr e.2.trS, by rw [hr_row (.inr rfl) h.1.env hB e.2, h.2]⟩)
theorem ahI.bec : bc_C (d + 2) LC mX1_become [.ref 38, .ref 31] μ (fun r ξ => r = none ∧ ahI n no nq μ (row 31 μ) ξ) :=
  s_become.weaken (fun r ξ e => ⟨e.1, e.2.trS, e.2.row⟩)
theorem ahI.v {A : Row} (h : ahI n no nq μ A ν) {k : Nat} (hk : k < 6) : ν 38 (k + 2) = A k := by rw [← h.2, row_v hk]
theorem ahI.lb {A : Row} (h : ahI n no nq μ A ν) (hno : no ≤ 8) : lbM (ν (38 + 1)) 0 no = lbM (fun o => A (o + 6)) 0 no := lbM_cg no (fun i hi => by rw [← h.2, row_hl (by omega)])
def ahdM (μ : bc_M) (n no nq h : Nat) : Nat → Int32
  | 0 => itH (hourR μ n no nq) h (row 31 μ) 0 | 1 => itH (hourR μ n no nq) h (row 31 μ) 1 | 2 => itH (hourR μ n no nq) h (row 31 μ) 4
  | _ => lbM (fun o => itH (hourR μ n no nq) h (row 31 μ) (o + 6)) 0 no
theorem s_ahead {h w : Nat} (hB : okB μ n no nq) (hh : h ≤ 99) (hw : w ≤ 3) : bc_C (d + 6) LC mX9_ahead [.ref 0, .int (nI h), .int (nI w)] μ (fun r ν => r = some (.int (ahdM μ n no nq h w)) ∧ trS μ ν) := by
  refine bc_enter (by decide) (Nat.le_of_ble_eq_true rfl) rfl ?_
  have loop : ∀ (m k : Nat) (ν : bc_M), k + m = h → ahI n no nq μ (itH (hourR μ n no nq) k (row 31 μ)) ν → bc_W (d + 6) LC mX9_ahead 28 [.ref 0, .int (nI h), .int (nI w), .int (nI k)] [] ν (fun r ν => r = some (.int (ahdM μ n no nq h w)) ∧ trS μ ν) := by
    intro m
    induction m with
    | zero =>
      intro k ν hk hI
      have hk : k = h := by omega
      subst hk
      have hc : w = 0 ∨ w = 1 ∨ w = 2 ∨ w = 3 := by omega
      rcases hc with rfl | rfl | rfl | rfl
      · skip
        refine bc_iload_n dX9_ahead_28 rfl ?_
        refine bc_iload_n dX9_ahead_29 rfl ?_
        refine bc_icmp_ge (tgt := 46) dX9_ahead_30 (by decide) (fun h30 => ?_) (fun h30 => absurd h30 (fun q => q (Int32.le_refl _)))
        refine bc_iload_n dX9_ahead_46 rfl ?_
        refine bc_tableIn (off := 25) (tgt := 72) dX9_ahead_47 (by decide) (by decide) (by decide) (by decide) ?_
        refine bc_aload_n dX9_ahead_72 rfl ?_
        refine bc_getr dX9_ahead_73 fX9_56 (rfl) rfl ?_
        refine bc_geti dX9_ahead_76 fX9_188 (rfl) rfl ?_
        exact bc_ireturn dX9_ahead_79 rfl rfl (⟨congrArg (fun z => some (Value.int z)) (hI.v (k := 0) (by omega)), hI.1⟩)
      · skip
        refine bc_iload_n dX9_ahead_28 rfl ?_
        refine bc_iload_n dX9_ahead_29 rfl ?_
        refine bc_icmp_ge (tgt := 46) dX9_ahead_30 (by decide) (fun h30 => ?_) (fun h30 => absurd h30 (fun q => q (Int32.le_refl _)))
        refine bc_iload_n dX9_ahead_46 rfl ?_
        refine bc_tableIn (off := 33) (tgt := 80) dX9_ahead_47 (by decide) (by decide) (by decide) (by decide) ?_
        refine bc_aload_n dX9_ahead_80 rfl ?_
        refine bc_getr dX9_ahead_81 fX9_56 (rfl) rfl ?_
        refine bc_geti dX9_ahead_84 fX9_191 (rfl) rfl ?_
        exact bc_ireturn dX9_ahead_87 rfl rfl (⟨congrArg (fun z => some (Value.int z)) (hI.v (k := 1) (by omega)), hI.1⟩)
      · skip
        refine bc_iload_n dX9_ahead_28 rfl ?_
        refine bc_iload_n dX9_ahead_29 rfl ?_
        refine bc_icmp_ge (tgt := 46) dX9_ahead_30 (by decide) (fun h30 => ?_) (fun h30 => absurd h30 (fun q => q (Int32.le_refl _)))
        refine bc_iload_n dX9_ahead_46 rfl ?_
        refine bc_tableIn (off := 41) (tgt := 88) dX9_ahead_47 (by decide) (by decide) (by decide) (by decide) ?_
        refine bc_aload_n dX9_ahead_88 rfl ?_
        refine bc_getr dX9_ahead_89 fX9_56 (rfl) rfl ?_
        refine bc_geti dX9_ahead_92 fX9_197 (rfl) rfl ?_
        exact bc_ireturn dX9_ahead_95 rfl rfl (⟨congrArg (fun z => some (Value.int z)) (hI.v (k := 4) (by omega)), hI.1⟩)
      · skip
        refine bc_iload_n dX9_ahead_28 rfl ?_
        refine bc_iload_n dX9_ahead_29 rfl ?_
        refine bc_icmp_ge (tgt := 46) dX9_ahead_30 (by decide) (fun h30 => ?_) (fun h30 => absurd h30 (fun q => q (Int32.le_refl _)))
        refine bc_iload_n dX9_ahead_46 rfl ?_
        refine bc_tableOut (tgt := 96) dX9_ahead_47 (by decide) (by decide) ?_
        refine bc_aload_n dX9_ahead_96 rfl ?_
        refine bc_getr dX9_ahead_97 fX9_56 (rfl) rfl ?_
        refine bc_iconst (v := 0) dX9_ahead_100 (by decide) ?_
        refine bc_callV (z := mX1_litBits) (ci := 1) dX9_ahead_101 lX9_200 qX1_litBits (by rfl) (by rfl) (by rfl) (by rfl) (Nat.le_of_ble_eq_true rfl) (s_litBits (.inr rfl) ((hI.1 3 1 (by omega)).trans hB.1.1) hB.1.2.1 0) (fun r101 μ101 e101 => ?_)
        obtain ⟨rfl, q101⟩ := e101
        obtain rfl := q101.symm
        exact bc_ireturn dX9_ahead_104 rfl rfl (⟨by rw [hI.lb hB.1.2.1]; rfl, hI.1⟩)
    | succ m ih =>
      intro k ν hk hI
      refine bc_iload_n dX9_ahead_28 rfl ?_
      refine bc_iload_n dX9_ahead_29 rfl ?_
      refine bc_icmp_ge (tgt := 46) dX9_ahead_30 (by decide) (fun h30 => absurd h30 (by rw [bn_leN (by omega) (by omega)]; omega)) (fun h30 => ?_)
      refine bc_aload_n dX9_ahead_33 rfl ?_
      refine bc_getr dX9_ahead_34 fX9_56 (rfl) rfl ?_
      refine bc_callV (z := mX1_passHour) (ci := 1) dX9_ahead_37 lX9_272 qX1_passHour (by rfl) (by rfl) (by rfl) (by rfl) (Nat.le_of_ble_eq_true rfl) (hI.pass hB) (fun r37 μ37 e37 => ?_)
      obtain ⟨rfl, e37⟩ := e37
      refine bc_iinc1 dX9_ahead_40 rfl (by decide) rfl ?_
      refine bc_goto (tgt := 28) dX9_ahead_43 (by decide) ?_
      rw [bn_add1]
      exact ih (k + 1) _ (by omega) e37
  refine bc_aload_n dX9_ahead_0 rfl ?_
  refine bc_iload_n dX9_ahead_1 rfl ?_
  refine bc_iconst (v := 0) dX9_ahead_2 (by decide) ?_
  refine bc_bipush (v := 99) dX9_ahead_3 (by decide) ?_
  refine bc_callV (z := mX9_needWithin) (ci := 9) dX9_ahead_5 lX9_172 qX9_needWithin (by rfl) (by rfl) (by rfl) (by rfl) (Nat.le_of_ble_eq_true rfl) (s_needW (bn_nn (by omega)) (nle (b := 99) (by omega) (by omega))) (fun r5 μ5 e5 => ?_)
  obtain ⟨rfl, q5⟩ := e5
  obtain rfl := q5.symm
  refine bc_aload_n dX9_ahead_8 rfl ?_
  refine bc_iload_n dX9_ahead_9 rfl ?_
  refine bc_iconst (v := 0) dX9_ahead_10 (by decide) ?_
  refine bc_iconst (v := 3) dX9_ahead_11 (by decide) ?_
  refine bc_callV (z := mX9_needWithin) (ci := 9) dX9_ahead_12 lX9_172 qX9_needWithin (by rfl) (by rfl) (by rfl) (by rfl) (Nat.le_of_ble_eq_true rfl) (s_needW (bn_nn (by omega)) (nle (b := 3) (by omega) (by omega))) (fun r12 μ12 e12 => ?_)
  obtain ⟨rfl, q12⟩ := e12
  obtain rfl := q12.symm
  refine bc_aload_n dX9_ahead_15 rfl ?_
  refine bc_getr dX9_ahead_16 fX9_56 (rfl) rfl ?_
  refine bc_aload_n dX9_ahead_19 rfl ?_
  refine bc_getr dX9_ahead_20 fX9_52 (rfl) rfl ?_
  refine bc_callV (z := mX1_become) (ci := 1) dX9_ahead_23 lX9_270 qX1_become (by rfl) (by rfl) (by rfl) (by rfl) (Nat.le_of_ble_eq_true rfl) (ahI.bec (n := n) (no := no) (nq := nq)) (fun r23 μ23 e23 => ?_)
  obtain ⟨rfl, e23⟩ := e23
  refine bc_iconst (v := 0) dX9_ahead_26 (by decide) ?_
  refine bc_istore_n dX9_ahead_27 (by decide) rfl ?_
  exact loop h 0 _ (by omega) e23
def wrkM (g : Row → Row) (a : Int32) : Nat → Nat → Row → Int32
  | 0, _, _ => -1
  | m + 1, i, A => if a < g A 4 then nI i else wrkM g a m (i + 1) (g A)
theorem s_wreck (hB : okB μ n no nq) : bc_C (d + 6) LC mX9_wreck [.ref 0] μ (fun r ν => r = some (.int (wrkM (hourR μ n no nq) (μ 31 6) 200 1 (row 31 μ))) ∧ trS μ ν) := by
  refine bc_enter (by decide) (Nat.le_of_ble_eq_true rfl) rfl ?_
  have loop : ∀ (m k : Nat) (A : Row) (ν : bc_M), k + m = 201 → ahI n no nq μ A ν → bc_W (d + 6) LC mX9_wreck 13 [.ref 0, .int (nI k)] [] ν (fun r ν => r = some (.int (wrkM (hourR μ n no nq) (μ 31 6) m k A)) ∧ trS μ ν) := by
    intro m
    induction m with
    | zero =>
      intro k A ν hk hI
      have hk : k = 201 := by omega
      subst hk
      refine bc_iload_n dX9_wreck_13 rfl ?_
      refine bc_sipush (v := 200) dX9_wreck_14 (by decide) ?_
      refine bc_icmp_gt (tgt := 52) dX9_wreck_17 (by decide) (fun h17 => ?_) (fun h17 => absurd h17 (fun q => q (by decide)))
      refine bc_iconst (v := (-1)) dX9_wreck_52 (by decide) ?_
      exact bc_ireturn dX9_wreck_53 rfl rfl (⟨rfl, hI.1⟩)
    | succ m ih =>
      intro k A ν hk hI
      refine bc_iload_n dX9_wreck_13 rfl ?_
      refine bc_sipush (v := 200) dX9_wreck_14 (by decide) ?_
      refine bc_icmp_gt (tgt := 52) dX9_wreck_17 (by decide) (fun h17 => absurd h17 (Int32.not_lt.mpr (nle (b := 200) (by omega) (by omega)))) (fun h17 => ?_)
      refine bc_aload_n dX9_wreck_20 rfl ?_
      refine bc_getr dX9_wreck_21 fX9_56 (rfl) rfl ?_
      refine bc_callV (z := mX1_passHour) (ci := 1) dX9_wreck_24 lX9_272 qX1_passHour (by rfl) (by rfl) (by rfl) (by rfl) (Nat.le_of_ble_eq_true rfl) (hI.pass hB) (fun r24 μ24 e24 => ?_)
      obtain ⟨rfl, e24⟩ := e24
      refine bc_aload_n dX9_wreck_27 rfl ?_
      refine bc_getr dX9_wreck_28 fX9_56 (rfl) rfl ?_
      refine bc_geti dX9_wreck_31 fX9_197 (rfl) rfl ?_
      refine bc_aload_n dX9_wreck_34 rfl ?_
      refine bc_getr dX9_wreck_35 fX9_52 (rfl) rfl ?_
      refine bc_geti dX9_wreck_38 fX9_197 (rfl) rfl ?_
      rw [show μ24 31 6 = μ 31 6 from e24.1 31 6 (by omega), show μ24 38 6 = hourR μ n no nq A 4 from e24.v (k := 4) (by omega)]
      refine bc_icmp_le (tgt := 46) dX9_wreck_41 (by decide) (fun h41 => ?_) (fun h41 => ?_)
      · refine bc_iinc1 dX9_wreck_46 rfl (by decide) rfl ?_
        refine bc_goto (tgt := 13) dX9_wreck_49 (by decide) ?_
        rw [bn_add1, wrkM, if_neg (Int32.not_lt.mpr h41)]
        exact ih (k + 1) _ _ (by omega) e24
      · refine bc_iload_n dX9_wreck_44 rfl ?_
        exact bc_ireturn dX9_wreck_45 rfl rfl (⟨by rw [wrkM, if_pos (bn_nle h41)], e24.1⟩)
  refine bc_aload_n dX9_wreck_0 rfl ?_
  refine bc_getr dX9_wreck_1 fX9_56 (rfl) rfl ?_
  refine bc_aload_n dX9_wreck_4 rfl ?_
  refine bc_getr dX9_wreck_5 fX9_52 (rfl) rfl ?_
  refine bc_callV (z := mX1_become) (ci := 1) dX9_wreck_8 lX9_270 qX1_become (by rfl) (by rfl) (by rfl) (by rfl) (Nat.le_of_ble_eq_true rfl) (ahI.bec (n := n) (no := no) (nq := nq)) (fun r8 μ8 e8 => ?_)
  obtain ⟨rfl, e8⟩ := e8
  refine bc_iconst (v := 1) dX9_wreck_11 (by decide) ?_
  refine bc_istore_n dX9_wreck_12 (by decide) rfl ?_
  exact loop 200 1 _ _ (by omega) e8
/-! seasons -/
def liR (A : Row) (k : Nat) : Row := if 0 < A (k + 6) ∨ ¬ 0 < A 3 then A else upd (upd (upd A (k + 6) 4) (k + 14) (A (k + 14) + 1)) 3 (A 3 - 1)
def chR (no nq : Nat) (C : Int32) (z : Row × Int32) : Row × Int32 :=
  if no = 0 then z else (if nI (drw (rnd (rnd z.2)) 16) < C then upd (liR z.1 (drw z.2 no)) 5 (liR z.1 (drw z.2 no) 5 ^^^ 1 <<< (nI (drw (rnd z.2) nq) &&& 31)) else liR z.1 (drw z.2 no), rnd (rnd (rnd z.2)))
theorem row_u17 {v : Int32} : row 38 (bc_u μ 38 17 v) = row 38 μ := row_same (fun i j a b c => bu2 (by omega))
theorem row_li {k : Nat} (hk : k < 8) : row 38 (liM μ 38 k) = liR (row 38 μ) k := by
  have r6 : row 38 μ (k + 6) = μ (38 + 1) k := row_hl hk
  have r3 : row 38 μ 3 = μ 38 5 := row_v (by omega)
  unfold liM liR
  rw [r6, r3]
  by_cases h : 0 < μ (38 + 1) k ∨ ¬ 0 < μ 38 5
  · rw [if_pos h, if_pos h]
  · rw [if_neg h, if_neg h, row_lt hk, r3]
theorem liM_tr {k : Nat} : trS μ (liM μ 38 k) := by
  unfold liM
  split
  · exact trS.rf μ
  · unfold ltM
    exact ((trS.rf μ).u (by omega)).u (by omega) |>.u (by omega)
theorem ch_row (hno8 : no ≤ 8) (C : Int32) : trS μ (chM 38 no nq C μ) ∧ (row 38 (chM 38 no nq C μ), chM 38 no nq C μ 38 17) = chR no nq C (row 38 μ, μ 38 17) := by
  unfold chM chR
  by_cases h0 : no = 0
  · rw [if_pos h0, if_pos h0]; exact ⟨trS.rf μ, rfl⟩
  · rw [if_neg h0, if_neg h0]
    have hk : drw (μ 38 17) no < 8 := Nat.lt_of_lt_of_le (drw_lt _ (by omega)) hno8
    have e1 : trS μ (bc_u (bc_u (liM (bc_u μ 38 17 (rnd (μ 38 17))) 38 (drw (μ 38 17) no)) 38 17 (rnd (rnd (μ 38 17)))) 38 17 (rnd (rnd (rnd (μ 38 17))))) := ((((trS.rf μ).u (by omega)).tr liM_tr).u (by omega)).u (by omega)
    have e2 : row 38 (bc_u (bc_u (liM (bc_u μ 38 17 (rnd (μ 38 17))) 38 (drw (μ 38 17) no)) 38 17 (rnd (rnd (μ 38 17)))) 38 17 (rnd (rnd (rnd (μ 38 17))))) = liR (row 38 μ) (drw (μ 38 17) no) := by rw [row_u17, row_u17, row_li hk, row_u17]
    have e3 : bc_u (bc_u (liM (bc_u μ 38 17 (rnd (μ 38 17))) 38 (drw (μ 38 17) no)) 38 17 (rnd (rnd (μ 38 17)))) 38 17 (rnd (rnd (rnd (μ 38 17)))) 38 17 = rnd (rnd (rnd (μ 38 17))) := bu1
    show trS μ (if nI (drw (rnd (rnd (μ 38 17))) 16) < C then bc_u (bc_u (bc_u (liM (bc_u μ 38 17 (rnd (μ 38 17))) 38 (drw (μ 38 17) no)) 38 17 (rnd (rnd (μ 38 17)))) 38 17 (rnd (rnd (rnd (μ 38 17))))) 38 7 (bc_u (bc_u (liM (bc_u μ 38 17 (rnd (μ 38 17))) 38 (drw (μ 38 17) no)) 38 17 (rnd (rnd (μ 38 17)))) 38 17 (rnd (rnd (rnd (μ 38 17)))) 38 7 ^^^ 1 <<< (nI (drw (rnd (μ 38 17)) nq) &&& 31)) else bc_u (bc_u (liM (bc_u μ 38 17 (rnd (μ 38 17))) 38 (drw (μ 38 17) no)) 38 17 (rnd (rnd (μ 38 17)))) 38 17 (rnd (rnd (rnd (μ 38 17))))) ∧ (row 38 (if nI (drw (rnd (rnd (μ 38 17))) 16) < C then bc_u (bc_u (bc_u (liM (bc_u μ 38 17 (rnd (μ 38 17))) 38 (drw (μ 38 17) no)) 38 17 (rnd (rnd (μ 38 17)))) 38 17 (rnd (rnd (rnd (μ 38 17))))) 38 7 (bc_u (bc_u (liM (bc_u μ 38 17 (rnd (μ 38 17))) 38 (drw (μ 38 17) no)) 38 17 (rnd (rnd (μ 38 17)))) 38 17 (rnd (rnd (rnd (μ 38 17)))) 38 7 ^^^ 1 <<< (nI (drw (rnd (μ 38 17)) nq) &&& 31)) else bc_u (bc_u (liM (bc_u μ 38 17 (rnd (μ 38 17))) 38 (drw (μ 38 17) no)) 38 17 (rnd (rnd (μ 38 17)))) 38 17 (rnd (rnd (rnd (μ 38 17))))), (if nI (drw (rnd (rnd (μ 38 17))) 16) < C then bc_u (bc_u (bc_u (liM (bc_u μ 38 17 (rnd (μ 38 17))) 38 (drw (μ 38 17) no)) 38 17 (rnd (rnd (μ 38 17)))) 38 17 (rnd (rnd (rnd (μ 38 17))))) 38 7 (bc_u (bc_u (liM (bc_u μ 38 17 (rnd (μ 38 17))) 38 (drw (μ 38 17) no)) 38 17 (rnd (rnd (μ 38 17)))) 38 17 (rnd (rnd (rnd (μ 38 17)))) 38 7 ^^^ 1 <<< (nI (drw (rnd (μ 38 17)) nq) &&& 31)) else bc_u (bc_u (liM (bc_u μ 38 17 (rnd (μ 38 17))) 38 (drw (μ 38 17) no)) 38 17 (rnd (rnd (μ 38 17)))) 38 17 (rnd (rnd (rnd (μ 38 17))))) 38 17) = _
    generalize bc_u (bc_u (liM (bc_u μ 38 17 (rnd (μ 38 17))) 38 (drw (μ 38 17) no)) 38 17 (rnd (rnd (μ 38 17)))) 38 17 (rnd (rnd (rnd (μ 38 17)))) = M at e1 e2 e3 ⊢
    have e4 : M 38 7 = liR (row 38 μ) (drw (μ 38 17) no) 5 := by rw [← e2, row_v (by omega)]
    by_cases hc : nI (drw (rnd (rnd (μ 38 17))) 16) < C
    · rw [if_pos hc, if_pos hc, e4]
      refine ⟨e1.u (by omega), ?_⟩
      rw [row_u0 (c := 38) (k := 5) (by omega), e2, bu2 (by omega), e3]
    · rw [if_neg hc, if_neg hc]
      exact ⟨e1, by rw [e2, e3]⟩
def seaM (μ : bc_M) (n no nq : Nat) (C : Int32) : Nat → Row × Int32 → Row × Int32
  | 0, z => z
  | k + 1, z => (hourR μ n no nq (chR no nq C (seaM μ n no nq C k z)).1, (chR no nq C (seaM μ n no nq C k z)).2)
theorem s_runSeason {h : Nat} (hB : okB μ n no nq) (hoq : 0 < no → 0 < nq) (hh : h ≤ 96) (sd C : Int32) (hI0 : trS μ ν) : bc_C (d + 6) LC mX9_runSeason [.ref 0, .int sd, .int C, .int (nI h)] ν (fun r ξ => r = none ∧ ahI n no nq μ (seaM μ n no nq C h (row 31 μ, sd)).1 ξ) := by
  refine bc_enter (by decide) (Nat.le_of_ble_eq_true rfl) rfl ?_
  have loop : ∀ (m k : Nat) (ξ : bc_M), k + m = h → ahI n no nq μ (seaM μ n no nq C k (row 31 μ, sd)).1 ξ → ξ 38 17 = (seaM μ n no nq C k (row 31 μ, sd)).2 → bc_W (d + 6) LC mX9_runSeason 22 [.ref 0, .int sd, .int C, .int (nI h), .int (nI k)] [] ξ (fun r ξ => r = none ∧ ahI n no nq μ (seaM μ n no nq C h (row 31 μ, sd)).1 ξ) := by
    intro m
    induction m with
    | zero =>
      intro k ξ hk hI hs
      have hk : k = h := by omega
      subst hk
      refine bc_iload dX9_runSeason_22 rfl ?_
      refine bc_iload_n dX9_runSeason_24 rfl ?_
      refine bc_icmp_ge (tgt := 49) dX9_runSeason_25 (by decide) (fun h25 => ?_) (fun h25 => absurd h25 (fun q => q (Int32.le_refl _)))
      exact bc_return dX9_runSeason_49 rfl (⟨rfl, hI⟩)
    | succ m ih =>
      intro k ξ hk hI hs
      have hB' := okB_env hI.1.env hB
      refine bc_iload dX9_runSeason_22 rfl ?_
      refine bc_iload_n dX9_runSeason_24 rfl ?_
      refine bc_icmp_ge (tgt := 49) dX9_runSeason_25 (by decide) (fun h25 => absurd h25 (by rw [bn_leN (by omega) (by omega)]; omega)) (fun h25 => ?_)
      refine bc_aload_n dX9_runSeason_28 rfl ?_
      refine bc_getr dX9_runSeason_29 fX9_56 (rfl) rfl ?_
      refine bc_iload_n dX9_runSeason_32 rfl ?_
      refine bc_callV (z := mX1_chance) (ci := 1) dX9_runSeason_33 lX9_369 qX1_chance (by rfl) (by rfl) (by rfl) (by rfl) (Nat.le_of_ble_eq_true rfl) (s_chance (.inr rfl) hB'.1.1 hB'.1.2.1 hB'.2.1.1 hB'.2.1.2.1 hoq C) (fun r33 μ33 e33 => ?_)
      obtain ⟨rfl, q33⟩ := e33
      obtain rfl := q33.symm
      refine bc_aload_n dX9_runSeason_36 rfl ?_
      refine bc_getr dX9_runSeason_37 fX9_56 (rfl) rfl ?_
      have e33 := ch_row (μ := ξ) (nq := nq) hB.1.2.1 C
      rw [hI.2, hs] at e33
      have e34 : ahI n no nq μ (chR no nq C (seaM μ n no nq C k (row 31 μ, sd))).1 (chM 38 no nq C ξ) := ⟨hI.1.tr e33.1, congrArg Prod.fst e33.2⟩
      have e35 : chM 38 no nq C ξ 38 17 = (chR no nq C (seaM μ n no nq C k (row 31 μ, sd))).2 := congrArg Prod.snd e33.2
      refine bc_callV (z := mX1_passHour) (ci := 1) dX9_runSeason_40 lX9_272 qX1_passHour (by rfl) (by rfl) (by rfl) (by rfl) (Nat.le_of_ble_eq_true rfl) ((s_passHour (.inr rfl) (okB_env e34.1.env hB))) (fun r40 μ40 e40 => ?_)
      obtain ⟨rfl, e40⟩ := e40
      refine bc_iinc1 dX9_runSeason_43 rfl (by decide) rfl ?_
      refine bc_goto (tgt := 22) dX9_runSeason_46 (by decide) ?_
      rw [bn_add1]
      exact ih (k + 1) _ (by omega) ⟨e34.1.tr e40.trS, by rw [hr_row (.inr rfl) e34.1.env hB e40, e34.2]; rfl⟩ ((e40.1 38 17 (by unfold scr; omega) (by omega) (by omega)).trans e35)
  refine bc_aload_n dX9_runSeason_0 rfl ?_
  refine bc_getr dX9_runSeason_1 fX9_56 (rfl) rfl ?_
  refine bc_aload_n dX9_runSeason_4 rfl ?_
  refine bc_getr dX9_runSeason_5 fX9_52 (rfl) rfl ?_
  refine bc_callV (z := mX1_become) (ci := 1) dX9_runSeason_8 lX9_270 qX1_become (by rfl) (by rfl) (by rfl) (by rfl) (Nat.le_of_ble_eq_true rfl) (ahI.bec (n := n) (no := no) (nq := nq)) (fun r8 μ8 e8 => ?_)
  obtain ⟨rfl, e8⟩ := e8
  refine bc_aload_n dX9_runSeason_11 rfl ?_
  refine bc_getr dX9_runSeason_12 fX9_56 (rfl) rfl ?_
  refine bc_iload_n dX9_runSeason_15 rfl ?_
  refine bc_put dX9_runSeason_16 fX9_366 ftX1 fpX1_17 rfl rfl (rfl) rfl ?_
  refine bc_iconst (v := 0) dX9_runSeason_19 (by decide) ?_
  refine bc_istore dX9_runSeason_20 (by decide) rfl ?_
  have g31 : row 31 ν = row 31 μ := row_same (fun i j a b c => hI0 i j (by omega))
  refine loop h 0 _ (by omega) ⟨(hI0.tr e8.1).u (by omega), ?_⟩ bu1
  rw [row_u17, e8.2, g31]
  rfl
def sesM (A : Row) : Nat → Int32
  | 0 => A 0 | 1 => A 1 | 2 => A 3
  | _ => A 4
theorem s_season {h w : Nat} {C sd : Int32} (hB : okB μ n no nq) (hoq : 0 < no → 0 < nq) (hC0 : ¬ C < 0) (hC : C ≤ 16) (hh1 : 1 ≤ h) (hh : h ≤ 96) (hw : w ≤ 3) : bc_C (d + 7) LC mX9_season [.ref 0, .int sd, .int C, .int (nI h), .int (nI w)] μ (fun r ν => r = some (.int (sesM (seaM μ n no nq C h (row 31 μ, sd)).1 w)) ∧ trS μ ν) := by
  refine bc_enter (by decide) (Nat.le_of_ble_eq_true rfl) rfl ?_
  have hc : w = 0 ∨ w = 1 ∨ w = 2 ∨ w = 3 := by omega
  rcases hc with rfl | rfl | rfl | rfl
  · skip
    refine bc_aload_n dX9_season_0 rfl ?_
    refine bc_iload_n dX9_season_1 rfl ?_
    refine bc_iconst (v := 0) dX9_season_2 (by decide) ?_
    refine bc_bipush (v := 16) dX9_season_3 (by decide) ?_
    refine bc_callV (z := mX9_needWithin) (ci := 9) dX9_season_5 lX9_172 qX9_needWithin (by rfl) (by rfl) (by rfl) (by rfl) (Nat.le_of_ble_eq_true rfl) (s_needW hC0 hC) (fun r5 μ5 e5 => ?_)
    obtain ⟨rfl, q5⟩ := e5
    obtain rfl := q5.symm
    refine bc_aload_n dX9_season_8 rfl ?_
    refine bc_iload_n dX9_season_9 rfl ?_
    refine bc_iconst (v := 1) dX9_season_10 (by decide) ?_
    refine bc_bipush (v := 96) dX9_season_11 (by decide) ?_
    refine bc_callV (z := mX9_needWithin) (ci := 9) dX9_season_13 lX9_172 qX9_needWithin (by rfl) (by rfl) (by rfl) (by rfl) (Nat.le_of_ble_eq_true rfl) (s_needW (Int32.not_lt.mpr (nle (k := 1) hh1 (by omega))) (nle (b := 96) hh (by omega))) (fun r13 μ13 e13 => ?_)
    obtain ⟨rfl, q13⟩ := e13
    obtain rfl := q13.symm
    refine bc_aload_n dX9_season_16 rfl ?_
    refine bc_iload dX9_season_17 rfl ?_
    refine bc_iconst (v := 0) dX9_season_19 (by decide) ?_
    refine bc_iconst (v := 3) dX9_season_20 (by decide) ?_
    refine bc_callV (z := mX9_needWithin) (ci := 9) dX9_season_21 lX9_172 qX9_needWithin (by rfl) (by rfl) (by rfl) (by rfl) (Nat.le_of_ble_eq_true rfl) (s_needW (by decide) (by decide)) (fun r21 μ21 e21 => ?_)
    obtain ⟨rfl, q21⟩ := e21
    obtain rfl := q21.symm
    refine bc_aload_n dX9_season_24 rfl ?_
    refine bc_iload_n dX9_season_25 rfl ?_
    refine bc_iload_n dX9_season_26 rfl ?_
    refine bc_iload_n dX9_season_27 rfl ?_
    refine bc_callV (z := mX9_runSeason) (ci := 9) dX9_season_28 lX9_357 qX9_runSeason (by rfl) (by rfl) (by rfl) (by rfl) (Nat.le_of_ble_eq_true rfl) (s_runSeason hB hoq hh _ _ (trS.rf μ)) (fun r28 μ28 e28 => ?_)
    obtain ⟨rfl, e28⟩ := e28
    refine bc_iload dX9_season_31 rfl ?_
    refine bc_tableIn (off := 27) (tgt := 60) dX9_season_33 (by decide) (by decide) (by decide) (by decide) ?_
    refine bc_aload_n dX9_season_60 rfl ?_
    refine bc_getr dX9_season_61 fX9_56 (rfl) rfl ?_
    refine bc_geti dX9_season_64 fX9_188 (rfl) rfl ?_
    exact bc_ireturn dX9_season_67 rfl rfl (⟨congrArg (fun z => some (Value.int z)) (e28.v (k := 0) (by omega)), e28.1⟩)
  · skip
    refine bc_aload_n dX9_season_0 rfl ?_
    refine bc_iload_n dX9_season_1 rfl ?_
    refine bc_iconst (v := 0) dX9_season_2 (by decide) ?_
    refine bc_bipush (v := 16) dX9_season_3 (by decide) ?_
    refine bc_callV (z := mX9_needWithin) (ci := 9) dX9_season_5 lX9_172 qX9_needWithin (by rfl) (by rfl) (by rfl) (by rfl) (Nat.le_of_ble_eq_true rfl) (s_needW hC0 hC) (fun r5 μ5 e5 => ?_)
    obtain ⟨rfl, q5⟩ := e5
    obtain rfl := q5.symm
    refine bc_aload_n dX9_season_8 rfl ?_
    refine bc_iload_n dX9_season_9 rfl ?_
    refine bc_iconst (v := 1) dX9_season_10 (by decide) ?_
    refine bc_bipush (v := 96) dX9_season_11 (by decide) ?_
    refine bc_callV (z := mX9_needWithin) (ci := 9) dX9_season_13 lX9_172 qX9_needWithin (by rfl) (by rfl) (by rfl) (by rfl) (Nat.le_of_ble_eq_true rfl) (s_needW (Int32.not_lt.mpr (nle (k := 1) hh1 (by omega))) (nle (b := 96) hh (by omega))) (fun r13 μ13 e13 => ?_)
    obtain ⟨rfl, q13⟩ := e13
    obtain rfl := q13.symm
    refine bc_aload_n dX9_season_16 rfl ?_
    refine bc_iload dX9_season_17 rfl ?_
    refine bc_iconst (v := 0) dX9_season_19 (by decide) ?_
    refine bc_iconst (v := 3) dX9_season_20 (by decide) ?_
    refine bc_callV (z := mX9_needWithin) (ci := 9) dX9_season_21 lX9_172 qX9_needWithin (by rfl) (by rfl) (by rfl) (by rfl) (Nat.le_of_ble_eq_true rfl) (s_needW (by decide) (by decide)) (fun r21 μ21 e21 => ?_)
    obtain ⟨rfl, q21⟩ := e21
    obtain rfl := q21.symm
    refine bc_aload_n dX9_season_24 rfl ?_
    refine bc_iload_n dX9_season_25 rfl ?_
    refine bc_iload_n dX9_season_26 rfl ?_
    refine bc_iload_n dX9_season_27 rfl ?_
    refine bc_callV (z := mX9_runSeason) (ci := 9) dX9_season_28 lX9_357 qX9_runSeason (by rfl) (by rfl) (by rfl) (by rfl) (Nat.le_of_ble_eq_true rfl) (s_runSeason hB hoq hh _ _ (trS.rf μ)) (fun r28 μ28 e28 => ?_)
    obtain ⟨rfl, e28⟩ := e28
    refine bc_iload dX9_season_31 rfl ?_
    refine bc_tableIn (off := 35) (tgt := 68) dX9_season_33 (by decide) (by decide) (by decide) (by decide) ?_
    refine bc_aload_n dX9_season_68 rfl ?_
    refine bc_getr dX9_season_69 fX9_56 (rfl) rfl ?_
    refine bc_geti dX9_season_72 fX9_191 (rfl) rfl ?_
    exact bc_ireturn dX9_season_75 rfl rfl (⟨congrArg (fun z => some (Value.int z)) (e28.v (k := 1) (by omega)), e28.1⟩)
  · skip
    refine bc_aload_n dX9_season_0 rfl ?_
    refine bc_iload_n dX9_season_1 rfl ?_
    refine bc_iconst (v := 0) dX9_season_2 (by decide) ?_
    refine bc_bipush (v := 16) dX9_season_3 (by decide) ?_
    refine bc_callV (z := mX9_needWithin) (ci := 9) dX9_season_5 lX9_172 qX9_needWithin (by rfl) (by rfl) (by rfl) (by rfl) (Nat.le_of_ble_eq_true rfl) (s_needW hC0 hC) (fun r5 μ5 e5 => ?_)
    obtain ⟨rfl, q5⟩ := e5
    obtain rfl := q5.symm
    refine bc_aload_n dX9_season_8 rfl ?_
    refine bc_iload_n dX9_season_9 rfl ?_
    refine bc_iconst (v := 1) dX9_season_10 (by decide) ?_
    refine bc_bipush (v := 96) dX9_season_11 (by decide) ?_
    refine bc_callV (z := mX9_needWithin) (ci := 9) dX9_season_13 lX9_172 qX9_needWithin (by rfl) (by rfl) (by rfl) (by rfl) (Nat.le_of_ble_eq_true rfl) (s_needW (Int32.not_lt.mpr (nle (k := 1) hh1 (by omega))) (nle (b := 96) hh (by omega))) (fun r13 μ13 e13 => ?_)
    obtain ⟨rfl, q13⟩ := e13
    obtain rfl := q13.symm
    refine bc_aload_n dX9_season_16 rfl ?_
    refine bc_iload dX9_season_17 rfl ?_
    refine bc_iconst (v := 0) dX9_season_19 (by decide) ?_
    refine bc_iconst (v := 3) dX9_season_20 (by decide) ?_
    refine bc_callV (z := mX9_needWithin) (ci := 9) dX9_season_21 lX9_172 qX9_needWithin (by rfl) (by rfl) (by rfl) (by rfl) (Nat.le_of_ble_eq_true rfl) (s_needW (by decide) (by decide)) (fun r21 μ21 e21 => ?_)
    obtain ⟨rfl, q21⟩ := e21
    obtain rfl := q21.symm
    refine bc_aload_n dX9_season_24 rfl ?_
    refine bc_iload_n dX9_season_25 rfl ?_
    refine bc_iload_n dX9_season_26 rfl ?_
    refine bc_iload_n dX9_season_27 rfl ?_
    refine bc_callV (z := mX9_runSeason) (ci := 9) dX9_season_28 lX9_357 qX9_runSeason (by rfl) (by rfl) (by rfl) (by rfl) (Nat.le_of_ble_eq_true rfl) (s_runSeason hB hoq hh _ _ (trS.rf μ)) (fun r28 μ28 e28 => ?_)
    obtain ⟨rfl, e28⟩ := e28
    refine bc_iload dX9_season_31 rfl ?_
    refine bc_tableIn (off := 43) (tgt := 76) dX9_season_33 (by decide) (by decide) (by decide) (by decide) ?_
    refine bc_aload_n dX9_season_76 rfl ?_
    refine bc_getr dX9_season_77 fX9_56 (rfl) rfl ?_
    refine bc_geti dX9_season_80 fX9_194 (rfl) rfl ?_
    exact bc_ireturn dX9_season_83 rfl rfl (⟨congrArg (fun z => some (Value.int z)) (e28.v (k := 3) (by omega)), e28.1⟩)
  · skip
    refine bc_aload_n dX9_season_0 rfl ?_
    refine bc_iload_n dX9_season_1 rfl ?_
    refine bc_iconst (v := 0) dX9_season_2 (by decide) ?_
    refine bc_bipush (v := 16) dX9_season_3 (by decide) ?_
    refine bc_callV (z := mX9_needWithin) (ci := 9) dX9_season_5 lX9_172 qX9_needWithin (by rfl) (by rfl) (by rfl) (by rfl) (Nat.le_of_ble_eq_true rfl) (s_needW hC0 hC) (fun r5 μ5 e5 => ?_)
    obtain ⟨rfl, q5⟩ := e5
    obtain rfl := q5.symm
    refine bc_aload_n dX9_season_8 rfl ?_
    refine bc_iload_n dX9_season_9 rfl ?_
    refine bc_iconst (v := 1) dX9_season_10 (by decide) ?_
    refine bc_bipush (v := 96) dX9_season_11 (by decide) ?_
    refine bc_callV (z := mX9_needWithin) (ci := 9) dX9_season_13 lX9_172 qX9_needWithin (by rfl) (by rfl) (by rfl) (by rfl) (Nat.le_of_ble_eq_true rfl) (s_needW (Int32.not_lt.mpr (nle (k := 1) hh1 (by omega))) (nle (b := 96) hh (by omega))) (fun r13 μ13 e13 => ?_)
    obtain ⟨rfl, q13⟩ := e13
    obtain rfl := q13.symm
    refine bc_aload_n dX9_season_16 rfl ?_
    refine bc_iload dX9_season_17 rfl ?_
    refine bc_iconst (v := 0) dX9_season_19 (by decide) ?_
    refine bc_iconst (v := 3) dX9_season_20 (by decide) ?_
    refine bc_callV (z := mX9_needWithin) (ci := 9) dX9_season_21 lX9_172 qX9_needWithin (by rfl) (by rfl) (by rfl) (by rfl) (Nat.le_of_ble_eq_true rfl) (s_needW (by decide) (by decide)) (fun r21 μ21 e21 => ?_)
    obtain ⟨rfl, q21⟩ := e21
    obtain rfl := q21.symm
    refine bc_aload_n dX9_season_24 rfl ?_
    refine bc_iload_n dX9_season_25 rfl ?_
    refine bc_iload_n dX9_season_26 rfl ?_
    refine bc_iload_n dX9_season_27 rfl ?_
    refine bc_callV (z := mX9_runSeason) (ci := 9) dX9_season_28 lX9_357 qX9_runSeason (by rfl) (by rfl) (by rfl) (by rfl) (Nat.le_of_ble_eq_true rfl) (s_runSeason hB hoq hh _ _ (trS.rf μ)) (fun r28 μ28 e28 => ?_)
    obtain ⟨rfl, e28⟩ := e28
    refine bc_iload dX9_season_31 rfl ?_
    refine bc_tableOut (tgt := 84) dX9_season_33 (by decide) (by decide) ?_
    refine bc_aload_n dX9_season_84 rfl ?_
    refine bc_getr dX9_season_85 fX9_56 (rfl) rfl ?_
    refine bc_geti dX9_season_88 fX9_197 (rfl) rfl ?_
    exact bc_ireturn dX9_season_91 rfl rfl (⟨congrArg (fun z => some (Value.int z)) (e28.v (k := 4) (by omega)), e28.1⟩)
def moB (X Y : Nat → Int32) (x y : Int32) : Nat → Nat → Bool
  | 0, _ => false
  | m + 1, k => (decide (X k = x) && decide (Y k = y)) || moB X Y x y m (k + 1)
theorem s_isMooring {b : Nat} (hb : bc_isB LC b) (x y : Int32) (hnm : μ b 3 = nI nm) (hnm6 : nm ≤ 6) : bc_C (d + 2) LC mX0_isMooring [.ref b, .int x, .int y] μ (fun r ν => r = some (.int (if moB (μ (b + 5)) (μ (b + 6)) x y nm 0 = true then 1 else 0)) ∧ ν = μ) := by
  refine bc_enter (by decide) (Nat.le_of_ble_eq_true rfl) rfl ?_
  have loop : ∀ m k, k + m = nm → bc_W (d + 2) LC mX0_isMooring 2 [.ref b, .int x, .int y, .int (nI k)] [] μ (fun r ν => r = some (.int (if moB (μ (b + 5)) (μ (b + 6)) x y m k = true then 1 else 0)) ∧ ν = μ) := by
    intro m
    induction m with
    | zero =>
      intro k hk
      have hk : k = nm := by omega
      subst hk
      refine bc_iload_n dX0_isMooring_2 rfl ?_
      refine bc_aload_n dX0_isMooring_3 rfl ?_
      refine bc_geti dX0_isMooring_4 fX0_46 (hb.1) rfl ?_
      refine bc_icmp_ge (tgt := 36) dX0_isMooring_7 (by decide) (fun h7 => ?_) (fun h7 => absurd h7 (fun h => h (by rw [hnm]; exact Int32.le_refl _)))
      refine bc_iconst (v := 0) dX0_isMooring_36 (by decide) ?_
      exact bc_ireturn dX0_isMooring_37 rfl rfl (⟨rfl, rfl⟩)
    | succ m ih =>
      intro k hk
      have skip : ¬ (μ (b + 5) k = x ∧ μ (b + 6) k = y) → bc_W (d + 2) LC mX0_isMooring 2 [.ref b, .int x, .int y, .int (nI k + 1)] [] μ (fun r ν => r = some (.int (if moB (μ (b + 5)) (μ (b + 6)) x y (m + 1) k = true then 1 else 0)) ∧ ν = μ) := by
        intro q
        have h2 := ih (k + 1) (by omega)
        rw [show moB (μ (b + 5)) (μ (b + 6)) x y (m + 1) k = moB (μ (b + 5)) (μ (b + 6)) x y m (k + 1) by rw [moB, show (decide (μ (b + 5) k = x) && decide (μ (b + 6) k = y)) = false by rw [← Bool.decide_and]; exact decide_eq_false q, Bool.false_or]]
        rw [bn_add1]
        exact h2
      refine bc_iload_n dX0_isMooring_2 rfl ?_
      refine bc_aload_n dX0_isMooring_3 rfl ?_
      refine bc_geti dX0_isMooring_4 fX0_46 (hb.1) rfl ?_
      refine bc_icmp_ge (tgt := 36) dX0_isMooring_7 (by decide) (fun h7 => absurd h7 (by rw [hnm, bn_leN (by omega) (by omega)]; omega)) (fun h7 => ?_)
      refine bc_aload_n dX0_isMooring_10 rfl ?_
      refine bc_iload_n dX0_isMooring_11 rfl ?_
      refine bc_callV (z := mX0_mooringX) (ci := 0) dX0_isMooring_12 lX0_117 qX0_mooringX (hb.1) (by rfl) (by rfl) (by rfl) (Nat.le_of_ble_eq_true rfl) (s_mxB hb (by omega)) (fun r12 μ12 e12 => ?_)
      obtain ⟨rfl, q12⟩ := e12
      obtain rfl := q12.symm
      refine bc_iload_n dX0_isMooring_15 rfl ?_
      refine bc_icmp_ne (tgt := 30) dX0_isMooring_16 (by decide) (fun h16 => ?_) (fun h16 => ?_)
      · exact bc_iinc1 dX0_isMooring_30 rfl (by decide) rfl (bc_goto (tgt := 2) dX0_isMooring_33 (by decide) (skip (fun q => h16 q.1)))
      · refine bc_aload_n dX0_isMooring_19 rfl ?_
        refine bc_iload_n dX0_isMooring_20 rfl ?_
        refine bc_callV (z := mX0_mooringY) (ci := 0) dX0_isMooring_21 lX0_120 qX0_mooringY (hb.1) (by rfl) (by rfl) (by rfl) (Nat.le_of_ble_eq_true rfl) (s_myB hb (by omega)) (fun r21 μ21 e21 => ?_)
        obtain ⟨rfl, q21⟩ := e21
        obtain rfl := q21.symm
        refine bc_iload_n dX0_isMooring_24 rfl ?_
        refine bc_icmp_ne (tgt := 30) dX0_isMooring_25 (by decide) (fun h25 => ?_) (fun h25 => ?_)
        · exact bc_iinc1 dX0_isMooring_30 rfl (by decide) rfl (bc_goto (tgt := 2) dX0_isMooring_33 (by decide) (skip (fun q => h25 q.2)))
        · refine bc_iconst (v := 1) dX0_isMooring_28 (by decide) ?_
          exact bc_ireturn dX0_isMooring_29 rfl rfl (⟨by rw [moB, decide_eq_true (h16), decide_eq_true (h25)]; rfl, rfl⟩)
  refine bc_iconst (v := 0) dX0_isMooring_0 (by decide) ?_
  refine bc_istore_n dX0_isMooring_1 (by decide) rfl ?_
  exact loop nm 0 (by omega)
def spnM (f : Nat → Row) (mo : Int32 → Int32 → Bool) : Nat → Int32 × Int32 × Int32
  | 0 => (30, 0, 0)
  | k + 1 => (if f k 0 < (spnM f mo k).1 then f k 0 else (spnM f mo k).1, if (spnM f mo k).2.1 < f k 0 then f k 0 else (spnM f mo k).2.1, (spnM f mo k).2.2 + (if mo (f k 0) (f k 1) = true then 1 else 0))
def spvM (z : Int32 × Int32 × Int32) : Nat → Int32
  | 0 => z.1 | 1 => z.2.1
  | _ => z.2.2
theorem s_span {mn h w : Nat} {C sd : Int32} (hB : okB μ n no nq) (hoq : 0 < no → 0 < nq) (hnm : μ 3 3 = nI nm) (hnm6 : nm ≤ 6) (hm1 : 1 ≤ mn) (hm : mn ≤ 20) (hC0 : ¬ C < 0) (hC : C ≤ 16) (hh1 : 1 ≤ h) (hh : h ≤ 96) (hw : w ≤ 2) : bc_C (d + 7) LC mX9_span [.ref 0, .int sd, .int (nI mn), .int C, .int (nI h), .int (nI w)] μ (fun r ν => r = some (.int (spvM (spnM (fun i => (seaM μ n no nq C h (row 31 μ, sd + nI i)).1) (fun x y => moB (μ 8) (μ 9) x y nm 0) mn) w)) ∧ trS μ ν) := by
  refine bc_enter (by decide) (Nat.le_of_ble_eq_true rfl) rfl ?_
  obtain ⟨f, hf⟩ : ∃ f : Nat → Row, f = fun i => (seaM μ n no nq C h (row 31 μ, sd + nI i)).1 := ⟨_, rfl⟩
  obtain ⟨mo, hmo⟩ : ∃ mo : Int32 → Int32 → Bool, mo = fun x y => moB (μ 8) (μ 9) x y nm 0 := ⟨_, rfl⟩
  rw [← hf, ← hmo]
  have loop : ∀ (m k : Nat) (ξ : bc_M), k + m = mn → trS μ ξ → bc_W (d + 7) LC mX9_span 46 [.ref 0, .int sd, .int (nI mn), .int C, .int (nI h), .int (nI w), .int (spnM f mo k).1, .int (spnM f mo k).2.1, .int (spnM f mo k).2.2, .int (nI k)] [] ξ (fun r ν => r = some (.int (spvM (spnM f mo mn) w)) ∧ trS μ ν) := by
    intro m
    induction m with
    | zero =>
      intro k ξ hk hI
      have hk : k = mn := by omega
      subst hk
      have hc : w = 0 ∨ w = 1 ∨ w = 2 := by omega
      rcases hc with rfl | rfl | rfl
      · skip
        refine bc_iload dX9_span_46 rfl ?_
        refine bc_iload_n dX9_span_48 rfl ?_
        refine bc_icmp_ge (tgt := 131) dX9_span_49 (by decide) (fun h49 => ?_) (fun h49 => absurd h49 (fun q => q (Int32.le_refl _)))
        refine bc_iload dX9_span_131 rfl ?_
        refine bc_if_ne (tgt := 141) dX9_span_133 (by decide) (fun h133 => absurd h133 (by decide)) (fun h133 => ?_)
        refine bc_iload dX9_span_136 rfl ?_
        refine bc_goto (tgt := 154) dX9_span_138 (by decide) ?_
        exact bc_ireturn dX9_span_154 rfl rfl (⟨rfl, hI⟩)
      · skip
        refine bc_iload dX9_span_46 rfl ?_
        refine bc_iload_n dX9_span_48 rfl ?_
        refine bc_icmp_ge (tgt := 131) dX9_span_49 (by decide) (fun h49 => ?_) (fun h49 => absurd h49 (fun q => q (Int32.le_refl _)))
        refine bc_iload dX9_span_131 rfl ?_
        refine bc_if_ne (tgt := 141) dX9_span_133 (by decide) (fun h133 => ?_) (fun h133 => absurd h133 (by decide))
        refine bc_iload dX9_span_141 rfl ?_
        refine bc_iconst (v := 1) dX9_span_143 (by decide) ?_
        refine bc_icmp_ne (tgt := 152) dX9_span_144 (by decide) (fun h144 => absurd h144 (by decide)) (fun h144 => ?_)
        refine bc_iload dX9_span_147 rfl ?_
        refine bc_goto (tgt := 154) dX9_span_149 (by decide) ?_
        exact bc_ireturn dX9_span_154 rfl rfl (⟨rfl, hI⟩)
      · skip
        refine bc_iload dX9_span_46 rfl ?_
        refine bc_iload_n dX9_span_48 rfl ?_
        refine bc_icmp_ge (tgt := 131) dX9_span_49 (by decide) (fun h49 => ?_) (fun h49 => absurd h49 (fun q => q (Int32.le_refl _)))
        refine bc_iload dX9_span_131 rfl ?_
        refine bc_if_ne (tgt := 141) dX9_span_133 (by decide) (fun h133 => ?_) (fun h133 => absurd h133 (by decide))
        refine bc_iload dX9_span_141 rfl ?_
        refine bc_iconst (v := 1) dX9_span_143 (by decide) ?_
        refine bc_icmp_ne (tgt := 152) dX9_span_144 (by decide) (fun h144 => ?_) (fun h144 => absurd h144 (by decide))
        refine bc_iload dX9_span_152 rfl ?_
        exact bc_ireturn dX9_span_154 rfl rfl (⟨rfl, hI⟩)
    | succ m ih =>
      intro k ξ hk hI
      refine bc_iload dX9_span_46 rfl ?_
      refine bc_iload_n dX9_span_48 rfl ?_
      refine bc_icmp_ge (tgt := 131) dX9_span_49 (by decide) (fun h49 => absurd h49 (by rw [bn_leN (by omega) (by omega)]; omega)) (fun h49 => ?_)
      refine bc_aload_n dX9_span_52 rfl ?_
      refine bc_iload_n dX9_span_53 rfl ?_
      refine bc_iload dX9_span_54 rfl ?_
      refine bc_iadd dX9_span_56 ?_
      refine bc_iload_n dX9_span_57 rfl ?_
      refine bc_iload dX9_span_58 rfl ?_
      refine bc_callV (z := mX9_runSeason) (ci := 9) dX9_span_60 lX9_357 qX9_runSeason (by rfl) (by rfl) (by rfl) (by rfl) (Nat.le_of_ble_eq_true rfl) (s_runSeason hB hoq hh _ _ hI) (fun r60 μ60 e60 => ?_)
      obtain ⟨rfl, e60⟩ := e60
      have e60 : ahI n no nq μ (f k) μ60 := by rw [hf]; exact e60
      have x0 : μ60 38 2 = f k 0 := e60.v (k := 0) (by omega)
      have x1 : μ60 38 3 = f k 1 := e60.v (k := 1) (by omega)
      refine bc_iload dX9_span_63 rfl ?_
      refine bc_aload_n dX9_span_65 rfl ?_
      refine bc_getr dX9_span_66 fX9_56 (rfl) rfl ?_
      refine bc_geti dX9_span_69 fX9_188 (rfl) rfl ?_
      refine bc_min dX9_span_72 wX9_333 (Nat.le_of_ble_eq_true rfl) ?_
      refine bc_istore dX9_span_75 (by decide) rfl ?_
      refine bc_iload dX9_span_77 rfl ?_
      refine bc_aload_n dX9_span_79 rfl ?_
      refine bc_getr dX9_span_80 fX9_56 (rfl) rfl ?_
      refine bc_geti dX9_span_83 fX9_188 (rfl) rfl ?_
      refine bc_max dX9_span_86 wX9_360 (Nat.le_of_ble_eq_true rfl) ?_
      refine bc_istore dX9_span_89 (by decide) rfl ?_
      refine bc_iload dX9_span_91 rfl ?_
      refine bc_aload_n dX9_span_93 rfl ?_
      refine bc_getr dX9_span_94 fX9_19 (rfl) rfl ?_
      refine bc_aload_n dX9_span_97 rfl ?_
      refine bc_getr dX9_span_98 fX9_56 (rfl) rfl ?_
      refine bc_geti dX9_span_101 fX9_188 (rfl) rfl ?_
      refine bc_aload_n dX9_span_104 rfl ?_
      refine bc_getr dX9_span_105 fX9_56 (rfl) rfl ?_
      refine bc_geti dX9_span_108 fX9_191 (rfl) rfl ?_
      refine bc_callV (z := mX0_isMooring) (ci := 0) dX9_span_111 lX9_363 qX0_isMooring (by rfl) (by rfl) (by rfl) (by rfl) (Nat.le_of_ble_eq_true rfl) (s_isMooring LC_b3 _ _ ((e60.1 3 3 (by omega)).trans hnm) hnm6) (fun r111 μ111 e111 => ?_)
      obtain ⟨rfl, q111⟩ := e111
      obtain rfl := q111.symm
      have e5 : μ60 (3 + 5) = μ 8 := funext fun j => e60.1 8 j (by omega)
      have e6 : μ60 (3 + 6) = μ 9 := funext fun j => e60.1 9 j (by omega)
      rw [x0, x1, e5, e6, show moB (μ 8) (μ 9) (f k 0) (f k 1) nm 0 = mo (f k 0) (f k 1) by rw [hmo]]
      by_cases hb : mo (f k 0) (f k 1) = true
      · rw [if_pos hb]
        refine bc_if_eq (tgt := 121) dX9_span_114 (by decide) (fun h114 => absurd h114 (by decide)) (fun h114 => ?_)
        refine bc_iconst (v := 1) dX9_span_117 (by decide) ?_
        refine bc_goto (tgt := 122) dX9_span_118 (by decide) ?_
        refine bc_iadd dX9_span_122 ?_
        refine bc_istore dX9_span_123 (by decide) rfl ?_
        refine bc_iinc1 dX9_span_125 rfl (by decide) rfl ?_
        refine bc_goto (tgt := 46) dX9_span_128 (by decide) ?_
        have h2 := ih (k + 1) μ60 (by omega) e60.1
        simp only [spnM, hb, if_true] at h2
        rw [bn_add1]
        exact h2
      · rw [if_neg hb]
        refine bc_if_eq (tgt := 121) dX9_span_114 (by decide) (fun h114 => ?_) (fun h114 => absurd rfl h114)
        refine bc_iconst (v := 0) dX9_span_121 (by decide) ?_
        refine bc_iadd dX9_span_122 ?_
        refine bc_istore dX9_span_123 (by decide) rfl ?_
        refine bc_iinc1 dX9_span_125 rfl (by decide) rfl ?_
        refine bc_goto (tgt := 46) dX9_span_128 (by decide) ?_
        have h2 := ih (k + 1) μ60 (by omega) e60.1
        simp only [spnM, hb] at h2
        rw [bn_add1]
        exact h2
  refine bc_aload_n dX9_span_0 rfl ?_
  refine bc_iload_n dX9_span_1 rfl ?_
  refine bc_iconst (v := 1) dX9_span_2 (by decide) ?_
  refine bc_bipush (v := 20) dX9_span_3 (by decide) ?_
  refine bc_callV (z := mX9_needWithin) (ci := 9) dX9_span_5 lX9_172 qX9_needWithin (by rfl) (by rfl) (by rfl) (by rfl) (Nat.le_of_ble_eq_true rfl) (s_needW (Int32.not_lt.mpr (nle (k := 1) hm1 (by omega))) (nle (b := 20) hm (by omega))) (fun r5 μ5 e5 => ?_)
  obtain ⟨rfl, q5⟩ := e5
  obtain rfl := q5.symm
  refine bc_aload_n dX9_span_8 rfl ?_
  refine bc_iload_n dX9_span_9 rfl ?_
  refine bc_iconst (v := 0) dX9_span_10 (by decide) ?_
  refine bc_bipush (v := 16) dX9_span_11 (by decide) ?_
  refine bc_callV (z := mX9_needWithin) (ci := 9) dX9_span_13 lX9_172 qX9_needWithin (by rfl) (by rfl) (by rfl) (by rfl) (Nat.le_of_ble_eq_true rfl) (s_needW hC0 hC) (fun r13 μ13 e13 => ?_)
  obtain ⟨rfl, q13⟩ := e13
  obtain rfl := q13.symm
  refine bc_aload_n dX9_span_16 rfl ?_
  refine bc_iload dX9_span_17 rfl ?_
  refine bc_iconst (v := 1) dX9_span_19 (by decide) ?_
  refine bc_bipush (v := 96) dX9_span_20 (by decide) ?_
  refine bc_callV (z := mX9_needWithin) (ci := 9) dX9_span_22 lX9_172 qX9_needWithin (by rfl) (by rfl) (by rfl) (by rfl) (Nat.le_of_ble_eq_true rfl) (s_needW (Int32.not_lt.mpr (nle (k := 1) hh1 (by omega))) (nle (b := 96) hh (by omega))) (fun r22 μ22 e22 => ?_)
  obtain ⟨rfl, q22⟩ := e22
  obtain rfl := q22.symm
  refine bc_aload_n dX9_span_25 rfl ?_
  refine bc_iload dX9_span_26 rfl ?_
  refine bc_iconst (v := 0) dX9_span_28 (by decide) ?_
  refine bc_iconst (v := 2) dX9_span_29 (by decide) ?_
  refine bc_callV (z := mX9_needWithin) (ci := 9) dX9_span_30 lX9_172 qX9_needWithin (by rfl) (by rfl) (by rfl) (by rfl) (Nat.le_of_ble_eq_true rfl) (s_needW (bn_nn (by omega)) (nle (b := 2) hw (by omega))) (fun r30 μ30 e30 => ?_)
  obtain ⟨rfl, q30⟩ := e30
  obtain rfl := q30.symm
  refine bc_bipush (v := 30) dX9_span_33 (by decide) ?_
  refine bc_istore dX9_span_35 (by decide) rfl ?_
  refine bc_iconst (v := 0) dX9_span_37 (by decide) ?_
  refine bc_istore dX9_span_38 (by decide) rfl ?_
  refine bc_iconst (v := 0) dX9_span_40 (by decide) ?_
  refine bc_istore dX9_span_41 (by decide) rfl ?_
  refine bc_iconst (v := 0) dX9_span_43 (by decide) ?_
  refine bc_istore dX9_span_44 (by decide) rfl ?_
  exact loop mn 0 μ (by omega) (trS.rf μ)
end OW2
