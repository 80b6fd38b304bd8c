/-! BreadCity$Tracks: all hours; what is asked of them -/
def coolv (μ : bc_M) (no : Nat) : Int32 := (1 <<< (nI no &&& 31) - 1) &&& (lbM (μ 32) 0 no ^^^ -1)
/-- the tracks that are kept are right -/
def tkI (n no nq : Nat) (μ : bc_M) : Prop := μ 117 8 = coolv μ no ∧ ∀ h, h ≤ 12 → ∀ s, s < 2 ^ no → offP μ (nI s) → μ (119 + h) s = cel (trP μ n no nq h s)
theorem mS_same {μ ν : bc_M} (h : tS μ ν) : mS ν 31 = mS μ 31 := by
  have g20 : ν 20 = μ 20 := funext fun q => h 20 q (by unfold tkc; omega)
  have g6 : ν 6 = μ 6 := funext fun q => h 6 q (by unfold tkc; omega)
  have g7 : ν 7 = μ 7 := funext fun q => h 7 q (by unfold tkc; omega)
  have g5 : ν 5 = μ 5 := funext fun q => h 5 q (by unfold tkc; omega)
  have g4 : ν 4 = μ 4 := funext fun q => h 4 q (by unfold tkc; omega)
  have g31 : ν 31 = μ 31 := funext fun q => h 31 q (by unfold tkc; omega)
  have g34 : ν (31 + 3) = μ (31 + 3) := funext fun q => h 34 q (by unfold tkc; omega)
  funext n no lit H j k
  unfold mS mL
  rw [g20, g6, g7, g5, g4, g31, g34]
theorem trP_same {μ ν : bc_M} (h : tS μ ν) (n no nq g s : Nat) : trP ν n no nq g s = trP μ n no nq g s := by
  have g31 : ν 31 = μ 31 := funext fun q => h 31 q (by unfold tkc; omega)
  have g32 : ν 32 = μ 32 := funext fun q => h 32 q (by unfold tkc; omega)
  induction g with
  | zero => show (ν 31 2, ν 31 3) = (μ 31 2, μ 31 3); rw [g31]
  | succ g ih =>
    rw [show trP ν n no nq (g + 1) s = stp ν n no nq g s (trP ν n no nq g s) from rfl, show trP μ n no nq (g + 1) s = stp μ n no nq g s (trP μ n no nq g s) from rfl, ih]
    unfold stp eaM noM litH
    rw [mS_same h, h.op, g31, g32]
theorem coolv_same {μ ν : bc_M} (h : tS μ ν) (no : Nat) : coolv ν no = coolv μ no := by
  unfold coolv
  rw [show ν 32 = μ 32 from funext fun q => h 32 q (by unfold tkc; omega)]
theorem s_reckonAll {d : Nat} {μ : bc_M} {n no nq : Nat} (hB : okB μ n no nq) (h0 : rng (μ 31 2, μ 31 3)) (hkn : μ 117 7 = 0 ∨ (μ 117 7 = 1 ∧ tkI n no nq μ)) : bc_C (d + 6) LC mX8_reckonAll [.ref 117] μ (fun r ν => r = none ∧ tS μ ν ∧ ν 117 7 = 1 ∧ tkI n no nq ν) := by
  have hno8 : no ≤ 8 := hB.1.2.1
  have hov := ovs no hno8
  refine bc_enter (by decide) (Nat.le_of_ble_eq_true rfl) rfl ?_
  have second : ∀ (m h : Nat) (ξ : bc_M), h + m = 12 → tS μ ξ → trE μ ξ → ξ 117 7 = 1 → ξ 117 8 = coolv μ no → (∀ g, g ≤ h → ∀ s, s < 2 ^ no → offP ξ (nI s) → ξ (119 + g) s = cel (trP μ n no nq g s)) → bc_W (d + 6) LC mX8_reckonAll 79 [.ref 117, .int (nI h)] [] ξ (fun r ν => r = none ∧ tS μ ν ∧ ν 117 7 = 1 ∧ tkI n no nq ν) := by
    intro m
    induction m with
    | zero =>
      intro h ξ hh q1 q2 q3 q4 q5
      have hh : h = 12 := by omega
      subst hh
      refine bc_iload_n dX8_reckonAll_79 rfl ?_
      refine bc_bipush (v := 12) dX8_reckonAll_80 (by decide) ?_
      refine bc_icmp_ge (tgt := 96) dX8_reckonAll_82 (by decide) (fun h82 => ?_) (fun h82 => absurd h82 (fun q => q (Int32.le_refl _)))
      exact bc_return dX8_reckonAll_96 rfl (⟨rfl, q1, q3, q4.trans (coolv_same q1 no).symm, fun g hg s hs ho => by rw [trP_same q1]; exact q5 g hg s hs ho⟩)
    | succ m ih =>
      intro h ξ hh q1 q2 q3 q4 q5
      refine bc_iload_n dX8_reckonAll_79 rfl ?_
      refine bc_bipush (v := 12) dX8_reckonAll_80 (by decide) ?_
      refine bc_icmp_ge (tgt := 96) dX8_reckonAll_82 (by decide) (fun h82 => absurd h82 (by rw [show (12 : Int32) = nI 12 from rfl, bn_leN (by omega) (by omega)]; omega)) (fun h82 => ?_)
      refine bc_aload_n dX8_reckonAll_85 rfl ?_
      refine bc_iload_n dX8_reckonAll_86 rfl ?_
      refine bc_callV (z := mX8_reckonHour) (ci := 8) dX8_reckonAll_87 lX8_76 qX8_reckonHour (by rfl) (by rfl) (by rfl) (by rfl) (Nat.le_of_ble_eq_true rfl) (s_reckonHour (h := h) (by omega) hB h0 q1 q2 (fun s hs ho => q5 h (Nat.le_refl h) s hs ho)) (fun r87 μ87 e87 => ?_)
      obtain ⟨rfl, lst, i1, i2, i3, i4, i5, -⟩ := e87
      refine bc_iinc1 dX8_reckonAll_90 rfl (by decide) rfl ?_
      refine bc_goto (tgt := 79) dX8_reckonAll_93 (by decide) ?_
      rw [bn_add1]
      refine ih (h + 1) _ (by omega) i1 i2 ((i3 7).trans q3) ((i3 8).trans q4) (fun g hg s hs ho => ?_)
      have ho2 : offP ξ (nI s) := by
        unfold offP at ho ⊢
        rw [← i3 8, q1 31 5 (by unfold tkc; omega), ← i1 31 5 (by unfold tkc; omega)]
        exact ho
      by_cases e : g = h + 1
      · subst e
        rw [show 119 + (h + 1) = 120 + h by omega]
        exact i5 s hs ho2
      · rw [i4 (119 + g) s (by omega) (by omega) (by omega)]
        exact q5 g (by omega) s hs ho2
  have first : ∀ (m k : Nat) (ξ : bc_M), k + m = 2 ^ no → tS μ ξ → trE μ ξ → ξ 117 7 = 1 → ξ 117 8 = coolv μ no → (∀ s, s < k → ξ 119 s = cel (μ 31 2, μ 31 3)) → bc_W (d + 6) LC mX8_reckonAll 37 [.ref 117, .int (nI k)] [] ξ (fun r ν => r = none ∧ tS μ ν ∧ ν 117 7 = 1 ∧ tkI n no nq ν) := by
    intro m
    induction m with
    | zero =>
      intro k ξ hk q1 q2 q3 q4 q5
      have hk : k = 2 ^ no := by omega
      subst hk
      have e1 : ξ 3 1 = nI no := (q1 3 1 (by unfold tkc; omega)).trans hB.1.1
      refine bc_iload_n dX8_reckonAll_37 rfl ?_
      refine bc_aload_n dX8_reckonAll_38 rfl ?_
      refine bc_getr dX8_reckonAll_39 fX8_24 (rfl) rfl ?_
      refine bc_callV (z := mX0_ovenSets) (ci := 0) dX8_reckonAll_42 lX8_57 qX0_ovenSets (by rfl) (by rfl) (by rfl) (by rfl) (Nat.le_of_ble_eq_true rfl) (s_ovenSets LC_b3) (fun r42 μ42 e42 => ?_)
      obtain ⟨rfl, q42⟩ := e42
      obtain rfl := q42.symm
      refine bc_icmp_ge (tgt := 77) dX8_reckonAll_45 (by decide) (fun h45 => ?_) (fun h45 => absurd h45 (fun q => q (by rw [e1, hov.1]; exact Int32.le_refl _)))
      refine bc_iconst (v := 0) dX8_reckonAll_77 (by decide) ?_
      refine bc_istore_n dX8_reckonAll_78 (by decide) rfl ?_
      refine second 12 0 ξ rfl q1 q2 q3 q4 (fun g hg s hs ho => ?_)
      have hg : g = 0 := by omega
      subst hg
      exact q5 s hs
    | succ m ih =>
      intro k ξ hk q1 q2 q3 q4 q5
      have e1 : ξ 3 1 = nI no := (q1 3 1 (by unfold tkc; omega)).trans hB.1.1
      refine bc_iload_n dX8_reckonAll_37 rfl ?_
      refine bc_aload_n dX8_reckonAll_38 rfl ?_
      refine bc_getr dX8_reckonAll_39 fX8_24 (rfl) rfl ?_
      refine bc_callV (z := mX0_ovenSets) (ci := 0) dX8_reckonAll_42 lX8_57 qX0_ovenSets (by rfl) (by rfl) (by rfl) (by rfl) (Nat.le_of_ble_eq_true rfl) (s_ovenSets LC_b3) (fun r42 μ42 e42 => ?_)
      obtain ⟨rfl, q42⟩ := e42
      obtain rfl := q42.symm
      refine bc_icmp_ge (tgt := 77) dX8_reckonAll_45 (by decide) (fun h45 => absurd h45 (by rw [e1, hov.1, bn_leN (by omega) (by omega)]; omega)) (fun h45 => ?_)
      refine bc_aload_n dX8_reckonAll_48 rfl ?_
      refine bc_iconst (v := 0) dX8_reckonAll_49 (by decide) ?_
      refine bc_iload_n dX8_reckonAll_50 rfl ?_
      refine bc_aload_n dX8_reckonAll_51 rfl ?_
      refine bc_getr dX8_reckonAll_52 fX8_32 (rfl) rfl ?_
      refine bc_geti dX8_reckonAll_55 fX8_62 (rfl) rfl ?_
      refine bc_aload_n dX8_reckonAll_58 rfl ?_
      refine bc_getr dX8_reckonAll_59 fX8_32 (rfl) rfl ?_
      refine bc_geti dX8_reckonAll_62 fX8_65 (rfl) rfl ?_
      refine bc_callSN (z := mX9_cellOf) dX8_reckonAll_65 lX8_68 qX9_cellOf (by rfl) (by rfl) (Nat.le_of_ble_eq_true rfl) (s_cellOf _ _) (fun r65 μ65 e65 => ?_)
      obtain ⟨rfl, q65⟩ := e65
      obtain rfl := q65.symm
      refine bc_callV (z := mX8_put) (ci := 8) dX8_reckonAll_68 lX8_72 qX8_put (by rfl) (by rfl) (by rfl) (by rfl) (Nat.le_of_ble_eq_true rfl) (s_tput (h := 0) (s := k) (by decide) (by omega) _) (fun r68 μ68 e68 => ?_)
      obtain ⟨rfl, q68⟩ := e68
      obtain rfl := q68.symm
      refine bc_iinc1 dX8_reckonAll_71 rfl (by decide) rfl ?_
      refine bc_goto (tgt := 37) dX8_reckonAll_74 (by decide) ?_
      rw [bn_add1]
      refine ih (k + 1) _ (by omega) (q1.u _ (by unfold tkc; omega)) ⟨?_, fun j hj => ?_⟩ ?_ ?_ (fun s hs => ?_)
      · rw [bc_u_r, if_neg (by omega)]; exact q2.1
      · rw [bc_u_r, if_neg (by omega)]; exact q2.2 j hj
      · rw [bc_u_r, if_neg (by omega)]; exact q3
      · rw [bc_u_r, if_neg (by omega)]; exact q4
      · rw [bc_u_r]
        by_cases e : s = k
        · subst e
          rw [if_pos ⟨rfl, rfl⟩, q1 31 2 (by unfold tkc; omega), q1 31 3 (by unfold tkc; omega)]
          rfl
        · rw [if_neg (by omega)]; exact q5 s (by omega)
  refine bc_aload_n dX8_reckonAll_0 rfl ?_
  refine bc_geti dX8_reckonAll_1 fX8_39 (rfl) rfl ?_
  refine bc_if_eq (tgt := 8) dX8_reckonAll_4 (by decide) (fun h4 => ?_) (fun h4 => ?_)
  · refine bc_aload_n dX8_reckonAll_8 rfl ?_
    refine bc_iconst (v := 1) dX8_reckonAll_9 (by decide) ?_
    refine bc_put dX8_reckonAll_10 fX8_39 ftX8 fpX8_7 rfl rfl (rfl) rfl ?_
    refine bc_aload_n dX8_reckonAll_13 rfl ?_
    refine bc_aload_n dX8_reckonAll_14 rfl ?_
    refine bc_getr dX8_reckonAll_15 fX8_32 (rfl) rfl ?_
    have e1 : bc_u μ 117 7 1 3 1 = nI no := by rw [bc_u_r, if_neg (by omega)]; exact hB.1.1
    refine bc_callV (z := mX1_coolBits) (ci := 1) dX8_reckonAll_18 lX8_43 qX1_coolBits (by rfl) (by rfl) (by rfl) (by rfl) (Nat.le_of_ble_eq_true rfl) (s_coolBits (Or.inl rfl) e1 hno8) (fun r18 μ18 e18 => ?_)
    obtain ⟨rfl, q18⟩ := e18
    obtain rfl := q18.symm
    refine bc_put dX8_reckonAll_21 fX8_49 ftX8 fpX8_8 rfl rfl (rfl) rfl ?_
    refine bc_aload_n dX8_reckonAll_24 rfl ?_
    refine bc_getr dX8_reckonAll_25 fX8_36 (rfl) rfl ?_
    refine bc_aload_n dX8_reckonAll_28 rfl ?_
    refine bc_getr dX8_reckonAll_29 fX8_32 (rfl) rfl ?_
    refine bc_callV (z := mX1_become) (ci := 1) dX8_reckonAll_32 lX8_53 qX1_become (by rfl) (by rfl) (by rfl) (by rfl) (Nat.le_of_ble_eq_true rfl) (s_become) (fun r32 μ32 e32 => ?_)
    obtain ⟨rfl, b1, b2, b3, b4, b5⟩ := e32
    refine bc_iconst (v := 0) dX8_reckonAll_35 (by decide) ?_
    refine bc_istore_n dX8_reckonAll_36 (by decide) rfl ?_
    have hx : ∀ i k, ¬ tkc i k → μ32 i k = μ i k := fun i k q => by
      rw [b1 i k (fun e => q (by unfold tkc; omega)) (fun e => q (by unfold tkc; omega)) (fun e => q (by unfold tkc; omega)) (fun e => q (by unfold tkc; omega)), bc_u_r, if_neg (fun e => q (by unfold tkc; omega)), bc_u_r, if_neg (fun e => q (by unfold tkc; omega))]
    refine first (2 ^ no) 0 _ (by omega) hx ⟨?_, fun j hj => ?_⟩ ?_ ?_ (fun s hs => absurd hs (by omega))
    · rw [b2 7 (by decide) (by decide), bc_u_r, if_neg (by omega), bc_u_r, if_neg (by omega)]
    · rw [b5 j hj, bc_u_r, if_neg (by omega), bc_u_r, if_neg (by omega)]
    · rw [b1 117 7 (by omega) (by omega) (by omega) (by omega), bc_u_r, if_neg (by omega), bc_u_r, if_pos ⟨rfl, rfl⟩]
    · rw [b1 117 8 (by omega) (by omega) (by omega) (by omega), bc_u_r, if_pos ⟨rfl, rfl⟩]
      unfold coolv
      rw [show bc_u μ 117 7 1 (31 + 1) = μ 32 from bc_u_ne μ 7 1 (by decide)]
  · exact bc_return dX8_reckonAll_7 rfl (⟨rfl, tS.rf μ, (hkn.resolve_left h4).1, (hkn.resolve_left h4).2⟩)
def offB (μ : bc_M) (s : Nat) : Bool := decide (nI s &&& (μ 117 8 ^^^ -1) = 0 ∧ bcnt (nI s) ≤ μ 31 5)
theorem offB_P {μ : bc_M} {s : Nat} : offP μ (nI s) ↔ offB μ s = true := by unfold offP offB; rw [decide_eq_true_iff]
/-- of the sets below k with P the one with fewest ovens, the first -/
def fwM (P : Nat → Bool) : Nat → Int32
  | 0 => -1
  | k + 1 => if P k = true ∧ (fwM P k = -1 ∨ bcnt (nI k) < bcnt (fwM P k)) then nI k else fwM P k
theorem s_fewestTo {d : Nat} {μ : bc_M} {no h : Nat} (hh : h < 13) (hno : μ 3 1 = nI no) (hno8 : no ≤ 8) (x y : Int32) : bc_C (d + 3) LC mX8_fewestTo [.ref 117, .int x, .int y, .int (nI h)] μ (fun r ν => r = some (.int (fwM (fun s => offB μ s && decide (μ (119 + h) s = cel (x, y))) (2 ^ no))) ∧ ν = μ) := by
  have hov := ovs no hno8
  refine bc_enter (by decide) (Nat.le_of_ble_eq_true rfl) rfl ?_
  obtain ⟨P, hP⟩ : ∃ P, P = fun s => offB μ s && decide (μ (119 + h) s = cel (x, y)) := ⟨_, rfl⟩
  rw [← hP]
  have loop : ∀ (m k : Nat), k + m = 2 ^ no → bc_W (d + 3) LC mX8_fewestTo 6 [.ref 117, .int x, .int y, .int (nI h), .int (fwM P k), .int (nI k)] [] μ (fun r ν => r = some (.int (fwM P (2 ^ no))) ∧ ν = μ) := by
    intro m
    induction m with
    | zero =>
      intro k hk
      have hk : k = 2 ^ no := by omega
      subst hk
      refine bc_iload dX8_fewestTo_6 rfl ?_
      refine bc_aload_n dX8_fewestTo_8 rfl ?_
      refine bc_getr dX8_fewestTo_9 fX8_24 (rfl) rfl ?_
      refine bc_callV (z := mX0_ovenSets) (ci := 0) dX8_fewestTo_12 lX8_57 qX0_ovenSets (by rfl) (by rfl) (by rfl) (by rfl) (Nat.le_of_ble_eq_true rfl) (s_ovenSets LC_b3) (fun r12 μ12 e12 => ?_)
      obtain ⟨rfl, q12⟩ := e12
      obtain rfl := q12.symm
      refine bc_icmp_ge (tgt := 71) dX8_fewestTo_15 (by decide) (fun h15 => ?_) (fun h15 => absurd h15 (fun q => q (by rw [hno, hov.1]; exact Int32.le_refl _)))
      refine bc_iload dX8_fewestTo_71 rfl ?_
      exact bc_ireturn dX8_fewestTo_73 rfl rfl (⟨rfl, rfl⟩)
    | succ m ih =>
      intro k hk
      have skip : ¬ (P k = true ∧ (fwM P k = -1 ∨ bcnt (nI k) < bcnt (fwM P k))) → bc_W (d + 3) LC mX8_fewestTo 6 [.ref 117, .int x, .int y, .int (nI h), .int (fwM P k), .int (nI k + 1)] [] μ (fun r ν => r = some (.int (fwM P (2 ^ no))) ∧ ν = μ) := by
        intro q
        have h2 := ih (k + 1) (by omega)
        rw [show fwM P (k + 1) = fwM P k by rw [fwM, if_neg q]] at h2
        rw [bn_add1]
        exact h2
      have take : (P k = true ∧ (fwM P k = -1 ∨ bcnt (nI k) < bcnt (fwM P k))) → bc_W (d + 3) LC mX8_fewestTo 6 [.ref 117, .int x, .int y, .int (nI h), .int (nI k), .int (nI k + 1)] [] μ (fun r ν => r = some (.int (fwM P (2 ^ no))) ∧ ν = μ) := by
        intro q
        have h2 := ih (k + 1) (by omega)
        rw [show fwM P (k + 1) = nI k by rw [fwM, if_pos q]] at h2
        rw [bn_add1]
        exact h2
      refine bc_iload dX8_fewestTo_6 rfl ?_
      refine bc_aload_n dX8_fewestTo_8 rfl ?_
      refine bc_getr dX8_fewestTo_9 fX8_24 (rfl) rfl ?_
      refine bc_callV (z := mX0_ovenSets) (ci := 0) dX8_fewestTo_12 lX8_57 qX0_ovenSets (by rfl) (by rfl) (by rfl) (by rfl) (Nat.le_of_ble_eq_true rfl) (s_ovenSets LC_b3) (fun r12 μ12 e12 => ?_)
      obtain ⟨rfl, q12⟩ := e12
      obtain rfl := q12.symm
      refine bc_icmp_ge (tgt := 71) dX8_fewestTo_15 (by decide) (fun h15 => absurd h15 (by rw [hno, hov.1, bn_leN (by omega) (by omega)]; omega)) (fun h15 => ?_)
      refine bc_aload_n dX8_fewestTo_18 rfl ?_
      refine bc_iload dX8_fewestTo_19 rfl ?_
      refine bc_callV (z := mX8_isOffered) (ci := 8) dX8_fewestTo_21 lX8_84 qX8_isOffered (by rfl) (by rfl) (by rfl) (by rfl) (Nat.le_of_ble_eq_true rfl) (s_isOffered (nI k)) (fun r21 μ21 e21 => ?_)
      obtain ⟨ho, q21⟩ := e21
      obtain rfl := q21.symm
      rcases ho with ⟨ho, rfl⟩ | ⟨ho, rfl⟩
      · have ho := offB_P.mp ho
        refine bc_if_eq (tgt := 65) dX8_fewestTo_24 (by decide) (fun h24 => absurd h24 (by decide)) (fun h24 => ?_)
        refine bc_aload_n dX8_fewestTo_27 rfl ?_
        refine bc_iload_n dX8_fewestTo_28 rfl ?_
        refine bc_iload dX8_fewestTo_29 rfl ?_
        refine bc_callV (z := mX8_cellAt) (ci := 8) dX8_fewestTo_31 lX8_95 qX8_cellAt (by rfl) (by rfl) (by rfl) (by rfl) (Nat.le_of_ble_eq_true rfl) (s_cellAt hh (by omega)) (fun r31 μ31 e31 => ?_)
        obtain ⟨rfl, q31⟩ := e31
        obtain rfl := q31.symm
        refine bc_iload_n dX8_fewestTo_34 rfl ?_
        refine bc_iload_n dX8_fewestTo_35 rfl ?_
        refine bc_callSN (z := mX9_cellOf) dX8_fewestTo_36 lX8_68 qX9_cellOf (by rfl) (by rfl) (Nat.le_of_ble_eq_true rfl) (s_cellOf x y) (fun r36 μ36 e36 => ?_)
        obtain ⟨rfl, q36⟩ := e36
        obtain rfl := q36.symm
        refine bc_icmp_ne (tgt := 65) dX8_fewestTo_39 (by decide) (fun h39 => ?_) (fun h39 => ?_)
        · refine bc_iinc1 dX8_fewestTo_65 rfl (by decide) rfl ?_
          refine bc_goto (tgt := 6) dX8_fewestTo_68 (by decide) ?_
          exact skip (fun q => by rw [hP] at q; simp only [ho, Bool.true_and, decide_eq_true_eq] at q; exact h39 q.1)
        · refine bc_iload dX8_fewestTo_42 rfl ?_
          refine bc_iconst (v := (-1)) dX8_fewestTo_44 (by decide) ?_
          refine bc_icmp_eq (tgt := 61) dX8_fewestTo_45 (by decide) (fun h45 => ?_) (fun h45 => ?_)
          · refine bc_iload dX8_fewestTo_61 rfl ?_
            refine bc_istore dX8_fewestTo_63 (by decide) rfl ?_
            refine bc_iinc1 dX8_fewestTo_65 rfl (by decide) rfl ?_
            refine bc_goto (tgt := 6) dX8_fewestTo_68 (by decide) ?_
            exact take ⟨by rw [hP]; simp only [ho, Bool.true_and, decide_eq_true_eq]; exact h39, Or.inl h45⟩
          · refine bc_iload dX8_fewestTo_48 rfl ?_
            refine bc_callS (z := mJ6_bitCount_0f7a4) dX8_fewestTo_50 lX8_101 qJ6_bitCount_0f7a4 (by rfl) (by rfl) (Nat.le_of_ble_eq_true rfl) (s_bitCount _) (fun r50 μ50 e50 => ?_)
            obtain ⟨rfl, q50⟩ := e50
            obtain rfl := q50.symm
            refine bc_iload dX8_fewestTo_53 rfl ?_
            refine bc_callS (z := mJ6_bitCount_0f7a4) dX8_fewestTo_55 lX8_101 qJ6_bitCount_0f7a4 (by rfl) (by rfl) (Nat.le_of_ble_eq_true rfl) (s_bitCount _) (fun r55 μ55 e55 => ?_)
            obtain ⟨rfl, q55⟩ := e55
            obtain rfl := q55.symm
            refine bc_icmp_ge (tgt := 65) dX8_fewestTo_58 (by decide) (fun h58 => ?_) (fun h58 => ?_)
            · refine bc_iinc1 dX8_fewestTo_65 rfl (by decide) rfl ?_
              refine bc_goto (tgt := 6) dX8_fewestTo_68 (by decide) ?_
              exact skip (fun q => by rcases q.2 with q | q; exact h45 q; exact absurd q (by rw [bn_lt]; have z := h58; rw [bn_le] at z; omega))
            · refine bc_iload dX8_fewestTo_61 rfl ?_
              refine bc_istore dX8_fewestTo_63 (by decide) rfl ?_
              refine bc_iinc1 dX8_fewestTo_65 rfl (by decide) rfl ?_
              refine bc_goto (tgt := 6) dX8_fewestTo_68 (by decide) ?_
              exact take ⟨by rw [hP]; simp only [ho, Bool.true_and, decide_eq_true_eq]; exact h39, Or.inr (bn_nle h58)⟩
      · have ho : ¬ offB μ k = true := fun q => ho (offB_P.mpr q)
        refine bc_if_eq (tgt := 65) dX8_fewestTo_24 (by decide) (fun h24 => ?_) (fun h24 => absurd h24 (fun q => q rfl))
        refine bc_iinc1 dX8_fewestTo_65 rfl (by decide) rfl ?_
        refine bc_goto (tgt := 6) dX8_fewestTo_68 (by decide) ?_
        exact skip (fun q => by rw [hP] at q; simp only [Bool.and_eq_true] at q; exact ho q.1.1)
  refine bc_iconst (v := (-1)) dX8_fewestTo_0 (by decide) ?_
  refine bc_istore dX8_fewestTo_1 (by decide) rfl ?_
  refine bc_iconst (v := 0) dX8_fewestTo_3 (by decide) ?_
  refine bc_istore dX8_fewestTo_4 (by decide) rfl ?_
  exact loop (2 ^ no) 0 (by omega)
