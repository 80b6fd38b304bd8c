/-! BreadCity$Reach: water among the reeds -/
def w31 (W : Nat → Int32) (p : Int32) : Int32 := if 0 ≤ p.toInt ∧ p.toInt < (31 : Nat) then W p.toNatClampNeg else 0
def spM (W R : Nat → Int32) (y : Nat) : Int32 := W y ||| ((((W y <<< ((1 : Int32) &&& 31) ||| W y >>> ((1 : Int32) &&& 31)) ||| w31 W (nI y - 1)) ||| w31 W (nI y + 1)) &&& (R y ^^^ -1) &&& 2147483647)
def grM (W R : Nat → Int32) : Nat → Bool
  | 0 => false
  | y + 1 => grM W R y || decide (¬ spM W R y = W y)
theorem s_reeB {d : Nat} {L : bc_L} {μ : bc_M} {b k : Nat} (hb : bc_isB L b) (hk : k < 31) : bc_C (d + 1) L mX0_reedRow [.ref b, .int (nI k)] μ (fun r μ' => r = some (.int (μ (b + 7) k)) ∧ μ' = μ) := by
  have h := s_reedRow (d := d) (μ := μ) hb (nI k)
  rw [en_N hk (by decide)] at h
  exact h
theorem s_spreads {d : Nat} {μ : bc_M} : bc_C (d + 2) LC mX6_spreads [.ref 134] μ (fun r ν => r = some (.int (if grM (μ 135) (μ 10) 31 = true then 1 else 0)) ∧ (∀ i j, i ≠ 135 → i ≠ 136 → ν i j = μ i j) ∧ ∀ y, y < 31 → ν 135 y = spM (μ 135) (μ 10) y) := by
  refine bc_enter (by decide) (Nat.le_of_ble_eq_true rfl) rfl ?_
  have loop : ∀ (m y : Nat) (v w : Value) (ν : bc_M), y + m = 31 → v.category = 1 → (∀ i j, i ≠ 135 → i ≠ 136 → ν i j = μ i j) → (∀ j, j < 31 → ν 136 j = μ 135 j) → (∀ j, j < y → ν 135 j = spM (μ 135) (μ 10) j) → bc_W (d + 2) LC mX6_spreads 15 [.ref 134, .int (if grM (μ 135) (μ 10) y = true then 1 else 0), .int (nI y), v, w] [] ν (fun r ν => r = some (.int (if grM (μ 135) (μ 10) 31 = true then 1 else 0)) ∧ (∀ i j, i ≠ 135 → i ≠ 136 → ν i j = μ i j) ∧ ∀ y, y < 31 → ν 135 y = spM (μ 135) (μ 10) y) := by
    intro m
    induction m with
    | zero =>
      intro y v w ν hy hv q1 q2 q3
      have hy : y = 31 := by omega
      subst hy
      refine bc_iload_n dX6_spreads_15 rfl ?_
      refine bc_aload_n dX6_spreads_16 rfl ?_
      refine bc_getr dX6_spreads_17 fX6_9 (rfl) rfl ?_
      refine bc_len0 dX6_spreads_20 (rfl) ?_
      refine bc_icmp_ge (tgt := 114) dX6_spreads_21 (by decide) (fun h21 => ?_) (fun h21 => absurd h21 (fun q => q (Int32.le_refl _)))
      refine bc_iload_n dX6_spreads_114 rfl ?_
      exact bc_ireturn dX6_spreads_115 rfl (by split <;> rfl) (⟨rfl, q1, q3⟩)
    | succ m ih =>
      intro y v w ν hy hv q1 q2 q3
      have e0 : en ν 136 31 (nI y) = μ 135 y := by rw [en_N (by omega) (by decide)]; exact q2 y (by omega)
      have eW : ∀ p : Int32, en ν 136 31 p = w31 (μ 135) p := by
        intro p
        unfold en w31
        by_cases hp : 0 ≤ p.toInt ∧ p.toInt < (31 : Nat)
        · rw [if_pos hp, if_pos hp]
          exact q2 _ (by rw [bn_clamp]; omega)
        · rw [if_neg hp, if_neg hp]
      have er : ν 10 y = μ 10 y := q1 10 y (by omega) (by omega)
      have fin : ∀ (w : Value), bc_W (d + 2) LC mX6_spreads 15 [.ref 134, .int (if grM (μ 135) (μ 10) (y + 1) = true then 1 else 0), .int (nI y + 1), .int (μ 135 y), w] [] (bc_u ν 135 y (spM (μ 135) (μ 10) y)) (fun r ν => r = some (.int (if grM (μ 135) (μ 10) 31 = true then 1 else 0)) ∧ (∀ i j, i ≠ 135 → i ≠ 136 → ν i j = μ i j) ∧ ∀ y, y < 31 → ν 135 y = spM (μ 135) (μ 10) y) := by
        intro w
        rw [bn_add1]
        refine ih (y + 1) _ _ _ (by omega) rfl (fun i j a b => ?_) (fun j hj => ?_) (fun j hj => ?_)
        · rw [bc_u_r, if_neg (by omega)]; exact q1 i j a b
        · rw [bc_u_r, if_neg (by omega)]; exact q2 j hj
        · rw [bc_u_r]
          by_cases e : j = y
          · subst e; rw [if_pos ⟨rfl, rfl⟩]
          · rw [if_neg (by omega)]; exact q3 j (by omega)
      refine bc_iload_n dX6_spreads_15 rfl ?_
      refine bc_aload_n dX6_spreads_16 rfl ?_
      refine bc_getr dX6_spreads_17 fX6_9 (rfl) rfl ?_
      refine bc_len0 dX6_spreads_20 (rfl) ?_
      refine bc_icmp_ge (tgt := 114) dX6_spreads_21 (by decide) (fun h21 => absurd h21 (by rw [bn_leN (by omega) (by omega)]; omega)) (fun h21 => ?_)
      refine bc_aload_n dX6_spreads_24 rfl ?_
      refine bc_getr dX6_spreads_25 fX6_15 (rfl) rfl ?_
      refine bc_iload_n dX6_spreads_28 rfl ?_
      refine bc_callSN (z := mX9_entry) dX6_spreads_29 lX6_26 qX9_entry (by rfl) (by rfl) (Nat.le_of_ble_eq_true rfl) (s_entry (n := 31) rfl (by decide) _) (fun r29 μ29 e29 => ?_)
      obtain ⟨rfl, q29⟩ := e29
      obtain rfl := q29.symm
      rw [e0]
      refine bc_istore_n dX6_spreads_32 (by decide) rfl ?_
      refine bc_iload_n dX6_spreads_33 rfl ?_
      refine bc_iconst (v := 1) dX6_spreads_34 (by decide) ?_
      refine bc_ishl dX6_spreads_35 ?_
      refine bc_iload_n dX6_spreads_36 rfl ?_
      refine bc_iconst (v := 1) dX6_spreads_37 (by decide) ?_
      refine bc_ishr dX6_spreads_38 ?_
      refine bc_ior dX6_spreads_39 ?_
      refine bc_aload_n dX6_spreads_40 rfl ?_
      refine bc_getr dX6_spreads_41 fX6_15 (rfl) rfl ?_
      refine bc_iload_n dX6_spreads_44 rfl ?_
      refine bc_iconst (v := 1) dX6_spreads_45 (by decide) ?_
      refine bc_isub dX6_spreads_46 ?_
      refine bc_callSN (z := mX9_entry) dX6_spreads_47 lX6_26 qX9_entry (by rfl) (by rfl) (Nat.le_of_ble_eq_true rfl) (s_entry (n := 31) rfl (by decide) _) (fun r47 μ47 e47 => ?_)
      obtain ⟨rfl, q47⟩ := e47
      obtain rfl := q47.symm
      refine bc_ior dX6_spreads_50 ?_
      refine bc_aload_n dX6_spreads_51 rfl ?_
      refine bc_getr dX6_spreads_52 fX6_15 (rfl) rfl ?_
      refine bc_iload_n dX6_spreads_55 rfl ?_
      refine bc_iconst (v := 1) dX6_spreads_56 (by decide) ?_
      refine bc_iadd dX6_spreads_57 ?_
      refine bc_callSN (z := mX9_entry) dX6_spreads_58 lX6_26 qX9_entry (by rfl) (by rfl) (Nat.le_of_ble_eq_true rfl) (s_entry (n := 31) rfl (by decide) _) (fun r58 μ58 e58 => ?_)
      obtain ⟨rfl, q58⟩ := e58
      obtain rfl := q58.symm
      rw [eW, eW]
      refine bc_ior dX6_spreads_61 ?_
      refine bc_istore dX6_spreads_62 (by decide) rfl ?_
      refine bc_aload_n dX6_spreads_64 rfl ?_
      refine bc_getr dX6_spreads_65 fX6_9 (rfl) rfl ?_
      refine bc_iload_n dX6_spreads_68 rfl ?_
      refine bc_iload_n dX6_spreads_69 rfl ?_
      refine bc_iload dX6_spreads_70 rfl ?_
      refine bc_aload_n dX6_spreads_72 rfl ?_
      refine bc_getr dX6_spreads_73 fX6_18 (rfl) rfl ?_
      refine bc_iload_n dX6_spreads_76 rfl ?_
      refine bc_callV (z := mX0_reedRow) (ci := 0) dX6_spreads_77 lX6_38 qX0_reedRow (by rfl) (by rfl) (by rfl) (by rfl) (Nat.le_of_ble_eq_true rfl) (s_reeB LC_b3 (by omega)) (fun r77 μ77 e77 => ?_)
      obtain ⟨rfl, q77⟩ := e77
      obtain rfl := q77.symm
      refine bc_iconst (v := (-1)) dX6_spreads_80 (by decide) ?_
      refine bc_ixor dX6_spreads_81 ?_
      refine bc_iand dX6_spreads_82 ?_
      refine bc_ldc dX6_spreads_83 nX6_44 ?_
      refine bc_iand dX6_spreads_85 ?_
      refine bc_ior dX6_spreads_86 ?_
      rw [show ν (3 + 7) y = μ 10 y from er]
      refine bc_iastE dX6_spreads_87 (rfl) (rfl) (⟨by omega, by decide⟩) ?_
      refine bc_iload_n dX6_spreads_88 rfl ?_
      refine bc_if_ne (tgt := 102) dX6_spreads_89 (by decide) (fun h89 => ?_) (fun h89 => ?_)
      · refine bc_iconst (v := 1) dX6_spreads_102 (by decide) ?_
        refine bc_goto (tgt := 107) dX6_spreads_103 (by decide) ?_
        refine bc_istore_n dX6_spreads_107 (by decide) rfl ?_
        refine bc_iinc1 dX6_spreads_108 rfl (by decide) rfl ?_
        refine bc_goto (tgt := 15) dX6_spreads_111 (by decide) ?_
        have g1 : grM (μ 135) (μ 10) y = true := by
          by_cases g : grM (μ 135) (μ 10) y = true
          · exact g
          · exact absurd (if_neg g) h89
        have h2 := fin (.int (((μ 135 y <<< ((1 : Int32) &&& 31) ||| μ 135 y >>> ((1 : Int32) &&& 31)) ||| w31 (μ 135) (nI y - 1)) ||| w31 (μ 135) (nI y + 1)))
        rw [show grM (μ 135) (μ 10) (y + 1) = true by rw [grM, g1]; rfl, if_pos rfl] at h2
        exact h2
      · refine bc_aload_n dX6_spreads_92 rfl ?_
        refine bc_getr dX6_spreads_93 fX6_9 (rfl) rfl ?_
        refine bc_iload_n dX6_spreads_96 rfl ?_
        refine bc_ialdE dX6_spreads_97 (rfl) (rfl) (⟨by omega, by decide⟩) ?_
        refine bc_iload_n dX6_spreads_98 rfl ?_
        refine bc_icmp_eq (tgt := 106) dX6_spreads_99 (by decide) (fun h99 => ?_) (fun h99 => ?_)
        · refine bc_iconst (v := 0) dX6_spreads_106 (by decide) ?_
          refine bc_istore_n dX6_spreads_107 (by decide) rfl ?_
          refine bc_iinc1 dX6_spreads_108 rfl (by decide) rfl ?_
          refine bc_goto (tgt := 15) dX6_spreads_111 (by decide) ?_
          have h2 := fin (.int (((μ 135 y <<< ((1 : Int32) &&& 31) ||| μ 135 y >>> ((1 : Int32) &&& 31)) ||| w31 (μ 135) (nI y - 1)) ||| w31 (μ 135) (nI y + 1)))
          have h3 : spM (μ 135) (μ 10) y = μ 135 y := by rw [bc_u_r, if_pos ⟨rfl, rfl⟩] at h99; exact h99
          have g1 : ¬ grM (μ 135) (μ 10) y = true := fun g => by rw [if_pos g] at h89; exact absurd h89 (by decide)
          rw [if_neg (show ¬ grM (μ 135) (μ 10) (y + 1) = true by rw [grM]; simp [h3]; simpa using g1)] at h2
          exact h2
        · refine bc_iconst (v := 1) dX6_spreads_102 (by decide) ?_
          refine bc_goto (tgt := 107) dX6_spreads_103 (by decide) ?_
          refine bc_istore_n dX6_spreads_107 (by decide) rfl ?_
          refine bc_iinc1 dX6_spreads_108 rfl (by decide) rfl ?_
          refine bc_goto (tgt := 15) dX6_spreads_111 (by decide) ?_
          have h2 := fin (.int (((μ 135 y <<< ((1 : Int32) &&& 31) ||| μ 135 y >>> ((1 : Int32) &&& 31)) ||| w31 (μ 135) (nI y - 1)) ||| w31 (μ 135) (nI y + 1)))
          have h3 : ¬ spM (μ 135) (μ 10) y = μ 135 y := fun q => h99 (by rw [bc_u_r, if_pos ⟨rfl, rfl⟩]; exact q)
          rw [show grM (μ 135) (μ 10) (y + 1) = true by rw [grM]; simp [h3], if_pos rfl] at h2
          exact h2
  refine bc_aload_n dX6_spreads_0 rfl ?_
  refine bc_getr dX6_spreads_1 fX6_9 (rfl) rfl ?_
  refine bc_aload_n dX6_spreads_4 rfl ?_
  refine bc_getr dX6_spreads_5 fX6_15 (rfl) rfl ?_
  refine bc_callSN (z := mX9_copyRow) dX6_spreads_8 lX6_34 qX9_copyRow (by rfl) (by rfl) (Nat.le_of_ble_eq_true rfl) (s_copyRow (n := 31) (n' := 31) rfl rfl (by decide) (by decide)) (fun r8 μ8 e8 => ?_)
  obtain ⟨rfl, q8⟩ := e8
  obtain rfl := q8.symm
  refine bc_iconst (v := 0) dX6_spreads_11 (by decide) ?_
  refine bc_istore_n dX6_spreads_12 (by decide) rfl ?_
  refine bc_iconst (v := 0) dX6_spreads_13 (by decide) ?_
  refine bc_istore_n dX6_spreads_14 (by decide) rfl ?_
  refine loop 31 0 .null .null _ rfl rfl (fun i j a b => ?_) (fun j hj => ?_) (fun j hj => absurd hj (by omega))
  · rw [bc_us_r, if_neg b]
  · rw [bc_us_r, if_pos rfl, va_cpy, if_pos (by simp; exact hj)]; congr 1; omega
/-- the water behind n spreads -/
def wtM (R : Nat → Int32) (W : Nat → Int32) : Nat → Nat → Int32
  | 0 => W
  | n + 1 => fun y => if y < 31 then spM (wtM R W n) R y else 0
def srB (B : Nat → Bool) : Nat → Nat → Int32
  | 0, _ => -1
  | m + 1, k => if B k = true then nI k else srB B m (k + 1)
theorem srB_none {B : Nat → Bool} : ∀ (m k : Nat), (∀ j, k ≤ j → B j = false) → srB B m k = -1
  | 0, _, _ => rfl
  | m + 1, k, h => by rw [srB, if_neg (by rw [h k (Nat.le_refl k)]; decide)]; exact srB_none m (k + 1) (fun j hj => h j (by omega))
theorem spM_congr {W W' R : Nat → Int32} (h : ∀ y, y < 31 → W y = W' y) {y : Nat} (hy : y < 31) : spM W R y = spM W' R y := by
  have hw : ∀ p, w31 W p = w31 W' p := by
    intro p
    unfold w31
    by_cases hp : 0 ≤ p.toInt ∧ p.toInt < (31 : Nat)
    · rw [if_pos hp, if_pos hp]; exact h _ (by rw [bn_clamp]; omega)
    · rw [if_neg hp, if_neg hp]
  unfold spM
  rw [h y hy, hw, hw]
theorem grM_congr {W W' R : Nat → Int32} (h : ∀ y, y < 31 → W y = W' y) (k : Nat) (hk : k ≤ 31) : grM W R k = grM W' R k := by
  induction k with
  | zero => rfl
  | succ k ih => rw [grM, grM, ih (by omega), spM_congr h (by omega), h k (by omega)]
theorem grM_not {W R : Nat → Int32} : ∀ k, grM W R k = false → ∀ y, y < k → spM W R y = W y
  | 0, _, y, hy => absurd hy (by omega)
  | k + 1, h, y, hy => by
    rw [grM] at h
    simp at h
    by_cases e : y = k
    · subst e; exact h.2
    · exact grM_not k h.1 y (by omega)
theorem wtM_still {R W : Nat → Int32} {n : Nat} (h : ∀ y, y < 31 → spM (wtM R W n) R y = wtM R W n y) : ∀ m y, y < 31 → wtM R W (n + m) y = wtM R W n y
  | 0, _, _ => rfl
  | m + 1, y, hy => by
    rw [show n + (m + 1) = (n + m) + 1 by omega]
    show (if y < 31 then spM (wtM R W (n + m)) R y else 0) = _
    rw [if_pos hy, spM_congr (fun z hz => wtM_still h m z hz) hy]
    exact h y hy
/-- the cell tx, ty is wet behind n spreads -/
def wtB (R W : Nat → Int32) (tx ty : Nat) (n : Nat) : Bool := decide (wtM R W n ty >>> (nI tx &&& 31) &&& 1 = 1)
def st0 (x y : Nat) : Nat → Int32 := fun k => if k = y then 1 <<< (nI x &&& 31) else 0
theorem s_fewestCells {d : Nat} {μ : bc_M} {x y tx ty : Nat} (hy : y < 31) (hty : ty < 31) (hx : x < 31) (htx : tx < 31) : bc_C (d + 3) LC mX6_fewestCells [.ref 134, .int (nI x), .int (nI y), .int (nI tx), .int (nI ty)] μ (fun r ν => r = some (.int (srB (wtB (μ 10) (st0 x y) tx ty) 961 0)) ∧ (∀ i j, i ≠ 135 → i ≠ 136 → ν i j = μ i j)) := by
  refine bc_enter (by decide) (Nat.le_of_ble_eq_true rfl) rfl ?_
  have loop : ∀ (m k : Nat) (ν : bc_M), k + m = 961 → (∀ i j, i ≠ 135 → i ≠ 136 → ν i j = μ i j) → (∀ j, j < 31 → ν 135 j = wtM (μ 10) (st0 x y) k j) → bc_W (d + 3) LC mX6_fewestCells 45 [.ref 134, .int (nI x), .int (nI y), .int (nI tx), .int (nI ty), .int (nI 961), .int (nI k)] [] ν (fun r ν => r = some (.int (srB (wtB (μ 10) (st0 x y) tx ty) m k)) ∧ (∀ i j, i ≠ 135 → i ≠ 136 → ν i j = μ i j)) := by
    intro m
    induction m with
    | zero =>
      intro k ν hk q1 q2
      have hk : k = 961 := by omega
      subst hk
      refine bc_iload dX6_fewestCells_45 rfl ?_
      refine bc_iload dX6_fewestCells_47 rfl ?_
      refine bc_icmp_ge (tgt := 87) dX6_fewestCells_49 (by decide) (fun h49 => ?_) (fun h49 => absurd h49 (fun q => q (Int32.le_refl _)))
      refine bc_iconst (v := (-1)) dX6_fewestCells_87 (by decide) ?_
      exact bc_ireturn dX6_fewestCells_88 rfl rfl (⟨rfl, q1⟩)
    | succ m ih =>
      intro k ν hk q1 q2
      have eR : ν 10 = μ 10 := funext fun q => q1 10 q (by omega) (by omega)
      refine bc_iload dX6_fewestCells_45 rfl ?_
      refine bc_iload dX6_fewestCells_47 rfl ?_
      refine bc_icmp_ge (tgt := 87) dX6_fewestCells_49 (by decide) (fun h49 => absurd h49 (by rw [bn_leN (by omega) (by omega)]; omega)) (fun h49 => ?_)
      refine bc_aload_n dX6_fewestCells_52 rfl ?_
      refine bc_getr dX6_fewestCells_53 fX6_9 (rfl) rfl ?_
      refine bc_iload dX6_fewestCells_56 rfl ?_
      refine bc_callSN (z := mX9_entry) dX6_fewestCells_58 lX6_26 qX9_entry (by rfl) (by rfl) (Nat.le_of_ble_eq_true rfl) (s_entryN (n := 31) rfl (by decide) hty) (fun r58 μ58 e58 => ?_)
      obtain ⟨rfl, q58⟩ := e58
      obtain rfl := q58.symm
      rw [q2 ty hty]
      refine bc_iload_n dX6_fewestCells_61 rfl ?_
      refine bc_ishr dX6_fewestCells_62 ?_
      refine bc_iconst (v := 1) dX6_fewestCells_63 (by decide) ?_
      refine bc_iand dX6_fewestCells_64 ?_
      refine bc_iconst (v := 1) dX6_fewestCells_65 (by decide) ?_
      refine bc_icmp_ne (tgt := 72) dX6_fewestCells_66 (by decide) (fun h66 => ?_) (fun h66 => ?_)
      · refine bc_aload_n dX6_fewestCells_72 rfl ?_
        refine bc_callV (z := mX6_spreads) (ci := 6) dX6_fewestCells_73 lX6_30 qX6_spreads (by rfl) (by rfl) (by rfl) (by rfl) (Nat.le_of_ble_eq_true rfl) (s_spreads) (fun r73 μ73 e73 => ?_)
        obtain ⟨rfl, g1, g2⟩ := e73
        rw [eR, grM_congr q2 31 (Nat.le_refl _)]
        refine bc_if_ne (tgt := 81) dX6_fewestCells_76 (by decide) (fun h76 => ?_) (fun h76 => ?_)
        · refine bc_iinc1 dX6_fewestCells_81 rfl (by decide) rfl ?_
          refine bc_goto (tgt := 45) dX6_fewestCells_84 (by decide) ?_
          have hB : ¬ wtB (μ 10) (st0 x y) tx ty k = true := by unfold wtB; rw [decide_eq_true_iff]; exact h66
          have h2 := ih (k + 1) μ73 (by omega) (fun i j a b => (g1 i j a b).trans (q1 i j a b)) (fun j hj => by
            rw [g2 j hj, eR, spM_congr q2 hj]
            show _ = if j < 31 then _ else 0
            rw [if_pos hj])
          rw [bn_add1, srB, if_neg hB]
          exact h2
        · refine bc_iconst (v := (-1)) dX6_fewestCells_79 (by decide) ?_
          exact bc_ireturn dX6_fewestCells_80 rfl rfl (⟨by
  have hB : ¬ wtB (μ 10) (st0 x y) tx ty k = true := by unfold wtB; rw [decide_eq_true_iff]; exact h66
  have hg : grM (wtM (μ 10) (st0 x y) k) (μ 10) 31 = false := by
    cases h : grM (wtM (μ 10) (st0 x y) k) (μ 10) 31 with
    | false => rfl
    | true => rw [h] at h76; exact absurd h76 (by decide)
  have hst := wtM_still (n := k) (fun y hy => grM_not 31 hg y hy)
  rw [srB_none (m + 1) k (fun j hj => by
    have e : wtB (μ 10) (st0 x y) tx ty j = wtB (μ 10) (st0 x y) tx ty k := by
      unfold wtB
      rw [show j = k + (j - k) by omega, hst (j - k) ty hty]
    rw [e]
    simpa using hB)], fun i j a b => (g1 i j a b).trans (q1 i j a b)⟩)
      · refine bc_iload dX6_fewestCells_69 rfl ?_
        exact bc_ireturn dX6_fewestCells_71 rfl rfl (⟨by rw [srB, if_pos (by unfold wtB; rw [decide_eq_true_iff]; exact h66)], q1⟩)
  refine bc_aload_n dX6_fewestCells_0 rfl ?_
  refine bc_getr dX6_fewestCells_1 fX6_9 (rfl) rfl ?_
  refine bc_callSN (z := mX9_clearRow) dX6_fewestCells_4 lX6_22 qX9_clearRow (by rfl) (by rfl) (Nat.le_of_ble_eq_true rfl) (s_clearRow (n := 31) rfl (by decide)) (fun r4 μ4 e4 => ?_)
  obtain ⟨rfl, q4⟩ := e4
  obtain rfl := q4.symm
  refine bc_iload_n dX6_fewestCells_7 rfl ?_
  refine bc_if_lt (tgt := 29) dX6_fewestCells_8 (by decide) (fun h8 => absurd h8 (bn_nn (by omega))) (fun h8 => ?_)
  refine bc_iload_n dX6_fewestCells_11 rfl ?_
  refine bc_aload_n dX6_fewestCells_12 rfl ?_
  refine bc_getr dX6_fewestCells_13 fX6_9 (rfl) rfl ?_
  refine bc_len0 dX6_fewestCells_16 (rfl) ?_
  refine bc_icmp_ge (tgt := 29) dX6_fewestCells_17 (by decide) (fun h17 => absurd h17 (by rw [bn_leN (by omega) (by omega)]; omega)) (fun h17 => ?_)
  refine bc_aload_n dX6_fewestCells_20 rfl ?_
  refine bc_getr dX6_fewestCells_21 fX6_9 (rfl) rfl ?_
  refine bc_iload_n dX6_fewestCells_24 rfl ?_
  refine bc_iconst (v := 1) dX6_fewestCells_25 (by decide) ?_
  refine bc_iload_n dX6_fewestCells_26 rfl ?_
  refine bc_ishl dX6_fewestCells_27 ?_
  refine bc_iastE dX6_fewestCells_28 (rfl) (rfl) (⟨hy, by decide⟩) ?_
  refine bc_aload_n dX6_fewestCells_29 rfl ?_
  refine bc_getr dX6_fewestCells_30 fX6_9 (rfl) rfl ?_
  refine bc_len0 dX6_fewestCells_33 (rfl) ?_
  refine bc_aload_n dX6_fewestCells_34 rfl ?_
  refine bc_getr dX6_fewestCells_35 fX6_9 (rfl) rfl ?_
  refine bc_len0 dX6_fewestCells_38 (rfl) ?_
  refine bc_imul dX6_fewestCells_39 ?_
  refine bc_istore dX6_fewestCells_40 (by decide) rfl ?_
  refine bc_iconst (v := 0) dX6_fewestCells_42 (by decide) ?_
  refine bc_istore dX6_fewestCells_43 (by decide) rfl ?_
  refine loop 961 0 _ rfl (fun i j a b => ?_) (fun j hj => ?_)
  · rw [bc_u_r, if_neg (by omega), bc_us_r, if_neg a]
  · show _ = st0 x y j
    unfold st0
    rw [bc_u_r]
    by_cases e : j = y
    · subst e; rw [if_pos ⟨rfl, rfl⟩, if_pos rfl]
    · rw [if_neg (by omega), if_neg e, bc_us_r, if_pos rfl, clr, if_pos hj]
