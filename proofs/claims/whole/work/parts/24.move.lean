/-! BreadCity$City: hours -/
theorem s_litBits {d : Nat} {μ : bc_M} {c no : Nat} (hk0 : cok c) (hno : μ 3 1 = nI no) (hn8 : no ≤ 8) (h : Int32) : bc_C (d + 2) LC mX1_litBits [.ref c, .int h] μ (fun r μ' => r = some (.int (lbM (μ (c + 1)) h no)) ∧ μ' = μ) := by
  have hc := hk0.isC
  refine bc_enter (by decide) (Nat.le_of_ble_eq_true rfl) rfl ?_
  have loop : ∀ m k, k + m = no → bc_W (d + 2) LC mX1_litBits 4 [.ref c, .int h, .int (lbM (μ (c + 1)) h k), .int (nI k)] [] μ (fun r μ' => r = some (.int (lbM (μ (c + 1)) h no)) ∧ μ' = μ) := by
    intro m
    induction m with
    | zero =>
      intro k hk
      have hk : k = no := by omega
      subst hk
      refine bc_iload_n dX1_litBits_4 rfl ?_
      refine bc_aload_n dX1_litBits_5 rfl ?_
      refine bc_getr dX1_litBits_6 fX1_30 (hc.1) rfl ?_
      refine bc_geti dX1_litBits_9 fX1_89 (rfl) rfl ?_
      refine bc_icmp_ge (tgt := 36) dX1_litBits_12 (by decide) (fun h12 => ?_) (fun h12 => absurd h12 (fun q => q (by rw [hno]; exact Int32.le_refl _)))
      refine bc_iload_n dX1_litBits_36 rfl ?_
      exact bc_ireturn dX1_litBits_37 rfl rfl (⟨rfl, rfl⟩)
    | succ m ih =>
      intro k hk
      refine bc_iload_n dX1_litBits_4 rfl ?_
      refine bc_aload_n dX1_litBits_5 rfl ?_
      refine bc_getr dX1_litBits_6 fX1_30 (hc.1) rfl ?_
      refine bc_geti dX1_litBits_9 fX1_89 (rfl) rfl ?_
      refine bc_icmp_ge (tgt := 36) dX1_litBits_12 (by decide) (fun h12 => absurd h12 (by rw [hno, bn_leN (by omega) (by omega)]; omega)) (fun h12 => ?_)
      refine bc_aload_n dX1_litBits_15 rfl ?_
      refine bc_iload_n dX1_litBits_16 rfl ?_
      refine bc_callV (z := mX1_hoursLeftOf) (ci := 1) dX1_litBits_17 lX1_92 qX1_hoursLeftOf (hc.1) (by rfl) (by rfl) (by rfl) (Nat.le_of_ble_eq_true rfl) (s_hoursLeftOf hc (nI k)) (fun r17 μ17 e17 => ?_)
      obtain ⟨rfl, q17⟩ := e17
      obtain rfl := q17.symm
      rw [en_N (by omega) (by decide)]
      refine bc_iload_n dX1_litBits_20 rfl ?_
      refine bc_icmp_le (tgt := 30) dX1_litBits_21 (by decide) (fun h21 => ?_) (fun h21 => ?_)
      · refine bc_iinc1 dX1_litBits_30 rfl (by decide) rfl ?_
        refine bc_goto (tgt := 4) dX1_litBits_33 (by decide) ?_
        have h2 := ih (k + 1) (by omega)
        have h3 : ¬ h < μ (c + 1) k := by have q : μ (c + 1) k ≤ h := h21; rw [bn_lt]; rw [bn_le] at q; omega
        rw [show lbM (μ (c + 1)) h (k + 1) = lbM (μ (c + 1)) h k by simp [lbM, h3]] at h2
        rw [bn_add1]
        exact h2
      · refine bc_iload_n dX1_litBits_24 rfl ?_
        refine bc_iconst (v := 1) dX1_litBits_25 (by decide) ?_
        refine bc_iload_n dX1_litBits_26 rfl ?_
        refine bc_ishl dX1_litBits_27 ?_
        refine bc_ior dX1_litBits_28 ?_
        refine bc_istore_n dX1_litBits_29 (by decide) rfl ?_
        refine bc_iinc1 dX1_litBits_30 rfl (by decide) rfl ?_
        refine bc_goto (tgt := 4) dX1_litBits_33 (by decide) ?_
        have h2 := ih (k + 1) (by omega)
        have h3 : h < μ (c + 1) k := bn_nle h21
        rw [show lbM (μ (c + 1)) h (k + 1) = lbM (μ (c + 1)) h k ||| 1 <<< (nI k &&& 31) by simp [lbM, h3]] at h2
        rw [bn_add1]
        exact h2
  refine bc_iconst (v := 0) dX1_litBits_0 (by decide) ?_
  refine bc_istore_n dX1_litBits_1 (by decide) rfl ?_
  refine bc_iconst (v := 0) dX1_litBits_2 (by decide) ?_
  refine bc_istore_n dX1_litBits_3 (by decide) rfl ?_
  exact loop no 0 (by omega)
theorem s_coolBits {d : Nat} {μ : bc_M} {c no : Nat} (hk0 : cok c) (hno : μ 3 1 = nI no) (hn8 : no ≤ 8) : bc_C (d + 3) LC mX1_coolBits [.ref c] μ (fun r μ' => r = some (.int ((1 <<< (nI no &&& 31) - 1) &&& (lbM (μ (c + 1)) 0 no ^^^ -1))) ∧ μ' = μ) := by
  have hc := hk0.isC
  refine bc_enter (by decide) (Nat.le_of_ble_eq_true rfl) rfl ?_
  refine bc_aload_n dX1_coolBits_0 rfl ?_
  refine bc_getr dX1_coolBits_1 fX1_30 (hc.1) rfl ?_
  refine bc_callV (z := mX0_ovenSets) (ci := 0) dX1_coolBits_4 lX1_96 qX0_ovenSets (by rfl) (by rfl) (by rfl) (by rfl) (Nat.le_of_ble_eq_true rfl) (s_ovenSets LC_b3) (fun r4 μ4 e4 => ?_)
  obtain ⟨rfl, q4⟩ := e4
  obtain rfl := q4.symm
  rw [hno]
  refine bc_iconst (v := 1) dX1_coolBits_7 (by decide) ?_
  refine bc_isub dX1_coolBits_8 ?_
  refine bc_aload_n dX1_coolBits_9 rfl ?_
  refine bc_iconst (v := 0) dX1_coolBits_10 (by decide) ?_
  refine bc_callV (z := mX1_litBits) (ci := 1) dX1_coolBits_11 lX1_100 qX1_litBits (hc.1) (by rfl) (by rfl) (by rfl) (Nat.le_of_ble_eq_true rfl) (s_litBits hk0 hno hn8 0) (fun r11 μ11 e11 => ?_)
  obtain ⟨rfl, q11⟩ := e11
  obtain rfl := q11.symm
  refine bc_iconst (v := (-1)) dX1_coolBits_14 (by decide) ?_
  refine bc_ixor dX1_coolBits_15 ?_
  refine bc_iand dX1_coolBits_16 ?_
  exact bc_ireturn dX1_coolBits_17 rfl rfl (⟨rfl, rfl⟩)
/-- a cell that is open -/
def opB (μ : bc_M) (x y : Int32) : Bool := decide (0 ≤ x ∧ x ≤ 30 ∧ 0 ≤ y ∧ y ≤ 30 ∧ en μ 10 31 y >>> (x &&& 31) &&& 1 = 0)
/-- cell by cell: x, y, how often aground -/
def goM (O : Int32 → Int32 → Bool) (wx wy : Int32) : Nat → Int32 × Int32 × Int32 → Int32 × Int32 × Int32
  | 0, s => s
  | m + 1, s => if O (s.1 + wx) (s.2.1 + wy) = true then goM O wx wy m (s.1 + wx, s.2.1 + wy, s.2.2) else (s.1, s.2.1, s.2.2 + 1)
/-- nothing but where it lies has changed -/
def xyS (c : Nat) (μ ν : bc_M) : Prop := ∀ i k, ¬ (i = c ∧ (k = 2 ∨ k = 3 ∨ k = 6)) → ν i k = μ i k
theorem xyS.rf (c : Nat) (μ : bc_M) : xyS c μ μ := fun _ _ _ => rfl
theorem xyS.tr {c : Nat} {μ ν ξ : bc_M} (h : xyS c μ ν) (h2 : xyS c ν ξ) : xyS c μ ξ := fun i k q => (h2 i k q).trans (h i k q)
theorem xyS.u {c : Nat} {μ ν : bc_M} (h : xyS c μ ν) {k : Nat} (v : Int32) (hk : k = 2 ∨ k = 3 ∨ k = 6) : xyS c μ (bc_u ν c k v) := by
  intro a b hn
  rw [bc_u_r, if_neg (fun q => hn (by rw [q.1, q.2]; exact ⟨rfl, hk⟩))]
  exact h a b hn
theorem xyS.op {c : Nat} {μ ν : bc_M} (hc : cok c) (h : xyS c μ ν) (x y : Int32) : opB ν x y = opB μ x y := by
  unfold opB
  rw [show en ν 10 31 y = en μ 10 31 y by
    unfold en
    rw [h 10 _ (by rcases hc with rfl | rfl <;> omega)]]
theorem opB_opn {μ : bc_M} {x y : Int32} : opn μ 3 x y ↔ opB μ x y = true := by
  unfold opn opB
  rw [decide_eq_true_iff]
def xya (c : Nat) (μ : bc_M) : Int32 × Int32 × Int32 := (μ c 2, μ c 3, μ c 6)
theorem s_go {d : Nat} {μ : bc_M} {c n : Nat} (hk0 : cok c) (hn : n < 1000) (wx wy : Int32) : bc_C (d + 2) LC mX1_go [.ref c, .int wx, .int wy, .int (nI n)] μ (fun r ν => r = none ∧ xyS c μ ν ∧ xya c ν = goM (opB μ) wx wy n (xya c μ)) := by
  have hc := hk0.isC
  refine bc_enter (by decide) (Nat.le_of_ble_eq_true rfl) rfl ?_
  have loop : ∀ m k ν, k + m = n → xyS c μ ν → bc_W (d + 2) LC mX1_go 3 [.ref c, .int wx, .int wy, .int (nI n), .int (nI k)] [] ν (fun r ξ => r = none ∧ xyS c μ ξ ∧ xya c ξ = goM (opB μ) wx wy m (xya c ν)) := by
    intro m
    induction m with
    | zero =>
      intro k ν hk hν
      have hk : k = n := by omega
      subst hk
      refine bc_iload dX1_go_3 rfl ?_
      refine bc_iload_n dX1_go_5 rfl ?_
      refine bc_icmp_ge (tgt := 68) dX1_go_6 (by decide) (fun h6 => ?_) (fun h6 => absurd h6 (fun q => q (Int32.le_refl _)))
      exact bc_return dX1_go_68 rfl (⟨rfl, hν, rfl⟩)
    | succ m ih =>
      intro k ν hk hν
      refine bc_iload dX1_go_3 rfl ?_
      refine bc_iload_n dX1_go_5 rfl ?_
      refine bc_icmp_ge (tgt := 68) dX1_go_6 (by decide) (fun h6 => absurd h6 (by rw [bn_leN (by omega) (by omega)]; omega)) (fun h6 => ?_)
      refine bc_aload_n dX1_go_9 rfl ?_
      refine bc_getr dX1_go_10 fX1_30 (hc.1) rfl ?_
      refine bc_aload_n dX1_go_13 rfl ?_
      refine bc_geti dX1_go_14 fX1_47 (hc.1) rfl ?_
      refine bc_iload_n dX1_go_17 rfl ?_
      refine bc_iadd dX1_go_18 ?_
      refine bc_aload_n dX1_go_19 rfl ?_
      refine bc_geti dX1_go_20 fX1_53 (hc.1) rfl ?_
      refine bc_iload_n dX1_go_23 rfl ?_
      refine bc_iadd dX1_go_24 ?_
      refine bc_callV (z := mX0_isOpen) (ci := 0) dX1_go_25 lX1_181 qX0_isOpen (by rfl) (by rfl) (by rfl) (by rfl) (Nat.le_of_ble_eq_true rfl) (s_isOpen LC_b3 _ _) (fun r25 μ25 e25 => ?_)
      obtain ⟨ho, q25⟩ := e25
      obtain rfl := q25.symm
      rcases ho with ⟨ho, rfl⟩ | ⟨ho, rfl⟩
      rotate_left
      · have ho2 : ¬ opB μ (ν c 2 + wx) (ν c 3 + wy) = true := fun q => ho (opB_opn.mpr ((hν.op hk0 _ _).trans q))
        refine bc_if_ne (tgt := 42) dX1_go_28 (by decide) (fun h28 => absurd h28 (fun q => q rfl)) (fun h28 => ?_)
        refine bc_aload_n dX1_go_31 rfl ?_
        refine bc_dup dX1_go_32 rfl ?_
        refine bc_geti dX1_go_33 fX1_65 (hc.1) rfl ?_
        refine bc_iconst (v := 1) dX1_go_36 (by decide) ?_
        refine bc_iadd dX1_go_37 ?_
        refine bc_put dX1_go_38 fX1_65 ftX1 fpX1_6 rfl rfl (hc.1) rfl ?_
        exact bc_return dX1_go_41 rfl (⟨rfl, hν.u _ (by omega), by simp only [goM, xya, ho2]; simp [bc_u_r]⟩)
      · have ho2 : opB μ (ν c 2 + wx) (ν c 3 + wy) = true := (hν.op hk0 _ _).symm.trans (opB_opn.mp ho)
        refine bc_if_ne (tgt := 42) dX1_go_28 (by decide) (fun h28 => ?_) (fun h28 => absurd h28 (fun q => absurd q (by decide)))
        refine bc_aload_n dX1_go_42 rfl ?_
        refine bc_dup dX1_go_43 rfl ?_
        refine bc_geti dX1_go_44 fX1_47 (hc.1) rfl ?_
        refine bc_iload_n dX1_go_47 rfl ?_
        refine bc_iadd dX1_go_48 ?_
        refine bc_put dX1_go_49 fX1_47 ftX1 fpX1_2 rfl rfl (hc.1) rfl ?_
        refine bc_aload_n dX1_go_52 rfl ?_
        refine bc_dup dX1_go_53 rfl ?_
        refine bc_geti dX1_go_54 fX1_53 (hc.1) rfl ?_
        refine bc_iload_n dX1_go_57 rfl ?_
        refine bc_iadd dX1_go_58 ?_
        refine bc_put dX1_go_59 fX1_53 ftX1 fpX1_3 rfl rfl (hc.1) rfl ?_
        refine bc_iinc1 dX1_go_62 rfl (by decide) rfl ?_
        refine bc_goto (tgt := 3) dX1_go_65 (by decide) ?_
        have h2 := ih (k + 1) (bc_u (bc_u ν c 2 (ν c 2 + wx)) c 3 (ν c 3 + wy)) (by omega) ((hν.u _ (by omega)).u _ (by omega))
        rw [bn_add1, show bc_u ν c 2 (ν c 2 + wx) c 3 = ν c 3 by rw [bc_u_r, if_neg (by omega)]]
        have e : xya c (bc_u (bc_u ν c 2 (ν c 2 + wx)) c 3 (ν c 3 + wy)) = (ν c 2 + wx, ν c 3 + wy, ν c 6) := by simp [xya, bc_u_r]
        rw [e] at h2
        simp only [goM, xya, ho2, if_true]
        exact h2
  refine bc_iconst (v := 0) dX1_go_0 (by decide) ?_
  refine bc_istore dX1_go_1 (by decide) rfl ?_
  exact loop n 0 μ (by omega) (xyS.rf c μ)
