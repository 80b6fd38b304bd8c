/-! BreadCity$City: hours -/
theorem s_litBits {d : Nat} {μ : bc_M} {c no : Nat} (hk0 : cok c) (hno : μ 3 1 = nI no) (hn8 : no ≤ 8) (h : Int32) : bc_C (d + 2) LC mX1_litBits [.ref c, .int h] μ (fun r μ' => r = some (.int (lbM (μ (c + 1)) h no)) ∧ μ' = μ) := by
  have hc := hk0.isC
  refine bc_enter (by decide) (Nat.le_of_ble_eq_true rfl) rfl ?_
  have loop : ∀ m k, k + m = no → bc_W (d + 2) LC mX1_litBits 4 [.ref c, .int h, .int (lbM (μ (c + 1)) h k), .int (nI k)] [] μ (fun r μ' => r = some (.int (lbM (μ (c + 1)) h no)) ∧ μ' = μ) := by
    intro m
    induction m with
    | zero =>
      intro k hk
      have hk : k = no := by omega
      subst hk
      refine bc_iload_n dX1_litBits_4 rfl ?_
      refine bc_aload_n dX1_litBits_5 rfl ?_
      refine bc_getr dX1_litBits_6 fX1_30 (hc.1) rfl ?_
      refine bc_geti dX1_litBits_9 fX1_89 (rfl) rfl ?_
      refine bc_icmp_ge (tgt := 36) dX1_litBits_12 (by decide) (fun h12 => ?_) (fun h12 => absurd h12 (fun q => q (by rw [hno]; exact Int32.le_refl _)))
      refine bc_iload_n dX1_litBits_36 rfl ?_
      exact bc_ireturn dX1_litBits_37 rfl rfl (⟨rfl, rfl⟩)
    | succ m ih =>
      intro k hk
      refine bc_iload_n dX1_litBits_4 rfl ?_
      refine bc_aload_n dX1_litBits_5 rfl ?_
      refine bc_getr dX1_litBits_6 fX1_30 (hc.1) rfl ?_
      refine bc_geti dX1_litBits_9 fX1_89 (rfl) rfl ?_
      refine bc_icmp_ge (tgt := 36) dX1_litBits_12 (by decide) (fun h12 => absurd h12 (by rw [hno, bn_leN (by omega) (by omega)]; omega)) (fun h12 => ?_)
      refine bc_aload_n dX1_litBits_15 rfl ?_
      refine bc_iload_n dX1_litBits_16 rfl ?_
      refine bc_callV (z := mX1_hoursLeftOf) (ci := 1) dX1_litBits_17 lX1_92 qX1_hoursLeftOf (hc.1) (by rfl) (by rfl) (by rfl) (Nat.le_of_ble_eq_true rfl) (s_hoursLeftOf hc (nI k)) (fun r17 μ17 e17 => ?_)
      obtain ⟨rfl, q17⟩ := e17
      obtain rfl := q17.symm
      rw [en_N (by omega) (by decide)]
      refine bc_iload_n dX1_litBits_20 rfl ?_
      refine bc_icmp_le (tgt := 30) dX1_litBits_21 (by decide) (fun h21 => ?_) (fun h21 => ?_)
      · refine bc_iinc1 dX1_litBits_30 rfl (by decide) rfl ?_
        refine bc_goto (tgt := 4) dX1_litBits_33 (by decide) ?_
        have h2 := ih (k + 1) (by omega)
        have h3 : ¬ h < μ (c + 1) k := by have q : μ (c + 1) k ≤ h := h21; rw [bn_lt]; rw [bn_le] at q; omega
        rw [show lbM (μ (c + 1)) h (k + 1) = lbM (μ (c + 1)) h k by simp [lbM, h3]] at h2
        rw [bn_add1]
        exact h2
      · refine bc_iload_n dX1_litBits_24 rfl ?_
        refine bc_iconst (v := 1) dX1_litBits_25 (by decide) ?_
        refine bc_iload_n dX1_litBits_26 rfl ?_
        refine bc_ishl dX1_litBits_27 ?_
        refine bc_ior dX1_litBits_28 ?_
        refine bc_istore_n dX1_litBits_29 (by decide) rfl ?_
        refine bc_iinc1 dX1_litBits_30 rfl (by decide) rfl ?_
        refine bc_goto (tgt := 4) dX1_litBits_33 (by decide) ?_
        have h2 := ih (k + 1) (by omega)
        have h3 : h < μ (c + 1) k := bn_nle h21
        rw [show lbM (μ (c + 1)) h (k + 1) = lbM (μ (c + 1)) h k ||| 1 <<< (nI k &&& 31) by simp [lbM, h3]] at h2
        rw [bn_add1]
        exact h2
  refine bc_iconst (v := 0) dX1_litBits_0 (by decide) ?_
  refine bc_istore_n dX1_litBits_1 (by decide) rfl ?_
  refine bc_iconst (v := 0) dX1_litBits_2 (by decide) ?_
  refine bc_istore_n dX1_litBits_3 (by decide) rfl ?_
  exact loop no 0 (by omega)
theorem s_coolBits {d : Nat} {μ : bc_M} {c no : Nat} (hk0 : cok c) (hno : μ 3 1 = nI no) (hn8 : no ≤ 8) : bc_C (d + 3) LC mX1_coolBits [.ref c] μ (fun r μ' => r = some (.int ((1 <<< (nI no &&& 31) - 1) &&& (lbM (μ (c + 1)) 0 no ^^^ -1))) ∧ μ' = μ) := by
  have hc := hk0.isC
  refine bc_enter (by decide) (Nat.le_of_ble_eq_true rfl) rfl ?_
  refine bc_aload_n dX1_coolBits_0 rfl ?_
  refine bc_getr dX1_coolBits_1 fX1_30 (hc.1) rfl ?_
  refine bc_callV (z := mX0_ovenSets) (ci := 0) dX1_coolBits_4 lX1_96 qX0_ovenSets (by rfl) (by rfl) (by rfl) (by rfl) (Nat.le_of_ble_eq_true rfl) (s_ovenSets LC_b3) (fun r4 μ4 e4 => ?_)
  obtain ⟨rfl, q4⟩ := e4
  obtain rfl := q4.symm
  rw [hno]
  refine bc_iconst (v := 1) dX1_coolBits_7 (by decide) ?_
  refine bc_isub dX1_coolBits_8 ?_
  refine bc_aload_n dX1_coolBits_9 rfl ?_
  refine bc_iconst (v := 0) dX1_coolBits_10 (by decide) ?_
  refine bc_callV (z := mX1_litBits) (ci := 1) dX1_coolBits_11 lX1_100 qX1_litBits (hc.1) (by rfl) (by rfl) (by rfl) (Nat.le_of_ble_eq_true rfl) (s_litBits hk0 hno hn8 0) (fun r11 μ11 e11 => ?_)
  obtain ⟨rfl, q11⟩ := e11
  obtain rfl := q11.symm
  refine bc_iconst (v := (-1)) dX1_coolBits_14 (by decide) ?_
  refine bc_ixor dX1_coolBits_15 ?_
  refine bc_iand dX1_coolBits_16 ?_
  exact bc_ireturn dX1_coolBits_17 rfl rfl (⟨rfl, rfl⟩)
/-- a cell that is open -/
def opB (μ : bc_M) (x y : Int32) : Bool := decide (0 ≤ x ∧ x ≤ 30 ∧ 0 ≤ y ∧ y ≤ 30 ∧ en μ 10 31 y >>> (x &&& 31) &&& 1 = 0)
/-- cell by cell: x, y, how often aground -/
def goM (O : Int32 → Int32 → Bool) (wx wy : Int32) : Nat → Int32 × Int32 × Int32 → Int32 × Int32 × Int32
  | 0, s => s
  | m + 1, s => if O (s.1 + wx) (s.2.1 + wy) = true then goM O wx wy m (s.1 + wx, s.2.1 + wy, s.2.2) else (s.1, s.2.1, s.2.2 + 1)
/-- nothing but where it lies has changed -/
def xyS (c : Nat) (μ ν : bc_M) : Prop := ∀ i k, ¬ (i = c ∧ (k = 2 ∨ k = 3 ∨ k = 6)) → ν i k = μ i k
theorem xyS.rf (c : Nat) (μ : bc_M) : xyS c μ μ := fun _ _ _ => rfl
theorem xyS.tr {c : Nat} {μ ν ξ : bc_M} (h : xyS c μ ν) (h2 : xyS c ν ξ) : xyS c μ ξ := fun i k q => (h2 i k q).trans (h i k q)
theorem xyS.u {c : Nat} {μ ν : bc_M} (h : xyS c μ ν) {k : Nat} (v : Int32) (hk : k = 2 ∨ k = 3 ∨ k = 6) : xyS c μ (bc_u ν c k v) := by
  intro a b hn
  rw [bc_u_r, if_neg (fun q => hn (by rw [q.1, q.2]; exact ⟨rfl, hk⟩))]
  exact h a b hn
theorem xyS.op {c : Nat} {μ ν : bc_M} (hc : cok c) (h : xyS c μ ν) (x y : Int32) : opB ν x y = opB μ x y := by
  unfold opB
  rw [show en ν 10 31 y = en μ 10 31 y by
    unfold en
    rw [h 10 _ (by rcases hc with rfl | rfl <;> omega)]]
theorem opB_opn {μ : bc_M} {x y : Int32} : opn μ 3 x y ↔ opB μ x y = true := by
  unfold opn opB
  rw [decide_eq_true_iff]
def xya (c : Nat) (μ : bc_M) : Int32 × Int32 × Int32 := (μ c 2, μ c 3, μ c 6)
theorem s_go {d : Nat} {μ : bc_M} {c n : Nat} (hk0 : cok c) (hn : n < 1000) (wx wy : Int32) : bc_C (d + 2) LC mX1_go [.ref c, .int wx, .int wy, .int (nI n)] μ (fun r ν => r = none ∧ xyS c μ ν ∧ xya c ν = goM (opB μ) wx wy n (xya c μ)) := by
  have hc := hk0.isC
  refine bc_enter (by decide) (Nat.le_of_ble_eq_true rfl) rfl ?_
  have loop : ∀ m k ν, k + m = n → xyS c μ ν → bc_W (d + 2) LC mX1_go 3 [.ref c, .int wx, .int wy, .int (nI n), .int (nI k)] [] ν (fun r ξ => r = none ∧ xyS c μ ξ ∧ xya c ξ = goM (opB μ) wx wy m (xya c ν)) := by
    intro m
    induction m with
    | zero =>
      intro k ν hk hν
      have hk : k = n := by omega
      subst hk
      refine bc_iload dX1_go_3 rfl ?_
      refine bc_iload_n dX1_go_5 rfl ?_
      refine bc_icmp_ge (tgt := 68) dX1_go_6 (by decide) (fun h6 => ?_) (fun h6 => absurd h6 (fun q => q (Int32.le_refl _)))
      exact bc_return dX1_go_68 rfl (⟨rfl, hν, rfl⟩)
    | succ m ih =>
      intro k ν hk hν
      refine bc_iload dX1_go_3 rfl ?_
      refine bc_iload_n dX1_go_5 rfl ?_
      refine bc_icmp_ge (tgt := 68) dX1_go_6 (by decide) (fun h6 => absurd h6 (by rw [bn_leN (by omega) (by omega)]; omega)) (fun h6 => ?_)
      refine bc_aload_n dX1_go_9 rfl ?_
      refine bc_getr dX1_go_10 fX1_30 (hc.1) rfl ?_
      refine bc_aload_n dX1_go_13 rfl ?_
      refine bc_geti dX1_go_14 fX1_47 (hc.1) rfl ?_
      refine bc_iload_n dX1_go_17 rfl ?_
      refine bc_iadd dX1_go_18 ?_
      refine bc_aload_n dX1_go_19 rfl ?_
      refine bc_geti dX1_go_20 fX1_53 (hc.1) rfl ?_
      refine bc_iload_n dX1_go_23 rfl ?_
      refine bc_iadd dX1_go_24 ?_
      refine bc_callV (z := mX0_isOpen) (ci := 0) dX1_go_25 lX1_181 qX0_isOpen (by rfl) (by rfl) (by rfl) (by rfl) (Nat.le_of_ble_eq_true rfl) (s_isOpen LC_b3 _ _) (fun r25 μ25 e25 => ?_)
      obtain ⟨ho, q25⟩ := e25
      obtain rfl := q25.symm
      rcases ho with ⟨ho, rfl⟩ | ⟨ho, rfl⟩
      rotate_left
      · have ho2 : ¬ opB μ (ν c 2 + wx) (ν c 3 + wy) = true := fun q => ho (opB_opn.mpr ((hν.op hk0 _ _).trans q))
        refine bc_if_ne (tgt := 42) dX1_go_28 (by decide) (fun h28 => absurd h28 (fun q => q rfl)) (fun h28 => ?_)
        refine bc_aload_n dX1_go_31 rfl ?_
        refine bc_dup dX1_go_32 rfl ?_
        refine bc_geti dX1_go_33 fX1_65 (hc.1) rfl ?_
        refine bc_iconst (v := 1) dX1_go_36 (by decide) ?_
        refine bc_iadd dX1_go_37 ?_
        refine bc_put dX1_go_38 fX1_65 ftX1 fpX1_6 rfl rfl (hc.1) rfl ?_
        exact bc_return dX1_go_41 rfl (⟨rfl, hν.u _ (by omega), by simp only [goM, xya, ho2]; simp [bc_u_r]⟩)
      · have ho2 : opB μ (ν c 2 + wx) (ν c 3 + wy) = true := (hν.op hk0 _ _).symm.trans (opB_opn.mp ho)
        refine bc_if_ne (tgt := 42) dX1_go_28 (by decide) (fun h28 => ?_) (fun h28 => absurd h28 (fun q => absurd q (by decide)))
        refine bc_aload_n dX1_go_42 rfl ?_
        refine bc_dup dX1_go_43 rfl ?_
        refine bc_geti dX1_go_44 fX1_47 (hc.1) rfl ?_
        refine bc_iload_n dX1_go_47 rfl ?_
        refine bc_iadd dX1_go_48 ?_
        refine bc_put dX1_go_49 fX1_47 ftX1 fpX1_2 rfl rfl (hc.1) rfl ?_
        refine bc_aload_n dX1_go_52 rfl ?_
        refine bc_dup dX1_go_53 rfl ?_
        refine bc_geti dX1_go_54 fX1_53 (hc.1) rfl ?_
        refine bc_iload_n dX1_go_57 rfl ?_
        refine bc_iadd dX1_go_58 ?_
        refine bc_put dX1_go_59 fX1_53 ftX1 fpX1_3 rfl rfl (hc.1) rfl ?_
        refine bc_iinc1 dX1_go_62 rfl (by decide) rfl ?_
        refine bc_goto (tgt := 3) dX1_go_65 (by decide) ?_
        have h2 := ih (k + 1) (bc_u (bc_u ν c 2 (ν c 2 + wx)) c 3 (ν c 3 + wy)) (by omega) ((hν.u _ (by omega)).u _ (by omega))
        rw [bn_add1, show bc_u ν c 2 (ν c 2 + wx) c 3 = ν c 3 by rw [bc_u_r, if_neg (by omega)]]
        have e : xya c (bc_u (bc_u ν c 2 (ν c 2 + wx)) c 3 (ν c 3 + wy)) = (ν c 2 + wx, ν c 3 + wy, ν c 6) := by simp [xya, bc_u_r]
        rw [e] at h2
        simp only [goM, xya, ho2, if_true]
        exact h2
  refine bc_iconst (v := 0) dX1_go_0 (by decide) ?_
  refine bc_istore dX1_go_1 (by decide) rfl ?_
  exact loop n 0 μ (by omega) (xyS.rf c μ)
def sg1 (v : Int32) : Int32 := if 0 ≤ v then 1 else -1
def ab (v : Int32) : Nat := v.toInt.natAbs
def mvM (O : Int32 → Int32 → Bool) (e n : Int32) (s : Int32 × Int32 × Int32) : Int32 × Int32 × Int32 := goM O 0 (sg1 n) (ab n) (goM O (sg1 e) 0 (ab e) s)
def in3 (v : Int32) : Prop := -3 ≤ v.toInt ∧ v.toInt ≤ 3
theorem in3.abs {v : Int32} (h : in3 v) : (if 0 ≤ v then v else 0 - v) = nI (ab v) := by
  unfold in3 at h
  unfold ab
  rw [bn_eq, bn_ti (by omega)]
  by_cases h0 : 0 ≤ v
  · rw [if_pos h0]
    rw [bn_le, bn_0] at h0
    omega
  · rw [if_neg h0, Int32.toInt_sub, bn_0]
    rw [bn_le, bn_0] at h0
    rw [Int.bmod_eq_of_le (by omega) (by omega)]
    omega
theorem pc3_in (v : Int32) : in3 (pc3 v) := by
  unfold pc3 in3
  have e1 : (-3 : Int32).toInt = -3 := rfl
  have e2 : (3 : Int32).toInt = 3 := rfl
  by_cases h1 : v < 3
  · rw [if_pos h1]
    by_cases h2 : -3 < v
    · rw [if_pos h2]
      rw [bn_lt, e2] at h1
      rw [bn_lt, e1] at h2
      omega
    · rw [if_neg h2]; decide
  · rw [if_neg h1, if_pos (by decide)]; decide
theorem s_move {d : Nat} {μ : bc_M} {c : Nat} (hk0 : cok c) (he : in3 (μ c 15)) (hn : in3 (μ c 16)) : bc_C (d + 3) LC mX1_move [.ref c] μ (fun r ν => r = none ∧ xyS c μ ν ∧ xya c ν = mvM (opB μ) (μ c 15) (μ c 16) (xya c μ)) := by
  have hc := hk0.isC
  have a1 : ab (μ c 15) < 1000 := by unfold ab; unfold in3 at he; omega
  have a2 : ab (μ c 16) < 1000 := by unfold ab; unfold in3 at hn; omega
  refine bc_enter (by decide) (Nat.le_of_ble_eq_true rfl) rfl ?_
  have second : ∀ ν, xyS c μ ν → xya c ν = goM (opB μ) (sg1 (μ c 15)) 0 (ab (μ c 15)) (xya c μ) → bc_W (d + 3) LC mX1_move 24 [.ref c] [] ν (fun r ν => r = none ∧ xyS c μ ν ∧ xya c ν = mvM (opB μ) (μ c 15) (μ c 16) (xya c μ)) := by
    intro ν hν hx
    have e16 : ν c 16 = μ c 16 := hν c 16 (by omega)
    have eO : opB ν = opB μ := funext fun x => funext fun y => hν.op hk0 x y
    refine bc_aload_n dX1_move_24 rfl ?_
    refine bc_iconst (v := 0) dX1_move_25 (by decide) ?_
    refine bc_aload_n dX1_move_26 rfl ?_
    refine bc_geti dX1_move_27 fX1_163 (hc.1) rfl ?_
    refine bc_if_ge (tgt := 37) dX1_move_30 (by decide) (fun h30 => ?_) (fun h30 => ?_)
    · refine bc_iconst (v := 1) dX1_move_37 (by decide) ?_
      refine bc_aload_n dX1_move_38 rfl ?_
      refine bc_geti dX1_move_39 fX1_163 (hc.1) rfl ?_
      refine bc_abs dX1_move_42 wX1_174 (Nat.le_of_ble_eq_true rfl) ?_
      rw [e16, hn.abs]
      refine bc_callV (z := mX1_go) (ci := 1) dX1_move_45 lX1_177 qX1_go (hc.1) (by rfl) (by rfl) (by rfl) (Nat.le_of_ble_eq_true rfl) (s_go hk0 a2 0 1) (fun r45 μ45 e45 => ?_)
      obtain ⟨rfl, hν2, hx2⟩ := e45
      exact bc_return dX1_move_48 rfl (⟨rfl, hν.tr hν2, by rw [hx2, hx, eO, mvM, show sg1 (μ c 16) = 1 by rw [sg1, if_pos (by rw [← e16]; exact h30)]]⟩)
    · refine bc_iconst (v := (-1)) dX1_move_33 (by decide) ?_
      refine bc_goto (tgt := 38) dX1_move_34 (by decide) ?_
      refine bc_aload_n dX1_move_38 rfl ?_
      refine bc_geti dX1_move_39 fX1_163 (hc.1) rfl ?_
      refine bc_abs dX1_move_42 wX1_174 (Nat.le_of_ble_eq_true rfl) ?_
      rw [e16, hn.abs]
      refine bc_callV (z := mX1_go) (ci := 1) dX1_move_45 lX1_177 qX1_go (hc.1) (by rfl) (by rfl) (by rfl) (Nat.le_of_ble_eq_true rfl) (s_go hk0 a2 0 (-1)) (fun r45 μ45 e45 => ?_)
      obtain ⟨rfl, hν2, hx2⟩ := e45
      exact bc_return dX1_move_48 rfl (⟨rfl, hν.tr hν2, by rw [hx2, hx, eO, mvM, show sg1 (μ c 16) = -1 by rw [sg1, if_neg (by rw [← e16]; exact h30)]]⟩)
  refine bc_aload_n dX1_move_0 rfl ?_
  refine bc_aload_n dX1_move_1 rfl ?_
  refine bc_geti dX1_move_2 fX1_160 (hc.1) rfl ?_
  refine bc_if_ge (tgt := 12) dX1_move_5 (by decide) (fun h5 => ?_) (fun h5 => ?_)
  · refine bc_iconst (v := 1) dX1_move_12 (by decide) ?_
    refine bc_iconst (v := 0) dX1_move_13 (by decide) ?_
    refine bc_aload_n dX1_move_14 rfl ?_
    refine bc_geti dX1_move_15 fX1_160 (hc.1) rfl ?_
    refine bc_abs dX1_move_18 wX1_174 (Nat.le_of_ble_eq_true rfl) ?_
    rw [he.abs]
    refine bc_callV (z := mX1_go) (ci := 1) dX1_move_21 lX1_177 qX1_go (hc.1) (by rfl) (by rfl) (by rfl) (Nat.le_of_ble_eq_true rfl) (s_go hk0 a1 1 0) (fun r21 μ21 e21 => ?_)
    obtain ⟨rfl, hν2, hx2⟩ := e21
    exact second _ hν2 (by rw [hx2, show sg1 (μ c 15) = 1 by rw [sg1, if_pos h5]])
  · refine bc_iconst (v := (-1)) dX1_move_8 (by decide) ?_
    refine bc_goto (tgt := 13) dX1_move_9 (by decide) ?_
    refine bc_iconst (v := 0) dX1_move_13 (by decide) ?_
    refine bc_aload_n dX1_move_14 rfl ?_
    refine bc_geti dX1_move_15 fX1_160 (hc.1) rfl ?_
    refine bc_abs dX1_move_18 wX1_174 (Nat.le_of_ble_eq_true rfl) ?_
    rw [he.abs]
    refine bc_callV (z := mX1_go) (ci := 1) dX1_move_21 lX1_177 qX1_go (hc.1) (by rfl) (by rfl) (by rfl) (Nat.le_of_ble_eq_true rfl) (s_go hk0 a1 (-1) 0) (fun r21 μ21 e21 => ?_)
    obtain ⟨rfl, hν2, hx2⟩ := e21
    exact second _ hν2 (by rw [hx2, show sg1 (μ c 15) = -1 by rw [sg1, if_neg h5]])
def dec1 (v : Int32) : Int32 := if 0 < v then v - 1 else v
/-- the bog and the law can be reckoned with -/
def okB (μ : bc_M) (n no nq : Nat) : Prop := homB μ no ∧ sidB μ nq ∧ lawB μ n
def eaM (μ : bc_M) (c n no nq : Nat) (lit h : Int32) : Int32 := pc3 ((mS μ c n no lit h 1 nq - mS μ c n no lit h 3 nq) / 10)
def noM (μ : bc_M) (c n no nq : Nat) (lit h : Int32) : Int32 := pc3 ((mS μ c n no lit h 0 nq - mS μ c n no lit h 2 nq) / 10)
/-- an hour has gone by -/
def hrS (c : Nat) (μ ν : bc_M) : Prop := ∀ i k, ¬ scr c i k → ¬ (i = c ∧ (k = 2 ∨ k = 3 ∨ k = 4 ∨ k = 6)) → i ≠ c + 1 → ν i k = μ i k
def hrI (c n no nq : Nat) (μ ν : bc_M) : Prop := hrS c μ ν ∧ ν c 4 = μ c 4 + 1 ∧ (∀ o, o < 8 → ν (c + 1) o = dec1 (μ (c + 1) o)) ∧ xya c ν = mvM (opB μ) (eaM μ c n no nq (lbM (μ (c + 1)) 0 no) (μ c 4)) (noM μ c n no nq (lbM (μ (c + 1)) 0 no) (μ c 4)) (xya c μ)
theorem s_passHour {d : Nat} {μ : bc_M} {c n no nq : Nat} (hk0 : cok c) (hB : okB μ n no nq) : bc_C (d + 5) LC mX1_passHour [.ref c] μ (fun r ν => r = none ∧ hrI c n no nq μ ν) := by
  have hc := hk0.isC
  refine bc_enter (by decide) (Nat.le_of_ble_eq_true rfl) rfl ?_
  have loop : ∀ (ν0 : bc_M), hrS c μ ν0 → ν0 c 4 = μ c 4 → (∀ o, ν0 (c + 1) o = μ (c + 1) o) → xya c ν0 = mvM (opB μ) (eaM μ c n no nq (lbM (μ (c + 1)) 0 no) (μ c 4)) (noM μ c n no nq (lbM (μ (c + 1)) 0 no) (μ c 4)) (xya c μ) → ∀ (m k : Nat) (ν : bc_M), k + m = 8 → (∀ i j, i ≠ c + 1 → ν i j = ν0 i j) → (∀ j, j < k → ν (c + 1) j = dec1 (μ (c + 1) j)) → (∀ j, k ≤ j → ν (c + 1) j = μ (c + 1) j) → bc_W (d + 5) LC mX1_passHour 19 [.ref c, .int (nI k)] [] ν (fun r ν => r = none ∧ hrI c n no nq μ ν) := by
    intro ν0 g1 g2 g3 g4 m
    induction m with
    | zero =>
      intro k ν hk q1 q2 q3
      have hk : k = 8 := by omega
      subst hk
      refine bc_iload_n dX1_passHour_19 rfl ?_
      refine bc_aload_n dX1_passHour_20 rfl ?_
      refine bc_getr dX1_passHour_21 fX1_9 (hc.1) rfl ?_
      refine bc_len0 dX1_passHour_24 (hc.2.1) ?_
      refine bc_icmp_ge (tgt := 53) dX1_passHour_25 (by decide) (fun h25 => ?_) (fun h25 => absurd h25 (fun q => q (Int32.le_refl _)))
      refine bc_aload_n dX1_passHour_53 rfl ?_
      refine bc_dup dX1_passHour_54 rfl ?_
      refine bc_geti dX1_passHour_55 fX1_62 (hc.1) rfl ?_
      refine bc_iconst (v := 1) dX1_passHour_58 (by decide) ?_
      refine bc_iadd dX1_passHour_59 ?_
      refine bc_put dX1_passHour_60 fX1_62 ftX1 fpX1_4 rfl rfl (hc.1) rfl ?_
      exact bc_return dX1_passHour_63 rfl (⟨rfl, fun i j a1 a2 a3 => by rw [bc_u_r, if_neg (by omega), q1 i j a3]; exact g1 i j a1 a2 a3, by rw [bc_u_r, if_pos ⟨rfl, rfl⟩, q1 c 4 (by omega), g2], fun o ho => by rw [bc_u_r, if_neg (by omega)]; exact q2 o ho, by rw [← g4]; simp only [xya, bc_u_r]; rw [if_neg (by omega), if_neg (by omega), if_neg (by omega), q1 c 2 (by omega), q1 c 3 (by omega), q1 c 6 (by omega)]⟩)
    | succ m ih =>
      intro k ν hk q1 q2 q3
      refine bc_iload_n dX1_passHour_19 rfl ?_
      refine bc_aload_n dX1_passHour_20 rfl ?_
      refine bc_getr dX1_passHour_21 fX1_9 (hc.1) rfl ?_
      refine bc_len0 dX1_passHour_24 (hc.2.1) ?_
      refine bc_icmp_ge (tgt := 53) dX1_passHour_25 (by decide) (fun h25 => absurd h25 (by rw [bn_leN (by omega) (by omega)]; omega)) (fun h25 => ?_)
      refine bc_aload_n dX1_passHour_28 rfl ?_
      refine bc_getr dX1_passHour_29 fX1_9 (hc.1) rfl ?_
      refine bc_iload_n dX1_passHour_32 rfl ?_
      refine bc_ialdE dX1_passHour_33 (hc.2.1) (rfl) (⟨by omega, by decide⟩) ?_
      refine bc_if_le (tgt := 47) dX1_passHour_34 (by decide) (fun h34 => ?_) (fun h34 => ?_)
      · refine bc_iinc1 dX1_passHour_47 rfl (by decide) rfl ?_
        refine bc_goto (tgt := 19) dX1_passHour_50 (by decide) ?_
        rw [bn_add1]
        refine ih (k + 1) ν (by omega) q1 (fun j hj => ?_) (fun j hj => q3 j (by omega))
        by_cases e : j = k
        · subst e
          rw [q3 j (Nat.le_refl _)] at h34 ⊢
          rw [dec1, if_neg (by rw [bn_lt]; rw [bn_le] at h34; omega)]
        · exact q2 j (by omega)
      · refine bc_aload_n dX1_passHour_37 rfl ?_
        refine bc_getr dX1_passHour_38 fX1_9 (hc.1) rfl ?_
        refine bc_iload_n dX1_passHour_41 rfl ?_
        refine bc_dup2 dX1_passHour_42 rfl rfl ?_
        refine bc_ialdE dX1_passHour_43 (hc.2.1) (rfl) (⟨by omega, by decide⟩) ?_
        refine bc_iconst (v := 1) dX1_passHour_44 (by decide) ?_
        refine bc_isub dX1_passHour_45 ?_
        refine bc_iastE dX1_passHour_46 (hc.2.1) (rfl) (⟨by omega, by decide⟩) ?_
        refine bc_iinc1 dX1_passHour_47 rfl (by decide) rfl ?_
        refine bc_goto (tgt := 19) dX1_passHour_50 (by decide) ?_
        rw [bn_add1]
        refine ih (k + 1) _ (by omega) (fun i j hi => by rw [bc_u_r, if_neg (by omega)]; exact q1 i j hi) (fun j hj => ?_) (fun j hj => by rw [bc_u_r, if_neg (by omega)]; exact q3 j (by omega))
        rw [bc_u_r]
        by_cases e : j = k
        · subst e
          rw [if_pos ⟨rfl, rfl⟩]
          rw [q3 j (Nat.le_refl _)] at h34 ⊢
          rw [dec1, if_pos (bn_nle h34)]
        · rw [if_neg (by omega)]; exact q2 j (by omega)
  refine bc_aload_n dX1_passHour_0 rfl ?_
  refine bc_aload_n dX1_passHour_1 rfl ?_
  refine bc_iconst (v := 0) dX1_passHour_2 (by decide) ?_
  refine bc_callV (z := mX1_litBits) (ci := 1) dX1_passHour_3 lX1_100 qX1_litBits (hc.1) (by rfl) (by rfl) (by rfl) (Nat.le_of_ble_eq_true rfl) (s_litBits hk0 hB.1.1 hB.1.2.1 0) (fun r3 μ3 e3 => ?_)
  obtain ⟨rfl, q3⟩ := e3
  obtain rfl := q3.symm
  refine bc_aload_n dX1_passHour_6 rfl ?_
  refine bc_geti dX1_passHour_7 fX1_62 (hc.1) rfl ?_
  refine bc_callV (z := mX1_reckon) (ci := 1) dX1_passHour_10 lX1_110 qX1_reckon (hc.1) (by rfl) (by rfl) (by rfl) (Nat.le_of_ble_eq_true rfl) (s_reckon hk0 hB.1 hB.2.1 hB.2.2 _ _) (fun r10 μ10 e10 => ?_)
  obtain ⟨rfl, hs1, -, hs3, hs4⟩ := e10
  refine bc_aload_n dX1_passHour_13 rfl ?_
  refine bc_callV (z := mX1_move) (ci := 1) dX1_passHour_14 lX1_113 qX1_move (hc.1) (by rfl) (by rfl) (by rfl) (Nat.le_of_ble_eq_true rfl) (s_move hk0 (by rw [hs3]; exact pc3_in _) (by rw [hs4]; exact pc3_in _)) (fun r14 μ14 e14 => ?_)
  obtain ⟨rfl, hx1, hx2⟩ := e14
  refine bc_iconst (v := 0) dX1_passHour_17 (by decide) ?_
  refine bc_istore_n dX1_passHour_18 (by decide) rfl ?_
  have eO : opB μ10 = opB μ := by
    funext x y
    unfold opB en
    rw [hs1 10 _ (by rcases hk0 with rfl | rfl <;> (unfold scr; omega))]
  have ex : xya c μ10 = xya c μ := by
    unfold xya
    rw [hs1 c 2 (by rcases hk0 with rfl | rfl <;> (unfold scr; omega)), hs1 c 3 (by rcases hk0 with rfl | rfl <;> (unfold scr; omega)), hs1 c 6 (by rcases hk0 with rfl | rfl <;> (unfold scr; omega))]
  have h13 : ∀ o, μ14 (c + 1) o = μ (c + 1) o := fun o => (hx1 (c + 1) o (by omega)).trans (hs1 (c + 1) o (by rcases hk0 with rfl | rfl <;> (unfold scr; omega)))
  refine loop μ14 (fun i k a1 a2 a3 => (hx1 i k (by omega)).trans (hs1 i k a1)) ((hx1 c 4 (by omega)).trans (hs1 c 4 (by rcases hk0 with rfl | rfl <;> (unfold scr; omega)))) h13 (by rw [hx2, eO, ex, hs3, hs4]; rfl) 8 0 μ14 rfl (fun _ _ _ => rfl) (fun j hj => absurd hj (by omega)) (fun j _ => h13 j)
