/-! the reference: an hour, what a step does -/
theorem kv_s (b : Int32) (c : Nat) : b * nI (c + 1) - b = b * nI c := by rw [← bn_add1, Int32.mul_add, Int32.mul_one, Int32.add_sub_cancel]
theorem kv_p : ∀ c, c < 4 → ((1 : Int32) * nI c = 0 ↔ c = 0) := by decide
theorem kv_m : ∀ c, c < 4 → ((-1 : Int32) * nI c = 0 ↔ c = 0) := by decide
theorem kv_z {b : Int32} (hb : b = 1 ∨ b = -1) {c : Nat} (hc : c ≤ 3) : b * nI c = 0 ↔ c = 0 := by
  rcases hb with rfl | rfl
  · exact kv_p c (by omega)
  · exact kv_m c (by omega)
theorem in3.cs {v : Int32} (h : in3 v) : v = -3 ∨ v = -2 ∨ v = -1 ∨ v = 0 ∨ v = 1 ∨ v = 2 ∨ v = 3 := by
  unfold in3 at h
  have e1 : (-3 : Int32).toInt = -3 := rfl
  have e2 : (-2 : Int32).toInt = -2 := rfl
  have e3 : (-1 : Int32).toInt = -1 := rfl
  have e4 : (0 : Int32).toInt = 0 := rfl
  have e5 : (1 : Int32).toInt = 1 := rfl
  have e6 : (2 : Int32).toInt = 2 := rfl
  have e7 : (3 : Int32).toInt = 3 := rfl
  rw [bn_eq, bn_eq, bn_eq, bn_eq, bn_eq, bn_eq, bn_eq]
  omega
theorem kv_of {v : Int32} (h : in3 v) : v = sg1 v * nI (ab v) ∧ ab v ≤ 3 ∧ (sg1 v = 1 ∨ sg1 v = -1) := by
  rcases h.cs with rfl | rfl | rfl | rfl | rfl | rfl | rfl <;> decide
theorem ite0 {P : Prop} [Decidable P] : (if P then (1 : Int32) else 0) = 0 ↔ ¬ P := by
  by_cases h : P
  · simp [h]
  · simp [h]
section T62
variable {d : Nat} {m ν M : bc_M} {n no nq nr nm : Nat} {A : Row}
theorem mEnv.op (h : mEnv M m n no nq nr nm) (x y : Int32) : opB M x y = true ↔ ((0 ≤ x ∧ x < 31 ∧ 0 ≤ y ∧ y < 31) ∧ ¬ moB (fun k => m 9 (2 * k)) (fun k => m 9 (2 * k + 1)) x y nr 0 = true) := by
  have e30 : (30 : Int32).toInt = 30 := rfl
  have e31 : (31 : Int32).toInt = 31 := rfl
  have hx : x ≤ 30 ↔ x < 31 := by rw [bn_le, bn_lt, e30, e31]; omega
  have hy : y ≤ 30 ↔ y < 31 := by rw [bn_le, bn_lt, e30, e31]; omega
  unfold opB
  rw [decide_eq_true_iff]
  by_cases hc : 0 ≤ x ∧ x ≤ 30 ∧ 0 ≤ y ∧ y ≤ 30
  · have hr := h.2.2.2.2.2.1 x y hc.1 hc.2.1 hc.2.2.1 hc.2.2.2
    obtain ⟨a, ha, rfl⟩ : ∃ a, a ≤ 30 ∧ x = nI a := by
      have h1 := hc.1
      have h2 := hc.2.1
      rw [bn_le, bn_0] at h1
      rw [bn_le, e30] at h2
      exact ⟨x.toInt.toNat, by omega, by rw [bn_eq, bn_ti (by omega)]; omega⟩
    rw [hr, b_is _ (by omega), b_is0 _ (by omega), ← hx, ← hy]
    constructor
    · intro q; exact ⟨hc, by rw [q.2.2.2.2]; decide⟩
    · intro q; exact ⟨hc.1, hc.2.1, hc.2.2.1, hc.2.2.2, by simpa using q.2⟩
  · rw [← hx, ← hy]
    constructor
    · intro q; exact absurd ⟨q.1, q.2.1, q.2.2.1, q.2.2.2.1⟩ hc
    · intro q; exact absurd q.1 hc
theorem t_goesAlong {v b wx wy : Int32} {w c : Nat} (hE : mEnv M m n no nq nr nm) (hv : v = b * nI c) (hbv : b = sg1 v) (hc : c ≤ 3) (hw : (w = 28 ∧ wx = b ∧ wy = 0) ∨ (w = 29 ∧ wx = 0 ∧ wy = b)) : bc_C (d + 1) LM mX10_goesAlong [.ref 0, .int (nI w), .int v] m (fun r ν => r = none ∧ ∃ g, ν = bc_us m 20 g ∧ (∀ k, k ≠ 28 → k ≠ 29 → k ≠ 31 → g k = m 20 k) ∧ (g 28, g 29, g 31) = goM (opB M) wx wy c (m 20 28, m 20 29, m 20 31)) := by
  refine bc_enter (by decide) (Nat.le_of_ble_eq_true rfl) rfl ?_
  have hb : b = 1 ∨ b = -1 := by
    rw [hbv, sg1]
    by_cases h : 0 ≤ v
    · exact .inl (if_pos h)
    · exact .inr (if_neg h)
  have hr := hE.2.1.2.2.1
  have hr12 := hE.2.2.1.1
  have loop : ∀ (c : Nat) (f : Nat → Int32) (v5 v6 : Value), c ≤ 3 → bc_W (d + 1) LM mX10_goesAlong 13 [.ref 0, .int (nI w), .int v, .int b, .int (b * nI c), v5, v6] [] (bc_us m 20 f) (fun r ν => r = none ∧ ∃ g, ν = bc_us m 20 g ∧ (∀ k, k ≠ 28 → k ≠ 29 → k ≠ 31 → g k = f k) ∧ (g 28, g 29, g 31) = goM (opB M) wx wy c (f 28, f 29, f 31)) := by
    intro c
    induction c with
    | zero =>
      intro f v5 v6 _
      refine bc_iload dX10_goesAlong_13 rfl ?_
      refine bc_if_eq (tgt := 112) dX10_goesAlong_15 (by decide) (fun h15 => ?_) (fun h15 => absurd h15 (fun q => q ((kv_z hb (by omega)).mpr rfl)))
      exact bc_return dX10_goesAlong_112 rfl (⟨rfl, f, rfl, fun _ _ _ _ => rfl, rfl⟩)
    | succ c ih =>
      intro f v5 v6 h3
      rcases hw with ⟨rfl, rfl, rfl⟩ | ⟨rfl, rfl, rfl⟩
      · have stay : ¬ opB M (f 28 + wx) (f 29 + 0) = true → bc_W (d + 1) LM mX10_goesAlong 81 [.ref 0, .int (nI 28), .int v, .int wx, .int (wx * nI (c + 1)), .int (f 28 + wx), .int (f 29 + 0)] [] (bc_us m 20 f) (fun r ν => r = none ∧ ∃ g, ν = bc_us m 20 g ∧ (∀ k, k ≠ 28 → k ≠ 29 → k ≠ 31 → g k = f k) ∧ (g 28, g 29, g 31) = goM (opB M) wx 0 (c + 1) (f 28, f 29, f 31)) := by
          intro ho
          refine bc_aload_n dX10_goesAlong_81 rfl ?_
          refine bc_getr dX10_goesAlong_82 fX10_74 (rfl) rfl ?_
          refine bc_bipush (v := 31) dX10_goesAlong_85 (by decide) ?_
          refine bc_dup2 dX10_goesAlong_87 rfl rfl ?_
          refine bc_ialdE (k := 31) dX10_goesAlong_88 (rfl) (rfl) (⟨by omega, by decide⟩) ?_
          refine bc_iconst (v := 1) dX10_goesAlong_89 (by decide) ?_
          refine bc_iadd dX10_goesAlong_90 ?_
          refine bc_iastE (k := 31) dX10_goesAlong_91 (rfl) (rfl) (⟨by omega, by decide⟩) ?_
          exact bc_return dX10_goesAlong_92 rfl (⟨rfl, upd f 31 (f 31 + 1), by rw [bc_us_u]; rfl, fun k h1 h2 h3 => by simp [upd, h3], by simp only [goM]; rw [if_neg ho]; rfl⟩)
        refine bc_iload dX10_goesAlong_13 rfl ?_
        refine bc_if_eq (tgt := 112) dX10_goesAlong_15 (by decide) (fun h15 => absurd h15 (fun e => absurd ((kv_z hb (by omega)).mp e) (by omega))) (fun h15 => ?_)
        refine bc_aload_n dX10_goesAlong_18 rfl ?_
        refine bc_getr dX10_goesAlong_19 fX10_74 (rfl) rfl ?_
        refine bc_bipush (v := 28) dX10_goesAlong_22 (by decide) ?_
        refine bc_ialdE (k := 28) dX10_goesAlong_24 (rfl) (rfl) (⟨by omega, by decide⟩) ?_
        refine bc_iload_n dX10_goesAlong_25 rfl ?_
        refine bc_bipush (v := 28) dX10_goesAlong_26 (by decide) ?_
        refine bc_icmp_ne (tgt := 35) dX10_goesAlong_28 (by decide) (fun h28 => absurd h28 (fun q => q rfl)) (fun h28 => ?_)
        refine bc_iload_n dX10_goesAlong_31 rfl ?_
        refine bc_goto (tgt := 36) dX10_goesAlong_32 (by decide) ?_
        refine bc_iadd dX10_goesAlong_36 ?_
        refine bc_istore dX10_goesAlong_37 (by decide) rfl ?_
        refine bc_aload_n dX10_goesAlong_39 rfl ?_
        refine bc_getr dX10_goesAlong_40 fX10_74 (rfl) rfl ?_
        refine bc_bipush (v := 29) dX10_goesAlong_43 (by decide) ?_
        refine bc_ialdE (k := 29) dX10_goesAlong_45 (rfl) (rfl) (⟨by omega, by decide⟩) ?_
        refine bc_iload_n dX10_goesAlong_46 rfl ?_
        refine bc_bipush (v := 29) dX10_goesAlong_47 (by decide) ?_
        refine bc_icmp_ne (tgt := 56) dX10_goesAlong_49 (by decide) (fun h49 => ?_) (fun h49 => absurd h49 (by decide))
        refine bc_iconst (v := 0) dX10_goesAlong_56 (by decide) ?_
        refine bc_iadd dX10_goesAlong_57 ?_
        refine bc_istore dX10_goesAlong_58 (by decide) rfl ?_
        refine bc_iload dX10_goesAlong_60 rfl ?_
        refine bc_iload dX10_goesAlong_62 rfl ?_
        refine bc_callS (z := mX10_isCell) dX10_goesAlong_64 lX10_365 qX10_isCell (by rfl) (by rfl) (Nat.le_of_ble_eq_true rfl) (t_isCell _ _) (fun r64 μ64 e64 => ?_)
        obtain ⟨rfl, q64⟩ := e64
        obtain rfl := q64.symm
        refine bc_if_eq (tgt := 81) dX10_goesAlong_67 (by decide) (fun h67 => ?_) (fun h67 => ?_)
        · exact stay (fun q => ite0.mp h67 ((hE.op _ _).mp q).1)
        · refine bc_aload_n dX10_goesAlong_70 rfl ?_
          refine bc_iload dX10_goesAlong_71 rfl ?_
          refine bc_iload dX10_goesAlong_73 rfl ?_
          refine bc_callV (z := mX10_isReed) (ci := 10) dX10_goesAlong_75 lX10_369 qX10_isReed (by rfl) (by rfl) (by rfl) (by rfl) (Nat.le_of_ble_eq_true rfl) (t_isReed _ _ hr hr12) (fun r75 μ75 e75 => ?_)
          obtain ⟨rfl, q75⟩ := e75
          obtain rfl := q75.symm
          refine bc_if_eq (tgt := 93) dX10_goesAlong_78 (by decide) (fun h78 => ?_) (fun h78 => ?_)
          · refine bc_aload_n dX10_goesAlong_93 rfl ?_
            refine bc_getr dX10_goesAlong_94 fX10_74 (rfl) rfl ?_
            refine bc_iload_n dX10_goesAlong_97 rfl ?_
            refine bc_dup2 dX10_goesAlong_98 rfl rfl ?_
            refine bc_ialdE (k := 28) dX10_goesAlong_99 (rfl) (rfl) (⟨by omega, by decide⟩) ?_
            refine bc_iload_n dX10_goesAlong_100 rfl ?_
            refine bc_iadd dX10_goesAlong_101 ?_
            refine bc_iastE (k := 28) dX10_goesAlong_102 (rfl) (rfl) (⟨by omega, by decide⟩) ?_
            refine bc_iload dX10_goesAlong_103 rfl ?_
            refine bc_iload_n dX10_goesAlong_105 rfl ?_
            refine bc_isub dX10_goesAlong_106 ?_
            refine bc_istore dX10_goesAlong_107 (by decide) rfl ?_
            refine bc_goto (tgt := 13) dX10_goesAlong_109 (by decide) ?_
            have ho : opB M (f 28 + wx) (f 29 + 0) = true := (hE.op _ _).mpr ⟨Decidable.not_not.mp (fun q => h67 (ite0.mpr q)), ite0.mp h78⟩
            have h2 := ih (upd f 28 (f 28 + wx)) (.int (f 28 + wx)) (.int (f 29 + 0)) (by omega)
            have e : (upd f 28 (f 28 + wx) 28, upd f 28 (f 28 + wx) 29, upd f 28 (f 28 + wx) 31) = (f 28 + wx, f 29 + 0, f 31) := by simp [upd]
            rw [e] at h2
            rw [kv_s, bc_us_u]
            refine bc_W.weaken (fun r ν hq => ?_) h2
            obtain ⟨q1, g, q2, q3, q4⟩ := hq
            refine ⟨q1, g, q2, fun k a1 a2 a3 => by rw [q3 k a1 a2 a3]; simp [upd, a1], ?_⟩
            rw [q4]
            simp only [goM]
            rw [if_pos ho]
          · exact stay (fun q => h78 (ite0.mpr ((hE.op _ _).mp q).2))
      · have stay : ¬ opB M (f 28 + 0) (f 29 + wy) = true → bc_W (d + 1) LM mX10_goesAlong 81 [.ref 0, .int (nI 29), .int v, .int wy, .int (wy * nI (c + 1)), .int (f 28 + 0), .int (f 29 + wy)] [] (bc_us m 20 f) (fun r ν => r = none ∧ ∃ g, ν = bc_us m 20 g ∧ (∀ k, k ≠ 28 → k ≠ 29 → k ≠ 31 → g k = f k) ∧ (g 28, g 29, g 31) = goM (opB M) 0 wy (c + 1) (f 28, f 29, f 31)) := by
          intro ho
          refine bc_aload_n dX10_goesAlong_81 rfl ?_
          refine bc_getr dX10_goesAlong_82 fX10_74 (rfl) rfl ?_
          refine bc_bipush (v := 31) dX10_goesAlong_85 (by decide) ?_
          refine bc_dup2 dX10_goesAlong_87 rfl rfl ?_
          refine bc_ialdE (k := 31) dX10_goesAlong_88 (rfl) (rfl) (⟨by omega, by decide⟩) ?_
          refine bc_iconst (v := 1) dX10_goesAlong_89 (by decide) ?_
          refine bc_iadd dX10_goesAlong_90 ?_
          refine bc_iastE (k := 31) dX10_goesAlong_91 (rfl) (rfl) (⟨by omega, by decide⟩) ?_
          exact bc_return dX10_goesAlong_92 rfl (⟨rfl, upd f 31 (f 31 + 1), by rw [bc_us_u]; rfl, fun k h1 h2 h3 => by simp [upd, h3], by simp only [goM]; rw [if_neg ho]; rfl⟩)
        refine bc_iload dX10_goesAlong_13 rfl ?_
        refine bc_if_eq (tgt := 112) dX10_goesAlong_15 (by decide) (fun h15 => absurd h15 (fun e => absurd ((kv_z hb (by omega)).mp e) (by omega))) (fun h15 => ?_)
        refine bc_aload_n dX10_goesAlong_18 rfl ?_
        refine bc_getr dX10_goesAlong_19 fX10_74 (rfl) rfl ?_
        refine bc_bipush (v := 28) dX10_goesAlong_22 (by decide) ?_
        refine bc_ialdE (k := 28) dX10_goesAlong_24 (rfl) (rfl) (⟨by omega, by decide⟩) ?_
        refine bc_iload_n dX10_goesAlong_25 rfl ?_
        refine bc_bipush (v := 28) dX10_goesAlong_26 (by decide) ?_
        refine bc_icmp_ne (tgt := 35) dX10_goesAlong_28 (by decide) (fun h28 => ?_) (fun h28 => absurd h28 (by decide))
        refine bc_iconst (v := 0) dX10_goesAlong_35 (by decide) ?_
        refine bc_iadd dX10_goesAlong_36 ?_
        refine bc_istore dX10_goesAlong_37 (by decide) rfl ?_
        refine bc_aload_n dX10_goesAlong_39 rfl ?_
        refine bc_getr dX10_goesAlong_40 fX10_74 (rfl) rfl ?_
        refine bc_bipush (v := 29) dX10_goesAlong_43 (by decide) ?_
        refine bc_ialdE (k := 29) dX10_goesAlong_45 (rfl) (rfl) (⟨by omega, by decide⟩) ?_
        refine bc_iload_n dX10_goesAlong_46 rfl ?_
        refine bc_bipush (v := 29) dX10_goesAlong_47 (by decide) ?_
        refine bc_icmp_ne (tgt := 56) dX10_goesAlong_49 (by decide) (fun h49 => absurd h49 (fun q => q rfl)) (fun h49 => ?_)
        refine bc_iload_n dX10_goesAlong_52 rfl ?_
        refine bc_goto (tgt := 57) dX10_goesAlong_53 (by decide) ?_
        refine bc_iadd dX10_goesAlong_57 ?_
        refine bc_istore dX10_goesAlong_58 (by decide) rfl ?_
        refine bc_iload dX10_goesAlong_60 rfl ?_
        refine bc_iload dX10_goesAlong_62 rfl ?_
        refine bc_callS (z := mX10_isCell) dX10_goesAlong_64 lX10_365 qX10_isCell (by rfl) (by rfl) (Nat.le_of_ble_eq_true rfl) (t_isCell _ _) (fun r64 μ64 e64 => ?_)
        obtain ⟨rfl, q64⟩ := e64
        obtain rfl := q64.symm
        refine bc_if_eq (tgt := 81) dX10_goesAlong_67 (by decide) (fun h67 => ?_) (fun h67 => ?_)
        · exact stay (fun q => ite0.mp h67 ((hE.op _ _).mp q).1)
        · refine bc_aload_n dX10_goesAlong_70 rfl ?_
          refine bc_iload dX10_goesAlong_71 rfl ?_
          refine bc_iload dX10_goesAlong_73 rfl ?_
          refine bc_callV (z := mX10_isReed) (ci := 10) dX10_goesAlong_75 lX10_369 qX10_isReed (by rfl) (by rfl) (by rfl) (by rfl) (Nat.le_of_ble_eq_true rfl) (t_isReed _ _ hr hr12) (fun r75 μ75 e75 => ?_)
          obtain ⟨rfl, q75⟩ := e75
          obtain rfl := q75.symm
          refine bc_if_eq (tgt := 93) dX10_goesAlong_78 (by decide) (fun h78 => ?_) (fun h78 => ?_)
          · refine bc_aload_n dX10_goesAlong_93 rfl ?_
            refine bc_getr dX10_goesAlong_94 fX10_74 (rfl) rfl ?_
            refine bc_iload_n dX10_goesAlong_97 rfl ?_
            refine bc_dup2 dX10_goesAlong_98 rfl rfl ?_
            refine bc_ialdE (k := 29) dX10_goesAlong_99 (rfl) (rfl) (⟨by omega, by decide⟩) ?_
            refine bc_iload_n dX10_goesAlong_100 rfl ?_
            refine bc_iadd dX10_goesAlong_101 ?_
            refine bc_iastE (k := 29) dX10_goesAlong_102 (rfl) (rfl) (⟨by omega, by decide⟩) ?_
            refine bc_iload dX10_goesAlong_103 rfl ?_
            refine bc_iload_n dX10_goesAlong_105 rfl ?_
            refine bc_isub dX10_goesAlong_106 ?_
            refine bc_istore dX10_goesAlong_107 (by decide) rfl ?_
            refine bc_goto (tgt := 13) dX10_goesAlong_109 (by decide) ?_
            have ho : opB M (f 28 + 0) (f 29 + wy) = true := (hE.op _ _).mpr ⟨Decidable.not_not.mp (fun q => h67 (ite0.mpr q)), ite0.mp h78⟩
            have h2 := ih (upd f 29 (f 29 + wy)) (.int (f 28 + 0)) (.int (f 29 + wy)) (by omega)
            have e : (upd f 29 (f 29 + wy) 28, upd f 29 (f 29 + wy) 29, upd f 29 (f 29 + wy) 31) = (f 28 + 0, f 29 + wy, f 31) := by simp [upd]
            rw [e] at h2
            rw [kv_s, bc_us_u]
            refine bc_W.weaken (fun r ν hq => ?_) h2
            obtain ⟨q1, g, q2, q3, q4⟩ := hq
            refine ⟨q1, g, q2, fun k a1 a2 a3 => by rw [q3 k a1 a2 a3]; simp [upd, a2], ?_⟩
            rw [q4]
            simp only [goM]
            rw [if_pos ho]
          · exact stay (fun q => h78 (ite0.mpr ((hE.op _ _).mp q).2))
  have start := loop c (m 20) .null .null hc
  rw [bc_us_self, ← hv] at start
  refine bc_iload_n dX10_goesAlong_0 rfl ?_
  refine bc_if_ge (tgt := 8) dX10_goesAlong_1 (by decide) (fun h1 => ?_) (fun h1 => ?_)
  · refine bc_iconst (v := 1) dX10_goesAlong_8 (by decide) ?_
    refine bc_istore_n dX10_goesAlong_9 (by decide) rfl ?_
    refine bc_iload_n dX10_goesAlong_10 rfl ?_
    refine bc_istore dX10_goesAlong_11 (by decide) rfl ?_
    rw [show b = 1 by rw [hbv, sg1, if_pos h1]] at start
    exact start
  · refine bc_iconst (v := (-1)) dX10_goesAlong_4 (by decide) ?_
    refine bc_goto (tgt := 9) dX10_goesAlong_5 (by decide) ?_
    refine bc_istore_n dX10_goesAlong_9 (by decide) rfl ?_
    refine bc_iload_n dX10_goesAlong_10 rfl ?_
    refine bc_istore dX10_goesAlong_11 (by decide) rfl ?_
    rw [show b = -1 by rw [hbv, sg1, if_neg h1]] at start
    exact start
theorem hourR_hl {o : Nat} (h : o < 8) : hourR M n no nq A (o + 6) = dec1 (A (o + 6)) := by
  unfold hourR
  rw [if_neg (by omega), if_neg (by omega), if_neg (by omega), if_neg (by omega), if_pos (by omega)]
theorem hourR_o {k : Nat} (h : k = 3 ∨ k = 5 ∨ 14 ≤ k) : hourR M n no nq A k = A k := by
  unfold hourR
  rw [if_neg (by omega), if_neg (by omega), if_neg (by omega), if_neg (by omega), if_neg (by omega)]
abbrev mvA (M : bc_M) (n no nq : Nat) (A : Row) : Int32 × Int32 × Int32 := mvM (opB M) (eaM (plug M A) 31 n no nq (litA no A) (A 2)) (noM (plug M A) 31 n no nq (litA no A) (A 2)) (A 0, A 1, A 4)
theorem hourR_0 : hourR M n no nq A 0 = (mvA M n no nq A).1 := rfl
theorem hourR_1 : hourR M n no nq A 1 = (mvA M n no nq A).2.1 := rfl
theorem hourR_2 : hourR M n no nq A 2 = A 2 + 1 := rfl
theorem hourR_4 : hourR M n no nq A 4 = (mvA M n no nq A).2.2 := rfl
theorem dec1_in {v : Int32} (h0 : 0 ≤ v.toInt) (h4 : v.toInt ≤ 4) : 0 ≤ (dec1 v).toInt ∧ (dec1 v).toInt ≤ 4 := by
  unfold dec1
  by_cases h : 0 < v
  · rw [if_pos h, Int32.toInt_sub]
    rw [bn_lt, bn_0] at h
    have e : (1 : Int32).toInt = 1 := rfl
    rw [e, Int.bmod_eq_of_le (by omega) (by omega)]
    omega
  · rw [if_neg h]; omega
theorem okA_hour (hA : okA no A) : okA no (hourR M n no nq A) := by
  refine ⟨fun o ho => ?_, fun o h1 h2 => ?_, ?_, ?_⟩
  · rw [hourR_hl ho]; exact dec1_in (hA.1 o ho).1 (hA.1 o ho).2
  · rw [hourR_hl h2, hA.2.1 o h1 h2]; rfl
  · rw [hourR_o (by omega)]; exact hA.2.2.1
  · rw [hourR_0, hourR_1]
    exact goM_rng _ _ _ _ (goM_rng _ _ _ _ hA.2.2.2)
theorem t_passes (hE : mEnv M m n no nq nr nm) (hs : sR A (m 20)) (hA : okA no A) : bc_C (d + 6) LM mX10_passes [.ref 0] m (fun r ν => r = none ∧ (∀ i, i ≠ 15 → i ≠ 16 → i ≠ 20 → ν i = m i) ∧ sR (hourR M n no nq A) (ν 20)) := by
  refine bc_enter (by decide) (Nat.le_of_ble_eq_true rfl) rfl ?_
  have h8 := hE.o8
  obtain ⟨s1, s2, s3, s4, s5, s6, s7, s8, s9⟩ := id hs
  have loop : ∀ (μ0 : bc_M) (G : Nat → Int32) (v1 v2 : Int32), (∀ i, i ≠ 15 → i ≠ 16 → i ≠ 20 → μ0 i = m i) → (∀ k, k ≠ 28 → k ≠ 29 → k ≠ 31 → G k = m 20 k) → (G 28, G 29, G 31) = mvA M n no nq A → ∀ (c k : Nat) (g : Nat → Int32), k + c = no → (∀ j, j < k → g j = dec1 (A (j + 6))) → (∀ j, k ≤ j → g j = G j) → bc_W (d + 6) LM mX10_passes 28 [.ref 0, .int v1, .int v2, .int (nI k)] [] (bc_us μ0 20 g) (fun r ν => r = none ∧ (∀ i, i ≠ 15 → i ≠ 16 → i ≠ 20 → ν i = m i) ∧ sR (hourR M n no nq A) (ν 20)) := by
    intro μ0 G v1 v2 h0 hG hxy c
    have hno : μ0 0 26 = nI no := by rw [h0 0 (by decide) (by decide) (by decide)]; exact hE.2.1.2.1
    induction c with
    | zero =>
      intro k g hk g1 g2
      have hk : k = no := by omega
      subst hk
      have hS : sR (hourR M n k nq A) (upd g 32 (g 32 + 1)) := by
        have x1 : G 28 = (mvA M n k nq A).1 := congrArg (fun z => z.1) hxy
        have x2 : G 29 = (mvA M n k nq A).2.1 := congrArg (fun z => z.2.1) hxy
        have x3 : G 31 = (mvA M n k nq A).2.2 := congrArg (fun z => z.2.2) hxy
        have hu : ∀ j, j ≠ 32 → upd g 32 (g 32 + 1) j = g j := fun j hj => by simp [upd, hj]
        refine ⟨fun o ho => ?_, fun o ho => ?_, fun q hq => ?_, fun q hq => ?_, ?_, ?_, ?_, ?_, ?_⟩
        · rw [hu o (by omega), hourR_hl ho]
          by_cases h : o < k
          · exact g1 o h
          · rw [g2 o (by omega), hG o (by omega) (by omega) (by omega), s1 o ho, hA.2.1 o (by omega) ho]; rfl
        · rw [hu _ (by omega), g2 _ (by omega), hG _ (by omega) (by omega) (by omega), hourR_o (by omega)]; exact s2 o ho
        · rw [hu _ (by omega), g2 _ (by omega), hG _ (by omega) (by omega) (by omega), hourR_o (by omega)]; exact s3 q hq
        · rw [hu _ (by omega), g2 _ (by omega), hG _ (by omega) (by omega) (by omega), hourR_o (by omega)]; exact s4 q hq
        · rw [hu _ (by omega), g2 _ (by omega), hourR_0]; exact x1
        · rw [hu _ (by omega), g2 _ (by omega), hourR_1]; exact x2
        · rw [hu _ (by omega), g2 _ (by omega), hG _ (by omega) (by omega) (by omega), hourR_o (by omega)]; exact s7
        · rw [hu _ (by omega), g2 _ (by omega), hourR_4]; exact x3
        · rw [show upd g 32 (g 32 + 1) 32 = g 32 + 1 by simp [upd], g2 _ (by omega), hG _ (by omega) (by omega) (by omega), hourR_2, s9]
      refine bc_iload_n dX10_passes_28 rfl ?_
      refine bc_aload_n dX10_passes_29 rfl ?_
      refine bc_geti dX10_passes_30 fX10_185 (rfl) rfl ?_
      refine bc_icmp_ge (tgt := 69) dX10_passes_33 (by decide) (fun h33 => ?_) (fun h33 => absurd h33 (fun q => q (bx_out hno (Nat.le_refl _) (by omega))))
      refine bc_aload_n dX10_passes_69 rfl ?_
      refine bc_getr dX10_passes_70 fX10_74 (rfl) rfl ?_
      refine bc_bipush (v := 32) dX10_passes_73 (by decide) ?_
      refine bc_dup2 dX10_passes_75 rfl rfl ?_
      refine bc_ialdE (k := 32) dX10_passes_76 (rfl) (rfl) (⟨by omega, by decide⟩) ?_
      refine bc_iconst (v := 1) dX10_passes_77 (by decide) ?_
      refine bc_iadd dX10_passes_78 ?_
      refine bc_iastE (k := 32) dX10_passes_79 (rfl) (rfl) (⟨by omega, by decide⟩) ?_
      exact bc_return dX10_passes_80 rfl (⟨rfl, fun i a1 a2 a3 => by rw [bc_us_u]; simp only [bc_us, a3, if_false]; exact h0 i a1 a2 a3, by rw [bc_us_u]; exact hS⟩)
    | succ c ih =>
      intro k g hk g1 g2
      have next : ∀ x, g k - x = dec1 (g k) → bc_W (d + 6) LM mX10_passes 63 [.ref 0, .int v1, .int v2, .int (nI k)] [] (bc_u (bc_us μ0 20 g) 20 k (g k - x)) (fun r ν => r = none ∧ (∀ i, i ≠ 15 → i ≠ 16 → i ≠ 20 → ν i = m i) ∧ sR (hourR M n no nq A) (ν 20)) := by
        intro x hx
        rw [hx, bc_us_u]
        have h2 := ih (k + 1) (upd g k (dec1 (g k))) (by omega) (fun j hj => by
          by_cases e : j = k
          · subst e; simp only [upd, if_true]; rw [g2 j (Nat.le_refl _), hG j (by omega) (by omega) (by omega), s1 j (by omega)]
          · simp only [upd, e, if_false]; exact g1 j (by omega)) (fun j hj => by simp only [upd]; rw [if_neg (by omega)]; exact g2 j (by omega))
        refine bc_iinc1 dX10_passes_63 rfl (by decide) rfl ?_
        refine bc_goto (tgt := 28) dX10_passes_66 (by decide) ?_
        rw [bn_add1]
        exact h2
      refine bc_iload_n dX10_passes_28 rfl ?_
      refine bc_aload_n dX10_passes_29 rfl ?_
      refine bc_geti dX10_passes_30 fX10_185 (rfl) rfl ?_
      refine bc_icmp_ge (tgt := 69) dX10_passes_33 (by decide) (fun h33 => absurd h33 (bx_in hno (by omega) (by omega))) (fun h33 => ?_)
      refine bc_aload_n dX10_passes_36 rfl ?_
      refine bc_getr dX10_passes_37 fX10_74 (rfl) rfl ?_
      refine bc_iconst (v := 0) dX10_passes_40 (by decide) ?_
      refine bc_iload_n dX10_passes_41 rfl ?_
      refine bc_iadd dX10_passes_42 ?_
      refine bc_dup2 dX10_passes_43 rfl rfl ?_
      refine bc_ialdE (k := k) dX10_passes_44 (rfl) (ix0 (rfl)) (⟨by omega, by decide⟩) ?_
      refine bc_aload_n dX10_passes_45 rfl ?_
      refine bc_getr dX10_passes_46 fX10_74 (rfl) rfl ?_
      refine bc_iconst (v := 0) dX10_passes_49 (by decide) ?_
      refine bc_iload_n dX10_passes_50 rfl ?_
      refine bc_iadd dX10_passes_51 ?_
      refine bc_ialdE (k := k) dX10_passes_52 (rfl) (ix0 (rfl)) (⟨by omega, by decide⟩) ?_
      refine bc_if_le (tgt := 60) dX10_passes_53 (by decide) (fun h53 => ?_) (fun h53 => ?_)
      · refine bc_iconst (v := 0) dX10_passes_60 (by decide) ?_
        refine bc_isub dX10_passes_61 ?_
        refine bc_iastE (k := k) dX10_passes_62 (rfl) (ix0 (rfl)) (⟨by omega, by decide⟩) ?_
        exact next 0 (by rw [dec1, if_neg (Int32.not_lt.mpr (show g k ≤ 0 from h53)), Int32.sub_zero])
      · refine bc_iconst (v := 1) dX10_passes_56 (by decide) ?_
        refine bc_goto (tgt := 61) dX10_passes_57 (by decide) ?_
        refine bc_isub dX10_passes_61 ?_
        refine bc_iastE (k := k) dX10_passes_62 (rfl) (ix0 (rfl)) (⟨by omega, by decide⟩) ?_
        exact next 1 (by rw [dec1, if_pos (Int32.not_le.mp (show ¬ g k ≤ 0 from h53))])
  refine bc_aload_n dX10_passes_0 rfl ?_
  refine bc_iconst (v := 1) dX10_passes_1 (by decide) ?_
  refine bc_callV (z := mX10_driftTo) (ci := 10) dX10_passes_2 lX10_372 qX10_driftTo (by rfl) (by rfl) (by rfl) (by rfl) (Nat.le_of_ble_eq_true rfl) (t_driftTo (j := 1) hE hs hA (by omega)) (fun r2 μ2 e2 => ?_)
  obtain ⟨rfl, f2⟩ := e2
  have hE2 : mEnv M μ2 n no nq nr nm := hE.mv (fun i _ _ => by rw [f2 0 (by decide) (by decide)]) (fun i h1 h2 => f2 i (by omega) (by omega))
  have hs2 : sR A (μ2 20) := by rw [f2 20 (by decide) (by decide)]; exact hs
  refine bc_istore_n dX10_passes_5 (by decide) rfl ?_
  refine bc_aload_n dX10_passes_6 rfl ?_
  refine bc_iconst (v := 0) dX10_passes_7 (by decide) ?_
  refine bc_callV (z := mX10_driftTo) (ci := 10) dX10_passes_8 lX10_372 qX10_driftTo (by rfl) (by rfl) (by rfl) (by rfl) (Nat.le_of_ble_eq_true rfl) (t_driftTo (j := 0) hE2 hs2 hA (by omega)) (fun r8 μ8 e8 => ?_)
  obtain ⟨rfl, f8⟩ := e8
  have hE8 : mEnv M μ8 n no nq nr nm := hE2.mv (fun i _ _ => by rw [f8 0 (by decide) (by decide)]) (fun i h1 h2 => f8 i (by omega) (by omega))
  have hs8 : μ8 20 = m 20 := (f8 20 (by decide) (by decide)).trans (f2 20 (by decide) (by decide))
  have he := kv_of (pc3_in ((msA M n no A 1 nq - msA M n no A (1 + 2) nq) / 10))
  have hn := kv_of (pc3_in ((msA M n no A 0 nq - msA M n no A (0 + 2) nq) / 10))
  refine bc_istore_n dX10_passes_11 (by decide) rfl ?_
  refine bc_aload_n dX10_passes_12 rfl ?_
  refine bc_bipush (v := 28) dX10_passes_13 (by decide) ?_
  refine bc_iload_n dX10_passes_15 rfl ?_
  refine bc_callV (z := mX10_goesAlong) (ci := 10) dX10_passes_16 lX10_375 qX10_goesAlong (by rfl) (by rfl) (by rfl) (by rfl) (Nat.le_of_ble_eq_true rfl) (t_goesAlong (w := 28) hE8 he.1 rfl he.2.1 (.inl ⟨rfl, rfl, rfl⟩)) (fun r16 μ16 e16 => ?_)
  obtain ⟨rfl, g16, rfl, k16, x16⟩ := e16
  have hE16 : mEnv M (bc_us μ8 20 g16) n no nq nr nm := hE8.mv (fun i _ _ => rfl) (fun i h1 h2 => by simp only [bc_us]; rw [if_neg (by omega)])
  refine bc_aload_n dX10_passes_19 rfl ?_
  refine bc_bipush (v := 29) dX10_passes_20 (by decide) ?_
  refine bc_iload_n dX10_passes_22 rfl ?_
  refine bc_callV (z := mX10_goesAlong) (ci := 10) dX10_passes_23 lX10_375 qX10_goesAlong (by rfl) (by rfl) (by rfl) (by rfl) (Nat.le_of_ble_eq_true rfl) (t_goesAlong (w := 29) hE16 hn.1 rfl hn.2.1 (.inr ⟨rfl, rfl, rfl⟩)) (fun r23 μ23 e23 => ?_)
  obtain ⟨rfl, g23, rfl, k23, x23⟩ := e23
  refine bc_iconst (v := 0) dX10_passes_26 (by decide) ?_
  refine bc_istore_n dX10_passes_27 (by decide) rfl ?_
  have x23' : (g23 28, g23 29, g23 31) = mvA M n no nq A := by
    rw [x23]
    show goM _ _ _ _ (g16 28, g16 29, g16 31) = _
    rw [x16, hs8, s5, s6, s8]
    rfl
  rw [bc_us_us]
  refine loop μ8 g23 _ _ (fun i a1 a2 a3 => (f8 i a1 a2).trans (f2 i a1 a2)) (fun k a1 a2 a3 => (k23 k a1 a2 a3).trans ((k16 k a1 a2 a3).trans (congrFun hs8 k))) x23' no 0 g23 (by omega) (fun j hj => absurd hj (by omega)) (fun _ _ => rfl)
theorem sR_u {f : Nat → Int32} (h : sR A f) : True := trivial
theorem t_lights {o : Nat} (hs : sR A (m 20)) (hA : okA no A) (ho : o < 8) : bc_C d LM mX10_lights [.ref 0, .int (nI o)] m (fun r ν => r = some (.int (if 0 < A (o + 6) ∨ ¬ 0 < A 3 then 0 else 1)) ∧ ∃ f, ν = bc_us m 20 f ∧ sR (liR A o) f) := by
  refine bc_enter (by decide) (Nat.le_of_ble_eq_true rfl) rfl ?_
  obtain ⟨s1, s2, s3, s4, s5, s6, s7, s8, s9⟩ := id hs
  have es := s1 o ho
  have hfl := hA.2.2.1.1
  have no' : 0 < A (o + 6) ∨ ¬ 0 < A 3 → bc_W d LM mX10_lights 21 [.ref 0, .int (nI o)] [] m (fun r ν => r = some (.int (if 0 < A (o + 6) ∨ ¬ 0 < A 3 then 0 else 1)) ∧ ∃ f, ν = bc_us m 20 f ∧ sR (liR A o) f) := by
    intro q
    refine bc_iconst (v := 0) dX10_lights_21 (by decide) ?_
    exact bc_ireturn dX10_lights_22 rfl rfl (⟨by rw [if_pos q], m 20, (bc_us_self m 20).symm, by rw [liR, if_pos q]; exact hs⟩)
  refine bc_aload_n dX10_lights_0 rfl ?_
  refine bc_getr dX10_lights_1 fX10_74 (rfl) rfl ?_
  refine bc_iconst (v := 0) dX10_lights_4 (by decide) ?_
  refine bc_iload_n dX10_lights_5 rfl ?_
  refine bc_iadd dX10_lights_6 ?_
  refine bc_ialdE (k := o) dX10_lights_7 (rfl) (ix0 (rfl)) (⟨by omega, by decide⟩) ?_
  refine bc_if_gt (tgt := 21) dX10_lights_8 (by decide) (fun h8 => ?_) (fun h8 => ?_)
  · exact no' (.inl (by rw [← es]; exact h8))
  · refine bc_aload_n dX10_lights_11 rfl ?_
    refine bc_getr dX10_lights_12 fX10_74 (rfl) rfl ?_
    refine bc_bipush (v := 30) dX10_lights_15 (by decide) ?_
    refine bc_ialdE (k := 30) dX10_lights_17 (rfl) (rfl) (⟨by omega, by decide⟩) ?_
    refine bc_if_ne (tgt := 23) dX10_lights_18 (by decide) (fun h18 => ?_) (fun h18 => ?_)
    · refine bc_aload_n dX10_lights_23 rfl ?_
      refine bc_getr dX10_lights_24 fX10_74 (rfl) rfl ?_
      refine bc_iconst (v := 0) dX10_lights_27 (by decide) ?_
      refine bc_iload_n dX10_lights_28 rfl ?_
      refine bc_iadd dX10_lights_29 ?_
      refine bc_iconst (v := 4) dX10_lights_30 (by decide) ?_
      refine bc_iastE (k := o) dX10_lights_31 (rfl) (ix0 (rfl)) (⟨by omega, by decide⟩) ?_
      refine bc_aload_n dX10_lights_32 rfl ?_
      refine bc_getr dX10_lights_33 fX10_74 (rfl) rfl ?_
      refine bc_bipush (v := 8) dX10_lights_36 (by decide) ?_
      refine bc_iload_n dX10_lights_38 rfl ?_
      refine bc_iadd dX10_lights_39 ?_
      refine bc_dup2 dX10_lights_40 rfl rfl ?_
      refine bc_ialdE (k := 8 + o) dX10_lights_41 (rfl) (ixA (a := 8) (b := o) (rfl) (rfl)) (⟨by omega, by decide⟩) ?_
      refine bc_iconst (v := 1) dX10_lights_42 (by decide) ?_
      refine bc_iadd dX10_lights_43 ?_
      refine bc_iastE (k := 8 + o) dX10_lights_44 (rfl) (ixA (a := 8) (b := o) (rfl) (rfl)) (⟨by omega, by decide⟩) ?_
      refine bc_aload_n dX10_lights_45 rfl ?_
      refine bc_getr dX10_lights_46 fX10_74 (rfl) rfl ?_
      refine bc_bipush (v := 30) dX10_lights_49 (by decide) ?_
      refine bc_dup2 dX10_lights_51 rfl rfl ?_
      refine bc_ialdE (k := 30) dX10_lights_52 (rfl) (rfl) (⟨by omega, by decide⟩) ?_
      refine bc_iconst (v := 1) dX10_lights_53 (by decide) ?_
      refine bc_isub dX10_lights_54 ?_
      refine bc_iastE (k := 30) dX10_lights_55 (rfl) (rfl) (⟨by omega, by decide⟩) ?_
      refine bc_iconst (v := 1) dX10_lights_56 (by decide) ?_
      exact bc_ireturn dX10_lights_57 rfl rfl (⟨by
rw [if_neg]
rintro (q | q)
· exact h8 (by rw [es]; exact q)
· refine q ?_
  have h9 : ¬ A 3 = 0 := by rw [← s7]; exact h18
  rw [bn_eq, bn_0] at h9
  rw [bn_lt, bn_0]
  omega, upd (upd (upd (m 20) o 4) (8 + o) (m 20 (8 + o) + 1)) 30 (m 20 30 - 1), by
rw [bc_u_us m 20 o, bc_us_u, bc_us_u]
congr 1
funext k
simp only [upd, bc_us, if_true]
by_cases k30 : k = 30
· rw [if_pos k30, if_pos k30, if_neg (by omega), if_neg (by omega)]
· rw [if_neg k30, if_neg k30]
  by_cases k8 : k = 8 + o
  · rw [if_pos k8, if_pos k8, if_neg (by omega)]
  · rw [if_neg k8, if_neg k8], by
rw [liR, if_neg (by
  rintro (q | q)
  · exact h8 (by rw [es]; exact q)
  · refine q ?_
    have h9 : ¬ A 3 = 0 := by rw [← s7]; exact h18
    rw [bn_eq, bn_0] at h9
    rw [bn_lt, bn_0]
    omega)]
simp only [sR, upd]
refine ⟨fun p hp => ?_, fun p hp => ?_, fun q hq => ?_, fun q hq => ?_, ?_, ?_, ?_, ?_, ?_⟩
· rw [if_neg (show ¬ p = 30 by omega), if_neg (show ¬ p = 8 + o by omega), if_neg (show ¬ p + 6 = 3 by omega), if_neg (show ¬ p + 6 = o + 14 by omega)]
  by_cases e : p = o
  · rw [if_pos e, if_pos (show p + 6 = o + 6 by omega)]
  · rw [if_neg e, if_neg (show ¬ p + 6 = o + 6 by omega)]; exact s1 p hp
· rw [if_neg (show ¬ 8 + p = 30 by omega), if_neg (show ¬ p + 14 = 3 by omega)]
  by_cases e : p = o
  · rw [if_pos (show 8 + p = 8 + o by omega), if_pos (show p + 14 = o + 14 by omega), s2 o ho]
  · rw [if_neg (show ¬ 8 + p = 8 + o by omega), if_neg (show ¬ p + 14 = o + 14 by omega), if_neg (show ¬ 8 + p = o by omega), if_neg (show ¬ p + 14 = o + 6 by omega)]; exact s2 p hp
· rw [if_neg (by omega), if_neg (by omega), if_neg (by omega), if_neg (by omega), if_neg (by omega), if_neg (by omega)]; exact s3 q hq
· rw [if_neg (by omega), if_neg (by omega), if_neg (by omega), if_neg (by omega), if_neg (by omega), if_neg (by omega)]; exact s4 q hq
· rw [if_neg (by omega), if_neg (by omega), if_neg (by omega), if_neg (by omega), if_neg (by omega), if_neg (by omega)]; exact s5
· rw [if_neg (by omega), if_neg (by omega), if_neg (by omega), if_neg (by omega), if_neg (by omega), if_neg (by omega)]; exact s6
· rw [if_pos trivial, if_pos trivial, s7]
· rw [if_neg (by omega), if_neg (by omega), if_neg (by omega), if_neg (by omega), if_neg (by omega), if_neg (by omega)]; exact s8
· rw [if_neg (by omega), if_neg (by omega), if_neg (by omega), if_neg (by omega), if_neg (by omega), if_neg (by omega)]; exact s9⟩)
    · exact no' (.inr (by rw [← s7, show m 20 30 = 0 from h18]; decide))
theorem okA_li {o : Nat} (hA : okA no A) (ho : o < no) : okA no (liR A o) := by
  unfold liR
  by_cases h : 0 < A (o + 6) ∨ ¬ 0 < A 3
  · rw [if_pos h]; exact hA
  · rw [if_neg h]
    have h3 : 0 < A 3 := Decidable.not_not.mp (fun q => h (.inr q))
    rw [bn_lt, bn_0] at h3
    obtain ⟨a1, a2, a3, a4⟩ := hA
    refine ⟨fun p hp => ?_, fun p h1 h2 => ?_, ?_, ?_⟩
    · simp only [upd]
      rw [if_neg (by omega), if_neg (by omega)]
      by_cases e : p + 6 = o + 6
      · rw [if_pos e]; decide
      · rw [if_neg e]; exact a1 p hp
    · simp only [upd]
      rw [if_neg (by omega), if_neg (by omega), if_neg (by omega)]
      exact a2 p h1 h2
    · simp only [upd, if_true]
      rw [Int32.toInt_sub]
      have e : (1 : Int32).toInt = 1 := rfl
      rw [e, Int.bmod_eq_of_le (by omega) (by omega)]
      omega
    · simp only [upd]
      rw [if_neg (by omega), if_neg (by omega), if_neg (by omega), if_neg (by omega), if_neg (by omega), if_neg (by omega)]
      exact a4
theorem t_litNow {d : Nat} (hno : m 0 26 = nI no) (h8 : no ≤ 8) (hs : sR A (m 20)) : bc_C d LM mX10_litNow [.ref 0] m (fun r ν => r = some (.int (litA no A)) ∧ ν = m) := by
  refine bc_enter (by decide) (Nat.le_of_ble_eq_true rfl) rfl ?_
  have loop : ∀ (c k : Nat), k + c = no → bc_W d LM mX10_litNow 4 [.ref 0, .int (lbM (fun o => A (o + 6)) 0 k), .int (nI k)] [] m (fun r ν => r = some (.int (litA no A)) ∧ ν = m) := by
    intro c
    induction c with
    | zero =>
      intro k hk
      have hk : k = no := by omega
      subst hk
      refine bc_iload_n dX10_litNow_4 rfl ?_
      refine bc_aload_n dX10_litNow_5 rfl ?_
      refine bc_geti dX10_litNow_6 fX10_185 (rfl) rfl ?_
      refine bc_icmp_ge (tgt := 39) dX10_litNow_9 (by decide) (fun h9 => ?_) (fun h9 => absurd h9 (fun q => q (bx_out hno (Nat.le_refl _) (by omega))))
      refine bc_iload_n dX10_litNow_39 rfl ?_
      exact bc_ireturn dX10_litNow_40 rfl rfl (⟨rfl, rfl⟩)
    | succ c ih =>
      intro k hk
      have es := hs.1 k (by omega)
      have h2 := ih (k + 1) (by omega)
      refine bc_iload_n dX10_litNow_4 rfl ?_
      refine bc_aload_n dX10_litNow_5 rfl ?_
      refine bc_geti dX10_litNow_6 fX10_185 (rfl) rfl ?_
      refine bc_icmp_ge (tgt := 39) dX10_litNow_9 (by decide) (fun h9 => absurd h9 (bx_in hno (by omega) (by omega))) (fun h9 => ?_)
      refine bc_iload_n dX10_litNow_12 rfl ?_
      refine bc_aload_n dX10_litNow_13 rfl ?_
      refine bc_getr dX10_litNow_14 fX10_74 (rfl) rfl ?_
      refine bc_iconst (v := 0) dX10_litNow_17 (by decide) ?_
      refine bc_iload_n dX10_litNow_18 rfl ?_
      refine bc_iadd dX10_litNow_19 ?_
      refine bc_ialdE (k := k) dX10_litNow_20 (rfl) (ix0 (rfl)) (⟨by omega, by decide⟩) ?_
      refine bc_if_le (tgt := 30) dX10_litNow_21 (by decide) (fun h21 => ?_) (fun h21 => ?_)
      · refine bc_iconst (v := 0) dX10_litNow_30 (by decide) ?_
        refine bc_ior dX10_litNow_31 ?_
        refine bc_istore_n dX10_litNow_32 (by decide) rfl ?_
        refine bc_iinc1 dX10_litNow_33 rfl (by decide) rfl ?_
        refine bc_goto (tgt := 4) dX10_litNow_36 (by decide) ?_
        rw [show lbM (fun o => A (o + 6)) 0 (k + 1) = lbM (fun o => A (o + 6)) 0 k by rw [lbM, if_neg (by rw [← es]; exact Int32.not_lt.mpr h21)]] at h2
        rw [bn_add1, Int32.or_zero]
        exact h2
      · refine bc_iconst (v := 1) dX10_litNow_24 (by decide) ?_
        refine bc_iload_n dX10_litNow_25 rfl ?_
        refine bc_ishl dX10_litNow_26 ?_
        refine bc_goto (tgt := 31) dX10_litNow_27 (by decide) ?_
        refine bc_ior dX10_litNow_31 ?_
        refine bc_istore_n dX10_litNow_32 (by decide) rfl ?_
        refine bc_iinc1 dX10_litNow_33 rfl (by decide) rfl ?_
        refine bc_goto (tgt := 4) dX10_litNow_36 (by decide) ?_
        rw [show lbM (fun o => A (o + 6)) 0 (k + 1) = lbM (fun o => A (o + 6)) 0 k ||| 1 <<< (nI k &&& 31) by rw [lbM, if_pos (by rw [← es]; exact Int32.not_le.mp h21)]] at h2
        rw [bn_add1]
        exact h2
  refine bc_iconst (v := 0) dX10_litNow_0 (by decide) ?_
  refine bc_istore_n dX10_litNow_1 (by decide) rfl ?_
  refine bc_iconst (v := 0) dX10_litNow_2 (by decide) ?_
  refine bc_istore_n dX10_litNow_3 (by decide) rfl ?_
  exact loop no 0 (by omega)
end T62
