/-! BreadCity$Bog reads its text -/
section RDB
variable {d : Nat} {μ : bc_M} {n a k : Nat} {f q : Int32}
theorem tq_snd {S : TS} (h : tq n S a f q) (hf : f = 0) : ∃ p, S = .inr p := by
  cases S with
  | inl x => obtain ⟨x, y⟩ := x; exact absurd hf (tq_f h)
  | inr p => exact ⟨p, rfl⟩
theorem tq_uns {S : TS} {p : Nat} (h : tq n S a f q) (hf : ¬ f = 0) : ¬ S = .inr p := by
  intro e
  subst e
  exact hf h.2.2.1
theorem i10 {b : Prop} [Decidable b] (h : (if b then (1 : Int32) else 0) = 0) : ¬ b := by
  intro x
  rw [if_pos x] at h
  exact absurd h (by decide)
theorem i11 {b : Prop} [Decidable b] (h : ¬ (if b then (1 : Int32) else 0) = 0) : b := by
  by_cases x : b
  · exact x
  · rw [if_neg x] at h
    exact absurd rfl h
theorem fr_u {i j : Nat} {v : Int32} {μ μ' : bc_M} (h : fr11 μ μ') (h1 : 11 ≤ i) (h2 : i ≤ 18) : fr11 μ (bc_u μ' i j v) := fun x hx => (bc_u_i (by omega)).trans (h x hx)
theorem bR_q {B : BG} {x y : Nat} (h : bR 11 μ B) : bR 11 (bc_u (bc_u (bc_u μ 12 B.1.length (nI x)) 13 B.1.length (nI y)) 11 0 (nI (B.1.length + 1))) (B.1 ++ [(x, y)], B.2) := by
  obtain ⟨⟨a1, a2⟩, ⟨b1, b2⟩, ⟨c1, c2⟩, ⟨e1, e2⟩, g1, g2, g3⟩ := h
  have k1 : ∀ (i : Nat), i ≠ 0 → bc_u (bc_u (bc_u μ 12 B.1.length (nI x)) 13 B.1.length (nI y)) 11 0 (nI (B.1.length + 1)) 11 i = μ 11 i := by
    intro i hi
    rw [bc_u_s]
    simp only [upd, if_neg hi]
    rw [bc_u_i (by decide), bc_u_i (by decide)]
  have k2 : ∀ (i : Nat), i ≠ 11 → i ≠ 12 → i ≠ 13 → bc_u (bc_u (bc_u μ 12 B.1.length (nI x)) 13 B.1.length (nI y)) 11 0 (nI (B.1.length + 1)) i = μ i := by
    intro i x1 x2 x3
    rw [bc_u_i x1, bc_u_i x3, bc_u_i x2]
  have k3 : bc_u (bc_u (bc_u μ 12 B.1.length (nI x)) 13 B.1.length (nI y)) 11 0 (nI (B.1.length + 1)) 11 0 = nI (B.1.length + 1) := by
    rw [bc_u_s]; simp [upd]
  have k4 : bc_u (bc_u (bc_u μ 12 B.1.length (nI x)) 13 B.1.length (nI y)) 11 0 (nI (B.1.length + 1)) 12 = upd (μ 12) B.1.length (nI x) := by
    rw [bc_u_i (by decide), bc_u_i (by decide), bc_u_s]
  have k5 : bc_u (bc_u (bc_u μ 12 B.1.length (nI x)) 13 B.1.length (nI y)) 11 0 (nI (B.1.length + 1)) 13 = upd (μ 13) B.1.length (nI y) := by
    rw [bc_u_i (by decide), bc_u_s, bc_u_i (by decide)]
  generalize bc_u (bc_u (bc_u μ 12 B.1.length (nI x)) 13 B.1.length (nI y)) 11 0 (nI (B.1.length + 1)) = ν at *
  refine ⟨⟨?_, ?_⟩, ⟨?_, ?_⟩, ⟨?_, ?_⟩, ⟨?_, ?_⟩, ?_, ?_, ?_⟩
  · simp only [List.length_append, List.length_cons, List.length_nil]; exact k3
  · show prR (ν 12) (ν 13) _; rw [k4, k5]; exact prR_snoc a2
  · rw [k1 1 (by decide)]; exact b1
  · show prR (ν 14) (ν 15) _; rw [k2 14 (by decide) (by decide) (by decide), k2 15 (by decide) (by decide) (by decide)]; exact b2
  · rw [k1 2 (by decide)]; exact c1
  · intro y hy; show ν 18 y = _; rw [k2 18 (by decide) (by decide) (by decide)]; exact c2 y hy
  · rw [k1 3 (by decide)]; exact e1
  · show prR (ν 16) (ν 17) _; rw [k2 16 (by decide) (by decide) (by decide), k2 17 (by decide) (by decide) (by decide)]; exact e2
  · rw [k1 4 (by decide)]; exact g1
  · rw [k1 5 (by decide)]; exact g2
  · rw [k1 6 (by decide)]; exact g3
theorem bR_o {B : BG} {x y : Nat} (h : bR 11 μ B) : bR 11 (bc_u (bc_u (bc_u μ 14 B.2.1.length (nI x)) 15 B.2.1.length (nI y)) 11 1 (nI (B.2.1.length + 1))) (B.1, B.2.1 ++ [(x, y)], B.2.2) := by
  obtain ⟨⟨a1, a2⟩, ⟨b1, b2⟩, ⟨c1, c2⟩, ⟨e1, e2⟩, g1, g2, g3⟩ := h
  have k1 : ∀ (i : Nat), i ≠ 1 → bc_u (bc_u (bc_u μ 14 B.2.1.length (nI x)) 15 B.2.1.length (nI y)) 11 1 (nI (B.2.1.length + 1)) 11 i = μ 11 i := by
    intro i hi
    rw [bc_u_s]
    simp only [upd, if_neg hi]
    rw [bc_u_i (by decide), bc_u_i (by decide)]
  have k2 : ∀ (i : Nat), i ≠ 11 → i ≠ 14 → i ≠ 15 → bc_u (bc_u (bc_u μ 14 B.2.1.length (nI x)) 15 B.2.1.length (nI y)) 11 1 (nI (B.2.1.length + 1)) i = μ i := by
    intro i x1 x2 x3
    rw [bc_u_i x1, bc_u_i x3, bc_u_i x2]
  have k3 : bc_u (bc_u (bc_u μ 14 B.2.1.length (nI x)) 15 B.2.1.length (nI y)) 11 1 (nI (B.2.1.length + 1)) 11 1 = nI (B.2.1.length + 1) := by
    rw [bc_u_s]; simp [upd]
  have k4 : bc_u (bc_u (bc_u μ 14 B.2.1.length (nI x)) 15 B.2.1.length (nI y)) 11 1 (nI (B.2.1.length + 1)) 14 = upd (μ 14) B.2.1.length (nI x) := by
    rw [bc_u_i (by decide), bc_u_i (by decide), bc_u_s]
  have k5 : bc_u (bc_u (bc_u μ 14 B.2.1.length (nI x)) 15 B.2.1.length (nI y)) 11 1 (nI (B.2.1.length + 1)) 15 = upd (μ 15) B.2.1.length (nI y) := by
    rw [bc_u_i (by decide), bc_u_s, bc_u_i (by decide)]
  generalize bc_u (bc_u (bc_u μ 14 B.2.1.length (nI x)) 15 B.2.1.length (nI y)) 11 1 (nI (B.2.1.length + 1)) = ν at *
  refine ⟨⟨?_, ?_⟩, ⟨?_, ?_⟩, ⟨?_, ?_⟩, ⟨?_, ?_⟩, ?_, ?_, ?_⟩
  · rw [k1 0 (by decide)]; exact a1
  · show prR (ν 12) (ν 13) _; rw [k2 12 (by decide) (by decide) (by decide), k2 13 (by decide) (by decide) (by decide)]; exact a2
  · simp only [List.length_append, List.length_cons, List.length_nil]; exact k3
  · show prR (ν 14) (ν 15) _; rw [k4, k5]; exact prR_snoc b2
  · rw [k1 2 (by decide)]; exact c1
  · intro y hy; show ν 18 y = _; rw [k2 18 (by decide) (by decide) (by decide)]; exact c2 y hy
  · rw [k1 3 (by decide)]; exact e1
  · show prR (ν 16) (ν 17) _; rw [k2 16 (by decide) (by decide) (by decide), k2 17 (by decide) (by decide) (by decide)]; exact e2
  · rw [k1 4 (by decide)]; exact g1
  · rw [k1 5 (by decide)]; exact g2
  · rw [k1 6 (by decide)]; exact g3
theorem bR_m {B : BG} {x y : Nat} (h : bR 11 μ B) : bR 11 (bc_u (bc_u (bc_u μ 16 B.2.2.2.1.length (nI x)) 17 B.2.2.2.1.length (nI y)) 11 3 (nI (B.2.2.2.1.length + 1))) (B.1, B.2.1, B.2.2.1, B.2.2.2.1 ++ [(x, y)], B.2.2.2.2) := by
  obtain ⟨⟨a1, a2⟩, ⟨b1, b2⟩, ⟨c1, c2⟩, ⟨e1, e2⟩, g1, g2, g3⟩ := h
  have k1 : ∀ (i : Nat), i ≠ 3 → bc_u (bc_u (bc_u μ 16 B.2.2.2.1.length (nI x)) 17 B.2.2.2.1.length (nI y)) 11 3 (nI (B.2.2.2.1.length + 1)) 11 i = μ 11 i := by
    intro i hi
    rw [bc_u_s]
    simp only [upd, if_neg hi]
    rw [bc_u_i (by decide), bc_u_i (by decide)]
  have k2 : ∀ (i : Nat), i ≠ 11 → i ≠ 16 → i ≠ 17 → bc_u (bc_u (bc_u μ 16 B.2.2.2.1.length (nI x)) 17 B.2.2.2.1.length (nI y)) 11 3 (nI (B.2.2.2.1.length + 1)) i = μ i := by
    intro i x1 x2 x3
    rw [bc_u_i x1, bc_u_i x3, bc_u_i x2]
  have k3 : bc_u (bc_u (bc_u μ 16 B.2.2.2.1.length (nI x)) 17 B.2.2.2.1.length (nI y)) 11 3 (nI (B.2.2.2.1.length + 1)) 11 3 = nI (B.2.2.2.1.length + 1) := by
    rw [bc_u_s]; simp [upd]
  have k4 : bc_u (bc_u (bc_u μ 16 B.2.2.2.1.length (nI x)) 17 B.2.2.2.1.length (nI y)) 11 3 (nI (B.2.2.2.1.length + 1)) 16 = upd (μ 16) B.2.2.2.1.length (nI x) := by
    rw [bc_u_i (by decide), bc_u_i (by decide), bc_u_s]
  have k5 : bc_u (bc_u (bc_u μ 16 B.2.2.2.1.length (nI x)) 17 B.2.2.2.1.length (nI y)) 11 3 (nI (B.2.2.2.1.length + 1)) 17 = upd (μ 17) B.2.2.2.1.length (nI y) := by
    rw [bc_u_i (by decide), bc_u_s, bc_u_i (by decide)]
  generalize bc_u (bc_u (bc_u μ 16 B.2.2.2.1.length (nI x)) 17 B.2.2.2.1.length (nI y)) 11 3 (nI (B.2.2.2.1.length + 1)) = ν at *
  refine ⟨⟨?_, ?_⟩, ⟨?_, ?_⟩, ⟨?_, ?_⟩, ⟨?_, ?_⟩, ?_, ?_, ?_⟩
  · rw [k1 0 (by decide)]; exact a1
  · show prR (ν 12) (ν 13) _; rw [k2 12 (by decide) (by decide) (by decide), k2 13 (by decide) (by decide) (by decide)]; exact a2
  · rw [k1 1 (by decide)]; exact b1
  · show prR (ν 14) (ν 15) _; rw [k2 14 (by decide) (by decide) (by decide), k2 15 (by decide) (by decide) (by decide)]; exact b2
  · rw [k1 2 (by decide)]; exact c1
  · intro y hy; show ν 18 y = _; rw [k2 18 (by decide) (by decide) (by decide)]; exact c2 y hy
  · simp only [List.length_append, List.length_cons, List.length_nil]; exact k3
  · show prR (ν 16) (ν 17) _; rw [k4, k5]; exact prR_snoc e2
  · rw [k1 4 (by decide)]; exact g1
  · rw [k1 5 (by decide)]; exact g2
  · rw [k1 6 (by decide)]; exact g3
theorem s_readQuarter {S : TS} {B : BG} (hn : n ≤ 600) (h2 : μ 1 2 = nI n) (hS : tq n S a f q) (hk : k ≤ n) (hB : bR 11 μ B) (hO : bOk B) : bc_C (d + 3) LC mX0_readQuarter [.ref 11, .ref 1] (tx μ a k f q) (fun r ν => r = none ∧ ∃ μ' a' k' f' q', ν = tx μ' a' k' f' q' ∧ fr11 μ μ' ∧ tq n (pCl (μ 2) n 0 B 0 (if 6 ≤ B.1.length then sAcc 3 k S else S)).1 a' f' q' ∧ (∀ p, (pCl (μ 2) n 0 B 0 (if 6 ≤ B.1.length then sAcc 3 k S else S)).1 = .inr p → bR 11 μ' (pCl (μ 2) n 0 B 0 (if 6 ≤ B.1.length then sAcc 3 k S else S)).2)) := by
  have hlen : B.1.length ≤ 6 := hO.1
  have hq : μ 11 0 = nI B.1.length := hB.1.1
  refine bc_enter (by decide) (Nat.le_of_ble_eq_true rfl) rfl ?_
  have go : ∀ (S : TS) (f q : Int32), tq n S a f q → (∀ p, S = .inr p → B.1.length < 6) → bc_W (d + 3) LC mX0_readQuarter 18 [.ref 11, .ref 1, .null, .null] [] (tx μ a k f q) (fun r ν => r = none ∧ ∃ μ' a' k' f' q', ν = tx μ' a' k' f' q' ∧ fr11 μ μ' ∧ tq n (pCl (μ 2) n 0 B 0 S).1 a' f' q' ∧ (∀ p, (pCl (μ 2) n 0 B 0 S).1 = .inr p → bR 11 μ' (pCl (μ 2) n 0 B 0 S).2)) := by
    intro S f q hS hlt
    refine bc_aload_n dX0_readQuarter_18 rfl ?_
    refine bc_iconst (v := 0) dX0_readQuarter_19 (by decide) ?_
    refine bc_iconst (v := 3) dX0_readQuarter_20 (by decide) ?_
    refine bc_callV (z := mX7_number) (ci := 7) dX0_readQuarter_21 lX0_102 qX7_number (by rfl) (by rfl) (by rfl) (by rfl) (Nat.le_of_ble_eq_true rfl) (s_number (d := d) (LO := 0) (HI := 4) hn h2 hS (by decide) (by decide) (by omega) (by omega)) (fun r21 μ21 e21 => ?_)
    obtain ⟨a1, f1, q1, v1, rfl, rfl, t1, w1⟩ := e21
    refine bc_istore_n dX0_readQuarter_24 (by decide) rfl ?_
    refine bc_aload_n dX0_readQuarter_25 rfl ?_
    refine bc_iconst (v := 1) dX0_readQuarter_26 (by decide) ?_
    refine bc_bipush (v := 99) dX0_readQuarter_27 (by decide) ?_
    refine bc_callV (z := mX7_number) (ci := 7) dX0_readQuarter_29 lX0_102 qX7_number (by rfl) (by rfl) (by rfl) (by rfl) (Nat.le_of_ble_eq_true rfl) (s_number (d := d) (LO := 1) (HI := 100) hn h2 t1 (by decide) (by decide) (by omega) (by omega)) (fun r29 μ29 e29 => ?_)
    obtain ⟨a2, f2, q2, v2, rfl, rfl, t2, w2⟩ := e29
    refine bc_istore_n dX0_readQuarter_32 (by decide) rfl ?_
    refine bc_aload_n dX0_readQuarter_33 rfl ?_
    refine bc_callV (z := mX7_isSound) (ci := 7) dX0_readQuarter_34 lX0_106 qX7_isSound (by rfl) (by rfl) (by rfl) (by rfl) (Nat.le_of_ble_eq_true rfl) (s_sound) (fun r34 μ34 e34 => ?_)
    obtain ⟨rfl, q34⟩ := e34
    obtain rfl := q34.symm
    refine bc_if_eq (tgt := 94) dX0_readQuarter_37 (by decide) (fun h37 => ?_) (fun h37 => ?_)
    · exact bc_return dX0_readQuarter_94 rfl ⟨rfl, μ, a2, a1, f2, q2, rfl, fr11.refl μ, t2, fun p hp => absurd hp (tq_uns t2 (i10 h37))⟩
    · have hf2 := i11 h37
      obtain ⟨p2, hp2⟩ := tq_snd t2 hf2
      obtain ⟨⟨p1, hp1, -, -⟩, -, -⟩ := sNum_ok hp2
      obtain ⟨⟨p0, hp0, -, -⟩, -, -⟩ := sNum_ok hp1
      have hl := hlt p0 hp0
      have ev1 := w1 p1 hp1
      have ev2 := w2 p2 hp2
      subst ev1
      subst ev2
      refine bc_aload_n dX0_readQuarter_40 rfl ?_
      refine bc_geti dX0_readQuarter_41 fX0_36 (rfl) rfl ?_
      refine bc_aload_n dX0_readQuarter_44 rfl ?_
      refine bc_getr dX0_readQuarter_45 fX0_9 (rfl) rfl ?_
      refine bc_len0 dX0_readQuarter_48 (rfl) ?_
      refine bc_icmp_ge (tgt := 94) dX0_readQuarter_49 (by decide) (fun h49 => absurd h49 (by rw [tx_i _ _ _ _ _ (by decide), hq, bn_leN (by omega) (by omega)]; omega)) (fun h49 => ?_)
      refine bc_aload_n dX0_readQuarter_52 rfl ?_
      refine bc_geti dX0_readQuarter_53 fX0_36 (rfl) rfl ?_
      refine bc_aload_n dX0_readQuarter_56 rfl ?_
      refine bc_getr dX0_readQuarter_57 fX0_15 (rfl) rfl ?_
      refine bc_len0 dX0_readQuarter_60 (rfl) ?_
      refine bc_icmp_ge (tgt := 94) dX0_readQuarter_61 (by decide) (fun h61 => absurd h61 (by rw [tx_i _ _ _ _ _ (by decide), hq, bn_leN (by omega) (by omega)]; omega)) (fun h61 => ?_)
      refine bc_aload_n dX0_readQuarter_64 rfl ?_
      refine bc_getr dX0_readQuarter_65 fX0_9 (rfl) rfl ?_
      refine bc_aload_n dX0_readQuarter_68 rfl ?_
      refine bc_geti dX0_readQuarter_69 fX0_36 (rfl) rfl ?_
      refine bc_iload_n dX0_readQuarter_72 rfl ?_
      refine bc_iastE dX0_readQuarter_73 (rfl) (by rw [tx_i _ _ _ _ _ (by decide)]; exact hq) (by omega) ?_
      refine bc_aload_n dX0_readQuarter_74 rfl ?_
      refine bc_getr dX0_readQuarter_75 fX0_15 (rfl) rfl ?_
      refine bc_aload_n dX0_readQuarter_78 rfl ?_
      refine bc_geti dX0_readQuarter_79 fX0_36 (rfl) rfl ?_
      refine bc_iload_n dX0_readQuarter_82 rfl ?_
      refine bc_iastE dX0_readQuarter_83 (rfl) (by rw [bc_u_i (by decide), tx_i _ _ _ _ _ (by decide)]; exact hq) (by omega) ?_
      refine bc_aload_n dX0_readQuarter_84 rfl ?_
      refine bc_dup dX0_readQuarter_85 rfl ?_
      refine bc_geti dX0_readQuarter_86 fX0_36 (rfl) rfl ?_
      refine bc_iconst (v := 1) dX0_readQuarter_89 (by decide) ?_
      refine bc_iadd dX0_readQuarter_90 ?_
      refine bc_put dX0_readQuarter_91 fX0_36 ftX0 fpX0_0 rfl rfl (rfl) rfl ?_
      refine bc_return dX0_readQuarter_94 rfl ⟨rfl, bc_u (bc_u (bc_u μ 12 B.1.length (nI (sNum (μ 2) n 0 4 S).2)) 13 B.1.length (nI (sNum (μ 2) n 1 100 (sNum (μ 2) n 0 4 S).1).2)) 11 0 (nI (B.1.length + 1)), a2, a1, f2, q2, ?_, fr_u (fr_u (fr_u (fr11.refl μ) (by decide) (by decide)) (by decide) (by decide)) (by decide) (by decide), t2, fun p hp => ?_⟩
      · rw [bc_u_i (by decide), bc_u_i (by decide), tx_i _ _ _ _ _ (by decide), hq, bn_add1, tx_u _ _ _ _ _ (by decide), tx_u _ _ _ _ _ (by decide), tx_u _ _ _ _ _ (by decide)]
      · exact bR_q hB
  by_cases hfull : 6 ≤ B.1.length
  · rw [if_pos hfull]
    refine bc_aload_n dX0_readQuarter_0 rfl ?_
    refine bc_geti dX0_readQuarter_1 fX0_36 (rfl) rfl ?_
    refine bc_bipush (v := 6) dX0_readQuarter_4 (by decide) ?_
    refine bc_icmp_lt (tgt := 18) dX0_readQuarter_6 (by decide) (fun h6 => absurd h6 (by rw [tx_i _ _ _ _ _ (by decide), hq]; exact nI_nlt hfull (by omega))) (fun h6 => ?_)
    refine bc_aload_n dX0_readQuarter_9 rfl ?_
    refine bc_iconst (v := 3) dX0_readQuarter_10 (by decide) ?_
    refine bc_aload_n dX0_readQuarter_11 rfl ?_
    refine bc_geti dX0_readQuarter_12 fX0_82 (rfl) rfl ?_
    refine bc_callV (z := mX7_accuse) (ci := 7) dX0_readQuarter_15 lX0_85 qX7_accuse (by rfl) (by rfl) (by rfl) (by rfl) (Nat.le_of_ble_eq_true rfl) (s_accuse _ _) (fun r15 μ15 e15 => ?_)
    obtain ⟨rfl, q15⟩ := e15
    obtain rfl := q15.symm
    rw [tx_4]
    exact go _ _ _ (tq_acc (kd := 3) (pl := k) hS (by omega) (by omega) hk) (fun p hp => (sAcc_inr hp).elim)
  · rw [if_neg hfull]
    refine bc_aload_n dX0_readQuarter_0 rfl ?_
    refine bc_geti dX0_readQuarter_1 fX0_36 (rfl) rfl ?_
    refine bc_bipush (v := 6) dX0_readQuarter_4 (by decide) ?_
    refine bc_icmp_lt (tgt := 18) dX0_readQuarter_6 (by decide) (fun h6 => ?_) (fun h6 => absurd h6 (by rw [tx_i _ _ _ _ _ (by decide), hq]; exact fun x => x (nI_lt (b := 6) (by omega) (by omega))))
    exact go _ _ _ hS (fun p hp => by omega)
theorem s_readOven {S : TS} {B : BG} (hn : n ≤ 600) (h2 : μ 1 2 = nI n) (hS : tq n S a f q) (hk : k ≤ n) (hB : bR 11 μ B) (hO : bOk B) : bc_C (d + 3) LC mX0_readOven [.ref 11, .ref 1] (tx μ a k f q) (fun r ν => r = none ∧ ∃ μ' a' k' f' q', ν = tx μ' a' k' f' q' ∧ fr11 μ μ' ∧ tq n (pCl (μ 2) n 0 B 1 (if 8 ≤ B.2.1.length then sAcc 3 k S else S)).1 a' f' q' ∧ (∀ p, (pCl (μ 2) n 0 B 1 (if 8 ≤ B.2.1.length then sAcc 3 k S else S)).1 = .inr p → bR 11 μ' (pCl (μ 2) n 0 B 1 (if 8 ≤ B.2.1.length then sAcc 3 k S else S)).2)) := by
  have hlen : B.2.1.length ≤ 8 := hO.2.1
  have hq : μ 11 1 = nI B.2.1.length := hB.2.1.1
  refine bc_enter (by decide) (Nat.le_of_ble_eq_true rfl) rfl ?_
  have go : ∀ (S : TS) (f q : Int32), tq n S a f q → (∀ p, S = .inr p → B.2.1.length < 8) → bc_W (d + 3) LC mX0_readOven 18 [.ref 11, .ref 1, .null, .null] [] (tx μ a k f q) (fun r ν => r = none ∧ ∃ μ' a' k' f' q', ν = tx μ' a' k' f' q' ∧ fr11 μ μ' ∧ tq n (pCl (μ 2) n 0 B 1 S).1 a' f' q' ∧ (∀ p, (pCl (μ 2) n 0 B 1 S).1 = .inr p → bR 11 μ' (pCl (μ 2) n 0 B 1 S).2)) := by
    intro S f q hS hlt
    refine bc_aload_n dX0_readOven_18 rfl ?_
    refine bc_iconst (v := 0) dX0_readOven_19 (by decide) ?_
    refine bc_aload_n dX0_readOven_20 rfl ?_
    refine bc_geti dX0_readOven_21 fX0_36 (rfl) rfl ?_
    refine bc_iconst (v := 1) dX0_readOven_24 (by decide) ?_
    refine bc_isub dX0_readOven_25 ?_
    refine bc_callV (z := mX7_number) (ci := 7) dX0_readOven_26 lX0_102 qX7_number (by rfl) (by rfl) (by rfl) (by rfl) (Nat.le_of_ble_eq_true rfl) (s_number (d := d) (LO := 0) (HI := B.1.length) hn h2 hS (by decide) (by rw [tx_i _ _ _ _ _ (by decide), hB.1.1]) (by omega) (by have := hO.1; omega)) (fun r26 μ26 e26 => ?_)
    obtain ⟨a1, f1, q1, v1, rfl, rfl, t1, w1⟩ := e26
    refine bc_istore_n dX0_readOven_29 (by decide) rfl ?_
    refine bc_aload_n dX0_readOven_30 rfl ?_
    refine bc_iconst (v := 1) dX0_readOven_31 (by decide) ?_
    refine bc_bipush (v := 9) dX0_readOven_32 (by decide) ?_
    refine bc_callV (z := mX7_number) (ci := 7) dX0_readOven_34 lX0_102 qX7_number (by rfl) (by rfl) (by rfl) (by rfl) (Nat.le_of_ble_eq_true rfl) (s_number (d := d) (LO := 1) (HI := 10) hn h2 t1 (by decide) (by decide) (by omega) (by omega)) (fun r34 μ34 e34 => ?_)
    obtain ⟨a2, f2, q2, v2, rfl, rfl, t2, w2⟩ := e34
    refine bc_istore_n dX0_readOven_37 (by decide) rfl ?_
    refine bc_aload_n dX0_readOven_38 rfl ?_
    refine bc_callV (z := mX7_isSound) (ci := 7) dX0_readOven_39 lX0_106 qX7_isSound (by rfl) (by rfl) (by rfl) (by rfl) (Nat.le_of_ble_eq_true rfl) (s_sound) (fun r39 μ39 e39 => ?_)
    obtain ⟨rfl, q39⟩ := e39
    obtain rfl := q39.symm
    refine bc_if_eq (tgt := 99) dX0_readOven_42 (by decide) (fun h42 => ?_) (fun h42 => ?_)
    · exact bc_return dX0_readOven_99 rfl ⟨rfl, μ, a2, a1, f2, q2, rfl, fr11.refl μ, t2, fun p hp => absurd hp (tq_uns t2 (i10 h42))⟩
    · have hf2 := i11 h42
      obtain ⟨p2, hp2⟩ := tq_snd t2 hf2
      obtain ⟨⟨p1, hp1, -, -⟩, -, -⟩ := sNum_ok hp2
      obtain ⟨⟨p0, hp0, -, -⟩, -, -⟩ := sNum_ok hp1
      have hl := hlt p0 hp0
      have ev1 := w1 p1 hp1
      have ev2 := w2 p2 hp2
      subst ev1
      subst ev2
      refine bc_aload_n dX0_readOven_45 rfl ?_
      refine bc_geti dX0_readOven_46 fX0_40 (rfl) rfl ?_
      refine bc_aload_n dX0_readOven_49 rfl ?_
      refine bc_getr dX0_readOven_50 fX0_18 (rfl) rfl ?_
      refine bc_len0 dX0_readOven_53 (rfl) ?_
      refine bc_icmp_ge (tgt := 99) dX0_readOven_54 (by decide) (fun h54 => absurd h54 (by rw [tx_i _ _ _ _ _ (by decide), hq, bn_leN (by omega) (by omega)]; omega)) (fun h54 => ?_)
      refine bc_aload_n dX0_readOven_57 rfl ?_
      refine bc_geti dX0_readOven_58 fX0_40 (rfl) rfl ?_
      refine bc_aload_n dX0_readOven_61 rfl ?_
      refine bc_getr dX0_readOven_62 fX0_21 (rfl) rfl ?_
      refine bc_len0 dX0_readOven_65 (rfl) ?_
      refine bc_icmp_ge (tgt := 99) dX0_readOven_66 (by decide) (fun h66 => absurd h66 (by rw [tx_i _ _ _ _ _ (by decide), hq, bn_leN (by omega) (by omega)]; omega)) (fun h66 => ?_)
      refine bc_aload_n dX0_readOven_69 rfl ?_
      refine bc_getr dX0_readOven_70 fX0_18 (rfl) rfl ?_
      refine bc_aload_n dX0_readOven_73 rfl ?_
      refine bc_geti dX0_readOven_74 fX0_40 (rfl) rfl ?_
      refine bc_iload_n dX0_readOven_77 rfl ?_
      refine bc_iastE dX0_readOven_78 (rfl) (by rw [tx_i _ _ _ _ _ (by decide)]; exact hq) (by omega) ?_
      refine bc_aload_n dX0_readOven_79 rfl ?_
      refine bc_getr dX0_readOven_80 fX0_21 (rfl) rfl ?_
      refine bc_aload_n dX0_readOven_83 rfl ?_
      refine bc_geti dX0_readOven_84 fX0_40 (rfl) rfl ?_
      refine bc_iload_n dX0_readOven_87 rfl ?_
      refine bc_iastE dX0_readOven_88 (rfl) (by rw [bc_u_i (by decide), tx_i _ _ _ _ _ (by decide)]; exact hq) (by omega) ?_
      refine bc_aload_n dX0_readOven_89 rfl ?_
      refine bc_dup dX0_readOven_90 rfl ?_
      refine bc_geti dX0_readOven_91 fX0_40 (rfl) rfl ?_
      refine bc_iconst (v := 1) dX0_readOven_94 (by decide) ?_
      refine bc_iadd dX0_readOven_95 ?_
      refine bc_put dX0_readOven_96 fX0_40 ftX0 fpX0_1 rfl rfl (rfl) rfl ?_
      refine bc_return dX0_readOven_99 rfl ⟨rfl, bc_u (bc_u (bc_u μ 14 B.2.1.length (nI (sNum (μ 2) n 0 B.1.length S).2)) 15 B.2.1.length (nI (sNum (μ 2) n 1 10 (sNum (μ 2) n 0 B.1.length S).1).2)) 11 1 (nI (B.2.1.length + 1)), a2, a1, f2, q2, ?_, fr_u (fr_u (fr_u (fr11.refl μ) (by decide) (by decide)) (by decide) (by decide)) (by decide) (by decide), t2, fun p hp => ?_⟩
      · rw [bc_u_i (by decide), bc_u_i (by decide), tx_i _ _ _ _ _ (by decide), hq, bn_add1, tx_u _ _ _ _ _ (by decide), tx_u _ _ _ _ _ (by decide), tx_u _ _ _ _ _ (by decide)]
      · exact bR_o hB
  by_cases hfull : 8 ≤ B.2.1.length
  · rw [if_pos hfull]
    refine bc_aload_n dX0_readOven_0 rfl ?_
    refine bc_geti dX0_readOven_1 fX0_40 (rfl) rfl ?_
    refine bc_bipush (v := 8) dX0_readOven_4 (by decide) ?_
    refine bc_icmp_lt (tgt := 18) dX0_readOven_6 (by decide) (fun h6 => absurd h6 (by rw [tx_i _ _ _ _ _ (by decide), hq]; exact nI_nlt hfull (by omega))) (fun h6 => ?_)
    refine bc_aload_n dX0_readOven_9 rfl ?_
    refine bc_iconst (v := 3) dX0_readOven_10 (by decide) ?_
    refine bc_aload_n dX0_readOven_11 rfl ?_
    refine bc_geti dX0_readOven_12 fX0_82 (rfl) rfl ?_
    refine bc_callV (z := mX7_accuse) (ci := 7) dX0_readOven_15 lX0_85 qX7_accuse (by rfl) (by rfl) (by rfl) (by rfl) (Nat.le_of_ble_eq_true rfl) (s_accuse _ _) (fun r15 μ15 e15 => ?_)
    obtain ⟨rfl, q15⟩ := e15
    obtain rfl := q15.symm
    rw [tx_4]
    exact go _ _ _ (tq_acc (kd := 3) (pl := k) hS (by omega) (by omega) hk) (fun p hp => (sAcc_inr hp).elim)
  · rw [if_neg hfull]
    refine bc_aload_n dX0_readOven_0 rfl ?_
    refine bc_geti dX0_readOven_1 fX0_40 (rfl) rfl ?_
    refine bc_bipush (v := 8) dX0_readOven_4 (by decide) ?_
    refine bc_icmp_lt (tgt := 18) dX0_readOven_6 (by decide) (fun h6 => ?_) (fun h6 => absurd h6 (by rw [tx_i _ _ _ _ _ (by decide), hq]; exact fun x => x (nI_lt (b := 8) (by omega) (by omega))))
    exact go _ _ _ hS (fun p hp => by omega)
theorem s_readMooring {S : TS} {B : BG} (hn : n ≤ 600) (h2 : μ 1 2 = nI n) (hS : tq n S a f q) (hk : k ≤ n) (hB : bR 11 μ B) (hO : bOk B) : bc_C (d + 3) LC mX0_readMooring [.ref 11, .ref 1] (tx μ a k f q) (fun r ν => r = none ∧ ∃ μ' a' k' f' q', ν = tx μ' a' k' f' q' ∧ fr11 μ μ' ∧ tq n (pCl (μ 2) n 0 B 3 (if 6 ≤ B.2.2.2.1.length then sAcc 3 k S else S)).1 a' f' q' ∧ (∀ p, (pCl (μ 2) n 0 B 3 (if 6 ≤ B.2.2.2.1.length then sAcc 3 k S else S)).1 = .inr p → bR 11 μ' (pCl (μ 2) n 0 B 3 (if 6 ≤ B.2.2.2.1.length then sAcc 3 k S else S)).2)) := by
  have hlen : B.2.2.2.1.length ≤ 6 := hO.2.2.2.1
  have hq : μ 11 3 = nI B.2.2.2.1.length := hB.2.2.2.1.1
  refine bc_enter (by decide) (Nat.le_of_ble_eq_true rfl) rfl ?_
  have go : ∀ (S : TS) (f q : Int32), tq n S a f q → (∀ p, S = .inr p → B.2.2.2.1.length < 6) → bc_W (d + 3) LC mX0_readMooring 18 [.ref 11, .ref 1, .null, .null] [] (tx μ a k f q) (fun r ν => r = none ∧ ∃ μ' a' k' f' q', ν = tx μ' a' k' f' q' ∧ fr11 μ μ' ∧ tq n (pCl (μ 2) n 0 B 3 S).1 a' f' q' ∧ (∀ p, (pCl (μ 2) n 0 B 3 S).1 = .inr p → bR 11 μ' (pCl (μ 2) n 0 B 3 S).2)) := by
    intro S f q hS hlt
    refine bc_aload_n dX0_readMooring_18 rfl ?_
    refine bc_iconst (v := 0) dX0_readMooring_19 (by decide) ?_
    refine bc_bipush (v := 30) dX0_readMooring_20 (by decide) ?_
    refine bc_callV (z := mX7_number) (ci := 7) dX0_readMooring_22 lX0_102 qX7_number (by rfl) (by rfl) (by rfl) (by rfl) (Nat.le_of_ble_eq_true rfl) (s_number (d := d) (LO := 0) (HI := 31) hn h2 hS (by decide) (by decide) (by omega) (by omega)) (fun r22 μ22 e22 => ?_)
    obtain ⟨a1, f1, q1, v1, rfl, rfl, t1, w1⟩ := e22
    refine bc_istore_n dX0_readMooring_25 (by decide) rfl ?_
    refine bc_aload_n dX0_readMooring_26 rfl ?_
    refine bc_iconst (v := 0) dX0_readMooring_27 (by decide) ?_
    refine bc_bipush (v := 30) dX0_readMooring_28 (by decide) ?_
    refine bc_callV (z := mX7_number) (ci := 7) dX0_readMooring_30 lX0_102 qX7_number (by rfl) (by rfl) (by rfl) (by rfl) (Nat.le_of_ble_eq_true rfl) (s_number (d := d) (LO := 0) (HI := 31) hn h2 t1 (by decide) (by decide) (by omega) (by omega)) (fun r30 μ30 e30 => ?_)
    obtain ⟨a2, f2, q2, v2, rfl, rfl, t2, w2⟩ := e30
    refine bc_istore_n dX0_readMooring_33 (by decide) rfl ?_
    refine bc_aload_n dX0_readMooring_34 rfl ?_
    refine bc_callV (z := mX7_isSound) (ci := 7) dX0_readMooring_35 lX0_106 qX7_isSound (by rfl) (by rfl) (by rfl) (by rfl) (Nat.le_of_ble_eq_true rfl) (s_sound) (fun r35 μ35 e35 => ?_)
    obtain ⟨rfl, q35⟩ := e35
    obtain rfl := q35.symm
    refine bc_if_eq (tgt := 95) dX0_readMooring_38 (by decide) (fun h38 => ?_) (fun h38 => ?_)
    · exact bc_return dX0_readMooring_95 rfl ⟨rfl, μ, a2, a1, f2, q2, rfl, fr11.refl μ, t2, fun p hp => absurd hp (tq_uns t2 (i10 h38))⟩
    · have hf2 := i11 h38
      obtain ⟨p2, hp2⟩ := tq_snd t2 hf2
      obtain ⟨⟨p1, hp1, -, -⟩, -, -⟩ := sNum_ok hp2
      obtain ⟨⟨p0, hp0, -, -⟩, -, -⟩ := sNum_ok hp1
      have hl := hlt p0 hp0
      have ev1 := w1 p1 hp1
      have ev2 := w2 p2 hp2
      subst ev1
      subst ev2
      refine bc_aload_n dX0_readMooring_41 rfl ?_
      refine bc_geti dX0_readMooring_42 fX0_46 (rfl) rfl ?_
      refine bc_aload_n dX0_readMooring_45 rfl ?_
      refine bc_getr dX0_readMooring_46 fX0_24 (rfl) rfl ?_
      refine bc_len0 dX0_readMooring_49 (rfl) ?_
      refine bc_icmp_ge (tgt := 95) dX0_readMooring_50 (by decide) (fun h50 => absurd h50 (by rw [tx_i _ _ _ _ _ (by decide), hq, bn_leN (by omega) (by omega)]; omega)) (fun h50 => ?_)
      refine bc_aload_n dX0_readMooring_53 rfl ?_
      refine bc_geti dX0_readMooring_54 fX0_46 (rfl) rfl ?_
      refine bc_aload_n dX0_readMooring_57 rfl ?_
      refine bc_getr dX0_readMooring_58 fX0_27 (rfl) rfl ?_
      refine bc_len0 dX0_readMooring_61 (rfl) ?_
      refine bc_icmp_ge (tgt := 95) dX0_readMooring_62 (by decide) (fun h62 => absurd h62 (by rw [tx_i _ _ _ _ _ (by decide), hq, bn_leN (by omega) (by omega)]; omega)) (fun h62 => ?_)
      refine bc_aload_n dX0_readMooring_65 rfl ?_
      refine bc_getr dX0_readMooring_66 fX0_24 (rfl) rfl ?_
      refine bc_aload_n dX0_readMooring_69 rfl ?_
      refine bc_geti dX0_readMooring_70 fX0_46 (rfl) rfl ?_
      refine bc_iload_n dX0_readMooring_73 rfl ?_
      refine bc_iastE dX0_readMooring_74 (rfl) (by rw [tx_i _ _ _ _ _ (by decide)]; exact hq) (by omega) ?_
      refine bc_aload_n dX0_readMooring_75 rfl ?_
      refine bc_getr dX0_readMooring_76 fX0_27 (rfl) rfl ?_
      refine bc_aload_n dX0_readMooring_79 rfl ?_
      refine bc_geti dX0_readMooring_80 fX0_46 (rfl) rfl ?_
      refine bc_iload_n dX0_readMooring_83 rfl ?_
      refine bc_iastE dX0_readMooring_84 (rfl) (by rw [bc_u_i (by decide), tx_i _ _ _ _ _ (by decide)]; exact hq) (by omega) ?_
      refine bc_aload_n dX0_readMooring_85 rfl ?_
      refine bc_dup dX0_readMooring_86 rfl ?_
      refine bc_geti dX0_readMooring_87 fX0_46 (rfl) rfl ?_
      refine bc_iconst (v := 1) dX0_readMooring_90 (by decide) ?_
      refine bc_iadd dX0_readMooring_91 ?_
      refine bc_put dX0_readMooring_92 fX0_46 ftX0 fpX0_3 rfl rfl (rfl) rfl ?_
      refine bc_return dX0_readMooring_95 rfl ⟨rfl, bc_u (bc_u (bc_u μ 16 B.2.2.2.1.length (nI (sNum (μ 2) n 0 31 S).2)) 17 B.2.2.2.1.length (nI (sNum (μ 2) n 0 31 (sNum (μ 2) n 0 31 S).1).2)) 11 3 (nI (B.2.2.2.1.length + 1)), a2, a1, f2, q2, ?_, fr_u (fr_u (fr_u (fr11.refl μ) (by decide) (by decide)) (by decide) (by decide)) (by decide) (by decide), t2, fun p hp => ?_⟩
      · rw [bc_u_i (by decide), bc_u_i (by decide), tx_i _ _ _ _ _ (by decide), hq, bn_add1, tx_u _ _ _ _ _ (by decide), tx_u _ _ _ _ _ (by decide), tx_u _ _ _ _ _ (by decide)]
      · exact bR_m hB
  by_cases hfull : 6 ≤ B.2.2.2.1.length
  · rw [if_pos hfull]
    refine bc_aload_n dX0_readMooring_0 rfl ?_
    refine bc_geti dX0_readMooring_1 fX0_46 (rfl) rfl ?_
    refine bc_bipush (v := 6) dX0_readMooring_4 (by decide) ?_
    refine bc_icmp_lt (tgt := 18) dX0_readMooring_6 (by decide) (fun h6 => absurd h6 (by rw [tx_i _ _ _ _ _ (by decide), hq]; exact nI_nlt hfull (by omega))) (fun h6 => ?_)
    refine bc_aload_n dX0_readMooring_9 rfl ?_
    refine bc_iconst (v := 3) dX0_readMooring_10 (by decide) ?_
    refine bc_aload_n dX0_readMooring_11 rfl ?_
    refine bc_geti dX0_readMooring_12 fX0_82 (rfl) rfl ?_
    refine bc_callV (z := mX7_accuse) (ci := 7) dX0_readMooring_15 lX0_85 qX7_accuse (by rfl) (by rfl) (by rfl) (by rfl) (Nat.le_of_ble_eq_true rfl) (s_accuse _ _) (fun r15 μ15 e15 => ?_)
    obtain ⟨rfl, q15⟩ := e15
    obtain rfl := q15.symm
    rw [tx_4]
    exact go _ _ _ (tq_acc (kd := 3) (pl := k) hS (by omega) (by omega) hk) (fun p hp => (sAcc_inr hp).elim)
  · rw [if_neg hfull]
    refine bc_aload_n dX0_readMooring_0 rfl ?_
    refine bc_geti dX0_readMooring_1 fX0_46 (rfl) rfl ?_
    refine bc_bipush (v := 6) dX0_readMooring_4 (by decide) ?_
    refine bc_icmp_lt (tgt := 18) dX0_readMooring_6 (by decide) (fun h6 => ?_) (fun h6 => absurd h6 (by rw [tx_i _ _ _ _ _ (by decide), hq]; exact fun x => x (nI_lt (b := 6) (by omega) (by omega))))
    exact go _ _ _ hS (fun p hp => by omega)
end RDB
