/-! BreadCity$Bog reads its text: reeds, clauses, all -/
section RDB
variable {d : Nat} {μ : bc_M} {n a k : Nat} {f q : Int32}
theorem bR_r {B : BG} {x y : Nat} (h : bR 11 μ B) (hy : y < 31) : bR 11 (bc_u (bc_u μ 18 y (μ 18 y ||| (1 : Int32) <<< ((nI x) &&& 31))) 11 2 (nI (B.2.2.1.length + 1))) (B.1, B.2.1, B.2.2.1 ++ [(x, y)], B.2.2.2) := by
  obtain ⟨⟨a1, a2⟩, ⟨b1, b2⟩, ⟨c1, c2⟩, ⟨e1, e2⟩, g1, g2, g3⟩ := h
  have k1 : ∀ (i : Nat), i ≠ 2 → bc_u (bc_u μ 18 y (μ 18 y ||| (1 : Int32) <<< ((nI x) &&& 31))) 11 2 (nI (B.2.2.1.length + 1)) 11 i = μ 11 i := by
    intro i hi
    rw [bc_u_s]
    simp only [upd, if_neg hi]
    rw [bc_u_i (by decide)]
  have k2 : ∀ (i : Nat), i ≠ 11 → i ≠ 18 → bc_u (bc_u μ 18 y (μ 18 y ||| (1 : Int32) <<< ((nI x) &&& 31))) 11 2 (nI (B.2.2.1.length + 1)) i = μ i := by
    intro i x1 x2
    rw [bc_u_i x1, bc_u_i x2]
  have k3 : bc_u (bc_u μ 18 y (μ 18 y ||| (1 : Int32) <<< ((nI x) &&& 31))) 11 2 (nI (B.2.2.1.length + 1)) 11 2 = nI (B.2.2.1.length + 1) := by
    rw [bc_u_s]; simp [upd]
  have k4 : bc_u (bc_u μ 18 y (μ 18 y ||| (1 : Int32) <<< ((nI x) &&& 31))) 11 2 (nI (B.2.2.1.length + 1)) 18 = upd (μ 18) y (μ 18 y ||| (1 : Int32) <<< ((nI x) &&& 31)) := by
    rw [bc_u_i (by decide), bc_u_s]
  generalize bc_u (bc_u μ 18 y (μ 18 y ||| (1 : Int32) <<< ((nI x) &&& 31))) 11 2 (nI (B.2.2.1.length + 1)) = ν at *
  refine ⟨⟨?_, ?_⟩, ⟨?_, ?_⟩, ⟨?_, ?_⟩, ⟨?_, ?_⟩, ?_, ?_, ?_⟩
  · rw [k1 0 (by decide)]; exact a1
  · show prR (ν 12) (ν 13) _; rw [k2 12 (by decide) (by decide), k2 13 (by decide) (by decide)]; exact a2
  · rw [k1 1 (by decide)]; exact b1
  · show prR (ν 14) (ν 15) _; rw [k2 14 (by decide) (by decide), k2 15 (by decide) (by decide)]; exact b2
  · simp only [List.length_append, List.length_cons, List.length_nil]; exact k3
  · intro z hz
    show ν 18 z = rdB (B.2.2.1 ++ [(x, y)]).reverse z
    rw [k4, List.reverse_append]
    simp only [List.reverse_cons, List.reverse_nil, List.nil_append, List.singleton_append, rdB]
    by_cases e : y = z
    · subst e
      rw [if_pos rfl]
      simp only [upd, if_true]
      rw [c2 y hy]
    · rw [if_neg e]
      simp only [upd]
      rw [if_neg (fun x => e x.symm)]
      exact c2 z hz
  · rw [k1 3 (by decide)]; exact e1
  · show prR (ν 16) (ν 17) _; rw [k2 16 (by decide) (by decide), k2 17 (by decide) (by decide)]; exact e2
  · rw [k1 4 (by decide)]; exact g1
  · rw [k1 5 (by decide)]; exact g2
  · rw [k1 6 (by decide)]; exact g3
theorem s_readReed {S : TS} {B : BG} (hn : n ≤ 600) (h2 : μ 1 2 = nI n) (hS : tq n S a f q) (hk : k ≤ n) (hB : bR 11 μ B) (hO : bOk B) : bc_C (d + 3) LC mX0_readReed [.ref 11, .ref 1] (tx μ a k f q) (fun r ν => r = none ∧ ∃ μ' a' k' f' q', ν = tx μ' a' k' f' q' ∧ fr11 μ μ' ∧ tq n (pCl (μ 2) n 0 B 2 (if 12 ≤ B.2.2.1.length then sAcc 3 k S else S)).1 a' f' q' ∧ (∀ p, (pCl (μ 2) n 0 B 2 (if 12 ≤ B.2.2.1.length then sAcc 3 k S else S)).1 = .inr p → bR 11 μ' (pCl (μ 2) n 0 B 2 (if 12 ≤ B.2.2.1.length then sAcc 3 k S else S)).2)) := by
  have hlen : B.2.2.1.length ≤ 12 := hO.2.2.1
  have hq : μ 11 2 = nI B.2.2.1.length := hB.2.2.1.1
  refine bc_enter (by decide) (Nat.le_of_ble_eq_true rfl) rfl ?_
  have go : ∀ (S : TS) (f q : Int32), tq n S a f q → (∀ p, S = .inr p → B.2.2.1.length < 12) → bc_W (d + 3) LC mX0_readReed 18 [.ref 11, .ref 1, .null, .null] [] (tx μ a k f q) (fun r ν => r = none ∧ ∃ μ' a' k' f' q', ν = tx μ' a' k' f' q' ∧ fr11 μ μ' ∧ tq n (pCl (μ 2) n 0 B 2 S).1 a' f' q' ∧ (∀ p, (pCl (μ 2) n 0 B 2 S).1 = .inr p → bR 11 μ' (pCl (μ 2) n 0 B 2 S).2)) := by
    intro S f q hS hlt
    refine bc_aload_n dX0_readReed_18 rfl ?_
    refine bc_iconst (v := 0) dX0_readReed_19 (by decide) ?_
    refine bc_bipush (v := 30) dX0_readReed_20 (by decide) ?_
    refine bc_callV (z := mX7_number) (ci := 7) dX0_readReed_22 lX0_102 qX7_number (by rfl) (by rfl) (by rfl) (by rfl) (Nat.le_of_ble_eq_true rfl) (s_number (d := d) (LO := 0) (HI := 31) hn h2 hS (by decide) (by decide) (by omega) (by omega)) (fun r22 μ22 e22 => ?_)
    obtain ⟨a1, f1, q1, v1, rfl, rfl, t1, w1⟩ := e22
    refine bc_istore_n dX0_readReed_25 (by decide) rfl ?_
    refine bc_aload_n dX0_readReed_26 rfl ?_
    refine bc_iconst (v := 0) dX0_readReed_27 (by decide) ?_
    refine bc_bipush (v := 30) dX0_readReed_28 (by decide) ?_
    refine bc_callV (z := mX7_number) (ci := 7) dX0_readReed_30 lX0_102 qX7_number (by rfl) (by rfl) (by rfl) (by rfl) (Nat.le_of_ble_eq_true rfl) (s_number (d := d) (LO := 0) (HI := 31) hn h2 t1 (by decide) (by decide) (by omega) (by omega)) (fun r30 μ30 e30 => ?_)
    obtain ⟨a2, f2, q2, v2, rfl, rfl, t2, w2⟩ := e30
    refine bc_istore_n dX0_readReed_33 (by decide) rfl ?_
    refine bc_aload_n dX0_readReed_34 rfl ?_
    refine bc_callV (z := mX7_isSound) (ci := 7) dX0_readReed_35 lX0_106 qX7_isSound (by rfl) (by rfl) (by rfl) (by rfl) (Nat.le_of_ble_eq_true rfl) (s_sound) (fun r35 μ35 e35 => ?_)
    obtain ⟨rfl, q35⟩ := e35
    obtain rfl := q35.symm
    refine bc_if_eq (tgt := 76) dX0_readReed_38 (by decide) (fun h38 => ?_) (fun h38 => ?_)
    · exact bc_return dX0_readReed_76 rfl ⟨rfl, μ, a2, a1, f2, q2, rfl, fr11.refl μ, t2, fun p hp => absurd hp (tq_uns t2 (i10 h38))⟩
    · have hf2 := i11 h38
      obtain ⟨p2, hp2⟩ := tq_snd t2 hf2
      obtain ⟨⟨p1, hp1, -, -⟩, -, b2⟩ := sNum_ok hp2
      obtain ⟨⟨p0, hp0, -, -⟩, -, b1⟩ := sNum_ok hp1
      have hl := hlt p0 hp0
      have ev1 := w1 p1 hp1
      have ev2 := w2 p2 hp2
      subst ev1
      subst ev2
      refine bc_iload_n dX0_readReed_41 rfl ?_
      refine bc_if_lt (tgt := 76) dX0_readReed_42 (by decide) (fun h42 => absurd h42 (nI_pos (by omega))) (fun h42 => ?_)
      refine bc_iload_n dX0_readReed_45 rfl ?_
      refine bc_aload_n dX0_readReed_46 rfl ?_
      refine bc_getr dX0_readReed_47 fX0_30 (rfl) rfl ?_
      refine bc_len0 dX0_readReed_50 (rfl) ?_
      refine bc_icmp_ge (tgt := 76) dX0_readReed_51 (by decide) (fun h51 => absurd h51 (by rw [show (nI 31 : Int32) = nI 31 from rfl, bn_leN (by omega) (by omega)]; omega)) (fun h51 => ?_)
      refine bc_aload_n dX0_readReed_54 rfl ?_
      refine bc_getr dX0_readReed_55 fX0_30 (rfl) rfl ?_
      refine bc_iload_n dX0_readReed_58 rfl ?_
      refine bc_dup2 dX0_readReed_59 rfl rfl ?_
      refine bc_ialdE dX0_readReed_60 (rfl) (rfl) (by omega) ?_
      refine bc_iconst (v := 1) dX0_readReed_61 (by decide) ?_
      refine bc_iload_n dX0_readReed_62 rfl ?_
      refine bc_ishl dX0_readReed_63 ?_
      refine bc_ior dX0_readReed_64 ?_
      refine bc_iastE dX0_readReed_65 (rfl) (rfl) (by omega) ?_
      refine bc_aload_n dX0_readReed_66 rfl ?_
      refine bc_dup dX0_readReed_67 rfl ?_
      refine bc_geti dX0_readReed_68 fX0_43 (rfl) rfl ?_
      refine bc_iconst (v := 1) dX0_readReed_71 (by decide) ?_
      refine bc_iadd dX0_readReed_72 ?_
      refine bc_put dX0_readReed_73 fX0_43 ftX0 fpX0_2 rfl rfl (rfl) rfl ?_
      refine bc_return dX0_readReed_76 rfl ⟨rfl, bc_u (bc_u μ 18 (sNum (μ 2) n 0 31 (sNum (μ 2) n 0 31 S).1).2 (μ 18 (sNum (μ 2) n 0 31 (sNum (μ 2) n 0 31 S).1).2 ||| (1 : Int32) <<< ((nI (sNum (μ 2) n 0 31 S).2) &&& 31))) 11 2 (nI (B.2.2.1.length + 1)), a2, a1, f2, q2, ?_, fr_u (fr_u (fr11.refl μ) (by decide) (by decide)) (by decide) (by decide), t2, fun p hp => ?_⟩
      · rw [bc_u_i (by decide), tx_i _ _ _ _ _ (by decide), tx_i _ _ _ _ _ (by decide), hq, bn_add1, tx_u _ _ _ _ _ (by decide), tx_u _ _ _ _ _ (by decide)]
      · exact bR_r hB b2
  by_cases hfull : 12 ≤ B.2.2.1.length
  · rw [if_pos hfull]
    refine bc_aload_n dX0_readReed_0 rfl ?_
    refine bc_geti dX0_readReed_1 fX0_43 (rfl) rfl ?_
    refine bc_bipush (v := 12) dX0_readReed_4 (by decide) ?_
    refine bc_icmp_lt (tgt := 18) dX0_readReed_6 (by decide) (fun h6 => absurd h6 (by rw [tx_i _ _ _ _ _ (by decide), hq]; exact nI_nlt hfull (by omega))) (fun h6 => ?_)
    refine bc_aload_n dX0_readReed_9 rfl ?_
    refine bc_iconst (v := 3) dX0_readReed_10 (by decide) ?_
    refine bc_aload_n dX0_readReed_11 rfl ?_
    refine bc_geti dX0_readReed_12 fX0_82 (rfl) rfl ?_
    refine bc_callV (z := mX7_accuse) (ci := 7) dX0_readReed_15 lX0_85 qX7_accuse (by rfl) (by rfl) (by rfl) (by rfl) (Nat.le_of_ble_eq_true rfl) (s_accuse _ _) (fun r15 μ15 e15 => ?_)
    obtain ⟨rfl, q15⟩ := e15
    obtain rfl := q15.symm
    rw [tx_4]
    exact go _ _ _ (tq_acc (kd := 3) (pl := k) hS (by omega) (by omega) hk) (fun p hp => (sAcc_inr hp).elim)
  · rw [if_neg hfull]
    refine bc_aload_n dX0_readReed_0 rfl ?_
    refine bc_geti dX0_readReed_1 fX0_43 (rfl) rfl ?_
    refine bc_bipush (v := 12) dX0_readReed_4 (by decide) ?_
    refine bc_icmp_lt (tgt := 18) dX0_readReed_6 (by decide) (fun h6 => ?_) (fun h6 => absurd h6 (by rw [tx_i _ _ _ _ _ (by decide), hq]; exact fun x => x (nI_lt (b := 12) (by omega) (by omega))))
    exact go _ _ _ hS (fun p hp => by omega)
theorem sC_eq {A C : Prop} [Decidable A] [Decidable C] {p : Nat} {S : TS} : (if A then sAcc 3 p (if C then sAcc 3 p S else S) else (if C then sAcc 3 p S else S)) = (if C ∨ A then sAcc 3 p S else S) := by
  by_cases hA : A
  · by_cases hC : C
    · rw [if_pos hA, if_pos hC, if_pos (.inl hC)]; cases S <;> rfl
    · rw [if_pos hA, if_neg hC, if_pos (.inr hA)]
  · by_cases hC : C
    · rw [if_neg hA, if_pos hC, if_pos (.inl hC)]
    · rw [if_neg hA, if_neg hC, if_neg (fun x => x.elim hC hA)]
theorem sCl_w {t : Nat → Int32} {c : Nat} {B : BG} {w : Nat} {A : Prop} [Decidable A] (hw : (sWrd t n (bw 1) (.inr a)).2 = w) (hA : fullB w B = true ↔ A) : sCl t n c B a = (if A then sAcc 3 a (if 60 ≤ c then sAcc 3 a (sWrd t n (bw 1) (.inr a)).1 else (sWrd t n (bw 1) (.inr a)).1) else (if 60 ≤ c then sAcc 3 a (sWrd t n (bw 1) (.inr a)).1 else (sWrd t n (bw 1) (.inr a)).1)) := by
  rw [sC_eq]
  unfold sCl
  rw [hw]
  by_cases h : 60 ≤ c ∨ A
  · rw [if_pos h, if_pos (h.imp id hA.mpr)]
  · rw [if_neg h, if_neg (fun x => h (x.imp id hA.mp))]
theorem bR_xy {B : BG} {x y : Nat} (h : bR 11 μ B) : bR 11 (bc_u (bc_u μ 11 4 (nI x)) 11 5 (nI y)) (B.1, B.2.1, B.2.2.1, B.2.2.2.1, x, y, B.2.2.2.2.2.2) := by
  obtain ⟨a1, b1, c1, e1, g1, g2, g3⟩ := h
  have k : ∀ i, i ≠ 4 → i ≠ 5 → bc_u (bc_u μ 11 4 (nI x)) 11 5 (nI y) 11 i = μ 11 i := by
    intro i h4 h5
    rw [bc_u_s, bc_u_s]
    simp only [upd, if_neg h4, if_neg h5]
  have k2 : ∀ i, i ≠ 11 → bc_u (bc_u μ 11 4 (nI x)) 11 5 (nI y) i = μ i := fun i hi => by rw [bc_u_i hi, bc_u_i hi]
  have k4 : bc_u (bc_u μ 11 4 (nI x)) 11 5 (nI y) 11 4 = nI x := by rw [bc_u_s, bc_u_s]; simp [upd]
  have k5 : bc_u (bc_u μ 11 4 (nI x)) 11 5 (nI y) 11 5 = nI y := by rw [bc_u_s, bc_u_s]; simp [upd]
  unfold bR
  rw [k 0 (by decide) (by decide), k 1 (by decide) (by decide), k 2 (by decide) (by decide), k 3 (by decide) (by decide), k 6 (by decide) (by decide), k4, k5, k2 (11 + 1) (by decide), k2 (11 + 2) (by decide), k2 (11 + 3) (by decide), k2 (11 + 4) (by decide), k2 (11 + 5) (by decide), k2 (11 + 6) (by decide), k2 (11 + 7) (by decide)]
  exact ⟨a1, b1, c1, e1, rfl, rfl, g3⟩
theorem bR_f {B : BG} {x : Nat} (h : bR 11 μ B) : bR 11 (bc_u μ 11 6 (nI x)) (B.1, B.2.1, B.2.2.1, B.2.2.2.1, B.2.2.2.2.1, B.2.2.2.2.2.1, x) := by
  obtain ⟨a1, b1, c1, e1, g1, g2, g3⟩ := h
  have k : ∀ i, i ≠ 6 → bc_u μ 11 6 (nI x) 11 i = μ 11 i := by
    intro i h6
    rw [bc_u_s]
    simp only [upd, if_neg h6]
  have k2 : ∀ i, i ≠ 11 → bc_u μ 11 6 (nI x) i = μ i := fun i hi => by rw [bc_u_i hi]
  have k6 : bc_u μ 11 6 (nI x) 11 6 = nI x := by rw [bc_u_s]; simp [upd]
  unfold bR
  rw [k 0 (by decide), k 1 (by decide), k 2 (by decide), k 3 (by decide), k 4 (by decide), k 5 (by decide), k6, k2 (11 + 1) (by decide), k2 (11 + 2) (by decide), k2 (11 + 3) (by decide), k2 (11 + 4) (by decide), k2 (11 + 5) (by decide), k2 (11 + 6) (by decide), k2 (11 + 7) (by decide)]
  exact ⟨a1, b1, c1, e1, g1, g2, rfl⟩
theorem s_readClauseT {S2 : TS} {B : BG} {c w : Nat} {wv : Int32} (hn : n ≤ 600) (h2 : μ 1 2 = nI n) (hS : tq n S2 a f q) (hk : k ≤ n) (hB : bR 11 μ B) (hO : bOk B) (hw : (w < 6 ∧ wv = nI w) ∨ (w = 99 ∧ wv = -1)) : bc_W (d + 6) LC mX0_readClause 22 [.ref 11, .ref 1, .int (nI c), .int wv] [] (tx μ a k f q) (fun r ν => r = none ∧ ∃ μ' a' k' f' q', ν = tx μ' a' k' f' q' ∧ fr11 μ μ' ∧ tq n (pCl (μ 2) n c B w (if fullB w B = true then sAcc 3 k S2 else S2)).1 a' f' q' ∧ (∀ p, (pCl (μ 2) n c B w (if fullB w B = true then sAcc 3 k S2 else S2)).1 = .inr p → bR 11 μ' (pCl (μ 2) n c B w (if fullB w B = true then sAcc 3 k S2 else S2)).2)) := by
  rcases hw with ⟨h6, rfl⟩ | ⟨rfl, rfl⟩
  · have hcs : w = 0 ∨ w = 1 ∨ w = 2 ∨ w = 3 ∨ w = 4 ∨ w = 5 := by omega
    rcases hcs with rfl | rfl | rfl | rfl | rfl | rfl
    · have e : (if fullB 0 B = true then sAcc 3 k S2 else S2) = (if 6 ≤ B.1.length then sAcc 3 k S2 else S2) := by simp [fullB]
      rw [e]
      refine bc_iload_n dX0_readClause_22 rfl ?_
      refine bc_tableIn (off := 37) (tgt := 60) dX0_readClause_23 (by decide) (by decide) (by decide) (by decide) ?_
      refine bc_aload_n dX0_readClause_60 rfl ?_
      refine bc_aload_n dX0_readClause_61 rfl ?_
      refine bc_callV (z := mX0_readQuarter) (ci := 0) dX0_readClause_62 lX0_89 qX0_readQuarter (by rfl) (by rfl) (by rfl) (by rfl) (Nat.le_of_ble_eq_true rfl) (s_readQuarter (d := d + 2) hn h2 hS hk hB hO) (fun r62 μ62 e62 => ?_)
      obtain ⟨rfl, e9⟩ := e62
      refine bc_goto (tgt := 131) dX0_readClause_65 (by decide) ?_
      exact bc_return dX0_readClause_131 rfl (⟨rfl, e9⟩)
    · have e : (if fullB 1 B = true then sAcc 3 k S2 else S2) = (if 8 ≤ B.2.1.length then sAcc 3 k S2 else S2) := by simp [fullB]
      rw [e]
      refine bc_iload_n dX0_readClause_22 rfl ?_
      refine bc_tableIn (off := 45) (tgt := 68) dX0_readClause_23 (by decide) (by decide) (by decide) (by decide) ?_
      refine bc_aload_n dX0_readClause_68 rfl ?_
      refine bc_aload_n dX0_readClause_69 rfl ?_
      refine bc_callV (z := mX0_readOven) (ci := 0) dX0_readClause_70 lX0_93 qX0_readOven (by rfl) (by rfl) (by rfl) (by rfl) (Nat.le_of_ble_eq_true rfl) (s_readOven (d := d + 2) hn h2 hS hk hB hO) (fun r70 μ70 e70 => ?_)
      obtain ⟨rfl, e9⟩ := e70
      refine bc_goto (tgt := 131) dX0_readClause_73 (by decide) ?_
      exact bc_return dX0_readClause_131 rfl (⟨rfl, e9⟩)
    · have e : (if fullB 2 B = true then sAcc 3 k S2 else S2) = (if 12 ≤ B.2.2.1.length then sAcc 3 k S2 else S2) := by simp [fullB]
      rw [e]
      refine bc_iload_n dX0_readClause_22 rfl ?_
      refine bc_tableIn (off := 53) (tgt := 76) dX0_readClause_23 (by decide) (by decide) (by decide) (by decide) ?_
      refine bc_aload_n dX0_readClause_76 rfl ?_
      refine bc_aload_n dX0_readClause_77 rfl ?_
      refine bc_callV (z := mX0_readReed) (ci := 0) dX0_readClause_78 lX0_96 qX0_readReed (by rfl) (by rfl) (by rfl) (by rfl) (Nat.le_of_ble_eq_true rfl) (s_readReed (d := d + 2) hn h2 hS hk hB hO) (fun r78 μ78 e78 => ?_)
      obtain ⟨rfl, e9⟩ := e78
      refine bc_goto (tgt := 131) dX0_readClause_81 (by decide) ?_
      exact bc_return dX0_readClause_131 rfl (⟨rfl, e9⟩)
    · have e : (if fullB 3 B = true then sAcc 3 k S2 else S2) = (if 6 ≤ B.2.2.2.1.length then sAcc 3 k S2 else S2) := by simp [fullB]
      rw [e]
      refine bc_iload_n dX0_readClause_22 rfl ?_
      refine bc_tableIn (off := 61) (tgt := 84) dX0_readClause_23 (by decide) (by decide) (by decide) (by decide) ?_
      refine bc_aload_n dX0_readClause_84 rfl ?_
      refine bc_aload_n dX0_readClause_85 rfl ?_
      refine bc_callV (z := mX0_readMooring) (ci := 0) dX0_readClause_86 lX0_99 qX0_readMooring (by rfl) (by rfl) (by rfl) (by rfl) (Nat.le_of_ble_eq_true rfl) (s_readMooring (d := d + 2) hn h2 hS hk hB hO) (fun r86 μ86 e86 => ?_)
      obtain ⟨rfl, e9⟩ := e86
      refine bc_goto (tgt := 131) dX0_readClause_89 (by decide) ?_
      exact bc_return dX0_readClause_131 rfl (⟨rfl, e9⟩)
    · have e : (if fullB 4 B = true then sAcc 3 k S2 else S2) = S2 := by simp [fullB]
      rw [e]
      refine bc_iload_n dX0_readClause_22 rfl ?_
      refine bc_tableIn (off := 69) (tgt := 92) dX0_readClause_23 (by decide) (by decide) (by decide) (by decide) ?_
      refine bc_aload_n dX0_readClause_92 rfl ?_
      refine bc_aload_n dX0_readClause_93 rfl ?_
      refine bc_iconst (v := 0) dX0_readClause_94 (by decide) ?_
      refine bc_bipush (v := 30) dX0_readClause_95 (by decide) ?_
      refine bc_callV (z := mX7_number) (ci := 7) dX0_readClause_97 lX0_102 qX7_number (by rfl) (by rfl) (by rfl) (by rfl) (Nat.le_of_ble_eq_true rfl) (s_number (d := d + 3) (LO := 0) (HI := 31) hn h2 hS (by decide) (by decide) (by omega) (by omega)) (fun r97 μ97 e97 => ?_)
      obtain ⟨a1, f1, q1, v1, rfl, rfl, t1, w1⟩ := e97
      refine bc_put dX0_readClause_100 fX0_49 ftX0 fpX0_4 rfl rfl (rfl) rfl ?_
      rw [tx_u _ _ _ _ _ (by decide)]
      refine bc_aload_n dX0_readClause_103 rfl ?_
      refine bc_aload_n dX0_readClause_104 rfl ?_
      refine bc_iconst (v := 0) dX0_readClause_105 (by decide) ?_
      refine bc_bipush (v := 30) dX0_readClause_106 (by decide) ?_
      refine bc_callV (z := mX7_number) (ci := 7) dX0_readClause_108 lX0_102 qX7_number (by rfl) (by rfl) (by rfl) (by rfl) (Nat.le_of_ble_eq_true rfl) (s_number (d := d + 3) (LO := 0) (HI := 31) hn (show bc_u μ 11 4 v1 1 2 = nI n by rw [bc_u_i (by decide)]; exact h2) t1 (by decide) (by decide) (by omega) (by omega)) (fun r108 μ108 e108 => ?_)
      obtain ⟨a2, f2, q2, v2, rfl, rfl, t2, w2⟩ := e108
      refine bc_put dX0_readClause_111 fX0_52 ftX0 fpX0_5 rfl rfl (rfl) rfl ?_
      rw [tx_u _ _ _ _ _ (by decide)]
      refine bc_goto (tgt := 131) dX0_readClause_114 (by decide) ?_
      exact bc_return dX0_readClause_131 rfl (by
rw [bc_u_i (by decide)] at t2 w2
refine ⟨rfl, _, _, _, _, _, rfl, fr_u (fr_u (fr11.refl μ) (by decide) (by decide)) (by decide) (by decide), t2, fun p hp => ?_⟩
obtain ⟨⟨p1, hp1, -, -⟩, -, b2⟩ := sNum_ok (show (sNum (μ 2) n 0 31 (sNum (μ 2) n 0 31 S2).1).1 = .inr p from hp)
have ev1 := w1 p1 hp1
have ev2 := w2 p hp
subst ev1
subst ev2
exact bR_xy hB)
    · have e : (if fullB 5 B = true then sAcc 3 k S2 else S2) = S2 := by simp [fullB]
      rw [e]
      refine bc_iload_n dX0_readClause_22 rfl ?_
      refine bc_tableIn (off := 94) (tgt := 117) dX0_readClause_23 (by decide) (by decide) (by decide) (by decide) ?_
      refine bc_aload_n dX0_readClause_117 rfl ?_
      refine bc_aload_n dX0_readClause_118 rfl ?_
      refine bc_iconst (v := 0) dX0_readClause_119 (by decide) ?_
      refine bc_bipush (v := 99) dX0_readClause_120 (by decide) ?_
      refine bc_callV (z := mX7_number) (ci := 7) dX0_readClause_122 lX0_102 qX7_number (by rfl) (by rfl) (by rfl) (by rfl) (Nat.le_of_ble_eq_true rfl) (s_number (d := d + 3) (LO := 0) (HI := 100) hn h2 hS (by decide) (by decide) (by omega) (by omega)) (fun r122 μ122 e122 => ?_)
      obtain ⟨a1, f1, q1, v1, rfl, rfl, t1, w1⟩ := e122
      refine bc_put dX0_readClause_125 fX0_55 ftX0 fpX0_6 rfl rfl (rfl) rfl ?_
      rw [tx_u _ _ _ _ _ (by decide)]
      refine bc_goto (tgt := 131) dX0_readClause_128 (by decide) ?_
      exact bc_return dX0_readClause_131 rfl (by
refine ⟨rfl, _, _, _, _, _, rfl, fr_u (fr11.refl μ) (by decide) (by decide), t1, fun p hp => ?_⟩
have ev1 := w1 p hp
subst ev1
exact bR_f hB)
  · have e : (if fullB 99 B = true then sAcc 3 k S2 else S2) = S2 := by simp [fullB]
    rw [e]
    refine bc_iload_n dX0_readClause_22 rfl ?_
    refine bc_tableOut (tgt := 131) dX0_readClause_23 (by decide) (by decide) ?_
    exact bc_return dX0_readClause_131 rfl ⟨rfl, μ, a, k, f, q, rfl, fr11.refl μ, hS, fun p hp => hB⟩
end RDB
