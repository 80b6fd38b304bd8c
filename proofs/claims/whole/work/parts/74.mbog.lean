/-! the reference: a bog is read -/
def p2R (f : Nat → Int32) (l : List (Nat × Nat)) : Prop := ∀ i z, l[i]? = some z → f (2 * i) = nI z.1 ∧ f (2 * i + 1) = nI z.2
theorem p2R_snoc {f : Nat → Int32} {l : List (Nat × Nat)} {x y : Nat} (h : p2R f l) : p2R (upd (upd f (2 * l.length) (nI x)) (2 * l.length + 1) (nI y)) (l ++ [(x, y)]) := by
  intro i z hz
  by_cases e : i = l.length
  · subst e
    rw [List.getElem?_append_right (Nat.le_refl _)] at hz
    simp at hz
    subst hz
    simp [upd]
  · have hl : i < l.length := by
      have := (List.getElem?_eq_some_iff.mp hz).1
      rw [List.length_append] at this
      simp at this
      omega
    rw [List.getElem?_append_left hl] at hz
    simp only [upd]
    rw [if_neg (by omega), if_neg (by omega), if_neg (by omega), if_neg (by omega)]
    exact h i z hz
/-- the reference's draft of a bog -/
def drB (ν : bc_M) (B : BG) : Prop := (ν 0 18 = nI B.1.length ∧ p2R (ν 3) B.1) ∧ (ν 0 19 = nI B.2.1.length ∧ p2R (ν 4) B.2.1) ∧ (ν 0 20 = nI B.2.2.1.length ∧ p2R (ν 5) B.2.2.1) ∧ (ν 0 21 = nI B.2.2.2.1.length ∧ p2R (ν 6) B.2.2.2.1) ∧ ν 0 22 = nI B.2.2.2.2.1 ∧ ν 0 23 = nI B.2.2.2.2.2.1 ∧ ν 0 24 = nI B.2.2.2.2.2.2
/-- what reading may change -/
def rF (μ ν : bc_M) : Prop := (∀ i, i ≠ 0 → i ≠ 3 → i ≠ 4 → i ≠ 5 → i ≠ 6 → i ≠ 11 → i ≠ 12 → i ≠ 17 → i ≠ 22 → ν i = μ i) ∧ ∀ j, ¬ (j = 4 ∨ j = 5 ∨ j = 6 ∨ j = 7 ∨ (18 ≤ j ∧ j ≤ 24) ∨ j = 34 ∨ j = 39) → ν 0 j = μ 0 j
section T74
variable {d : Nat} {m μ ν M : bc_M} {n p : Nat} {t : Nat → Int32}
theorem rF.rf : rF μ μ := ⟨fun _ _ _ _ _ _ _ _ _ _ => rfl, fun _ _ => rfl⟩
theorem rF.tr {ξ : bc_M} (h : rF μ ν) (h2 : rF ν ξ) : rF μ ξ := ⟨fun i a b c e f g k l q => (h2.1 i a b c e f g k l q).trans (h.1 i a b c e f g k l q), fun j hj => (h2.2 j hj).trans (h.2 j hj)⟩
theorem f456.rF (h : f456 μ ν) : rF μ ν := ⟨fun i a _ _ _ _ _ _ _ _ => h.1 i a, fun j hj => h.2 j (by omega) (by omega) (by omega)⟩
theorem rF.u0 {j : Nat} {v : Int32} (hj : j = 4 ∨ j = 5 ∨ j = 6 ∨ j = 7 ∨ (18 ≤ j ∧ j ≤ 24) ∨ j = 34 ∨ j = 39) : rF μ (bc_u μ 0 j v) := ⟨fun i a _ _ _ _ _ _ _ _ => bc_u_ne _ _ _ a, fun k hk => by rw [bc_u_r, if_neg (by omega)]⟩
theorem rF.ui {i j : Nat} {v : Int32} (hi : i = 3 ∨ i = 4 ∨ i = 5 ∨ i = 6 ∨ i = 11 ∨ i = 12 ∨ i = 17 ∨ i = 22) : rF μ (bc_u μ i j v) := ⟨fun k a b c e f g h l q => bc_u_ne _ _ _ (by omega), fun k _ => by rw [bc_u_ne _ _ _ (by omega)]⟩
theorem drB.mv {B : BG} (h : drB μ B) (hf : f456 μ ν) : drB ν B := by
  unfold drB at h ⊢
  rw [hf.2 18 (by omega) (by omega) (by omega), hf.2 19 (by omega) (by omega) (by omega), hf.2 20 (by omega) (by omega) (by omega), hf.2 21 (by omega) (by omega) (by omega), hf.2 22 (by omega) (by omega) (by omega), hf.2 23 (by omega) (by omega) (by omega), hf.2 24 (by omega) (by omega) (by omega), hf.1 3 (by decide), hf.1 4 (by decide), hf.1 5 (by decide), hf.1 6 (by decide)]
  exact h
theorem rS.mv {S : TS} (h : rS t n S μ) (h2 : ν 2 = μ 2) (h0 : ∀ j, j = 3 ∨ j = 4 ∨ j = 5 ∨ j = 6 → ν 0 j = μ 0 j) : rS t n S ν := by
  unfold rS tpR at h ⊢
  rw [h2, h0 3 (by omega), h0 4 (by omega), h0 5 (by omega), h0 6 (by omega)]
  exact h
theorem rS.u {S : TS} {i j : Nat} {v : Int32} (h : rS t n S μ) (hij : i ≠ 2 ∧ (i = 0 → j ≠ 3 ∧ j ≠ 4 ∧ j ≠ 5 ∧ j ≠ 6)) : rS t n S (bc_u μ i j v) := by
  refine h.mv (bc_u_ne _ _ _ (fun q => hij.1 q.symm)) (fun k hk => ?_)
  rw [bc_u_r, if_neg (fun q => by have := hij.2 q.1.symm; omega)]
theorem rS.ua {S : TS} {i j : Nat} {v : Int32} (h : rS t n S μ) (h2 : i ≠ 2) (h0 : i ≠ 0) : rS t n S (bc_u μ i j v) := h.u ⟨h2, fun q => absurd q h0⟩
theorem t_clears : bc_C d LM mX10_clears [.ref 0] μ (fun r ν => r = none ∧ rF μ ν ∧ drB ν bg0 ∧ (∀ S t n, rS t n S μ → rS t n S ν)) := by
  refine bc_enter (by decide) (Nat.le_of_ble_eq_true rfl) rfl ?_
  refine bc_aload_n dX10_clears_0 rfl ?_
  refine bc_iconst (v := 0) dX10_clears_1 (by decide) ?_
  refine bc_put dX10_clears_2 fX10_161 ftX10 fpX10_18 rfl rfl (rfl) rfl ?_
  refine bc_aload_n dX10_clears_5 rfl ?_
  refine bc_iconst (v := 0) dX10_clears_6 (by decide) ?_
  refine bc_put dX10_clears_7 fX10_164 ftX10 fpX10_19 rfl rfl (rfl) rfl ?_
  refine bc_aload_n dX10_clears_10 rfl ?_
  refine bc_iconst (v := 0) dX10_clears_11 (by decide) ?_
  refine bc_put dX10_clears_12 fX10_167 ftX10 fpX10_20 rfl rfl (rfl) rfl ?_
  refine bc_aload_n dX10_clears_15 rfl ?_
  refine bc_iconst (v := 0) dX10_clears_16 (by decide) ?_
  refine bc_put dX10_clears_17 fX10_170 ftX10 fpX10_21 rfl rfl (rfl) rfl ?_
  refine bc_aload_n dX10_clears_20 rfl ?_
  refine bc_bipush (v := 15) dX10_clears_21 (by decide) ?_
  refine bc_put dX10_clears_23 fX10_173 ftX10 fpX10_22 rfl rfl (rfl) rfl ?_
  refine bc_aload_n dX10_clears_26 rfl ?_
  refine bc_bipush (v := 15) dX10_clears_27 (by decide) ?_
  refine bc_put dX10_clears_29 fX10_176 ftX10 fpX10_23 rfl rfl (rfl) rfl ?_
  refine bc_aload_n dX10_clears_32 rfl ?_
  refine bc_bipush (v := 9) dX10_clears_33 (by decide) ?_
  refine bc_put dX10_clears_35 fX10_179 ftX10 fpX10_24 rfl rfl (rfl) rfl ?_
  exact bc_return dX10_clears_38 rfl (⟨rfl, ((((((rF.u0 (by omega)).tr (rF.u0 (by omega))).tr (rF.u0 (by omega))).tr (rF.u0 (by omega))).tr (rF.u0 (by omega))).tr (rF.u0 (by omega))).tr (rF.u0 (by omega)), ⟨⟨rfl, fun i z hz => by simp [bg0] at hz⟩, ⟨rfl, fun i z hz => by simp [bg0] at hz⟩, ⟨rfl, fun i z hz => by simp [bg0] at hz⟩, ⟨rfl, fun i z hz => by simp [bg0] at hz⟩, rfl, rfl, rfl⟩, fun S t n h => ((((((h.u (by decide)).u (by decide)).u (by decide)).u (by decide)).u (by decide)).u (by decide)).u (by decide)⟩)
theorem t_isFull {B : BG} {w : Nat} (hB : drB μ B) (hO : bOk B) (hw : w < 6) : bc_C d LM mX10_isFull [.ref 0, .int (nI w)] μ (fun r ν => r = some (.int (if fullB w B = true then 1 else 0)) ∧ ν = μ) := by
  refine bc_enter (by decide) (Nat.le_of_ble_eq_true rfl) rfl ?_
  obtain ⟨⟨b1, -⟩, ⟨b2, -⟩, ⟨b3, -⟩, ⟨b4, -⟩, -⟩ := hB
  obtain ⟨o1, o2, o3, o4, -⟩ := hO
  have e1 : nI B.1.length = 6 ↔ 6 ≤ B.1.length := by rw [show (6 : Int32) = nI 6 from rfl, bn_eqN (by omega) (by omega)]; omega
  have e2 : nI B.2.1.length = 8 ↔ 8 ≤ B.2.1.length := by rw [show (8 : Int32) = nI 8 from rfl, bn_eqN (by omega) (by omega)]; omega
  have e3 : nI B.2.2.1.length = 12 ↔ 12 ≤ B.2.2.1.length := by rw [show (12 : Int32) = nI 12 from rfl, bn_eqN (by omega) (by omega)]; omega
  have e4 : nI B.2.2.2.1.length = 6 ↔ 6 ≤ B.2.2.2.1.length := by rw [show (6 : Int32) = nI 6 from rfl, bn_eqN (by omega) (by omega)]; omega
  have hc : w = 0 ∨ w = 1 ∨ w = 2 ∨ w = 3 ∨ w = 4 ∨ w = 5 := by omega
  rcases hc with rfl | rfl | rfl | rfl | rfl | rfl
  · skip
    refine bc_iload_n dX10_isFull_0 rfl ?_
    refine bc_if_ne (tgt := 21) dX10_isFull_1 (by decide) (fun h1 => absurd h1 (fun q => q rfl)) (fun h1 => ?_)
    refine bc_aload_n dX10_isFull_4 rfl ?_
    refine bc_geti dX10_isFull_5 fX10_161 (rfl) rfl ?_
    rw [b1]
    refine bc_bipush (v := 6) dX10_isFull_8 (by decide) ?_
    refine bc_icmp_ne (tgt := 17) dX10_isFull_10 (by decide) (fun h10 => ?_) (fun h10 => ?_)
    · refine bc_iconst (v := 0) dX10_isFull_17 (by decide) ?_
      refine bc_goto (tgt := 84) dX10_isFull_18 (by decide) ?_
      exact bc_ireturn dX10_isFull_84 rfl rfl (⟨by rw [if_neg (by simp [fullB]; exact Nat.not_le.mp (fun q => h10 (e1.mpr q)))], rfl⟩)
    · refine bc_iconst (v := 1) dX10_isFull_13 (by decide) ?_
      refine bc_goto (tgt := 84) dX10_isFull_14 (by decide) ?_
      exact bc_ireturn dX10_isFull_84 rfl rfl (⟨by rw [if_pos (by simp [fullB]; exact e1.mp h10)], rfl⟩)
  · skip
    refine bc_iload_n dX10_isFull_0 rfl ?_
    refine bc_if_ne (tgt := 21) dX10_isFull_1 (by decide) (fun h1 => ?_) (fun h1 => absurd h1 (by decide))
    refine bc_iload_n dX10_isFull_21 rfl ?_
    refine bc_iconst (v := 1) dX10_isFull_22 (by decide) ?_
    refine bc_icmp_ne (tgt := 43) dX10_isFull_23 (by decide) (fun h23 => absurd h23 (fun q => q rfl)) (fun h23 => ?_)
    refine bc_aload_n dX10_isFull_26 rfl ?_
    refine bc_geti dX10_isFull_27 fX10_164 (rfl) rfl ?_
    rw [b2]
    refine bc_bipush (v := 8) dX10_isFull_30 (by decide) ?_
    refine bc_icmp_ne (tgt := 39) dX10_isFull_32 (by decide) (fun h32 => ?_) (fun h32 => ?_)
    · refine bc_iconst (v := 0) dX10_isFull_39 (by decide) ?_
      refine bc_goto (tgt := 84) dX10_isFull_40 (by decide) ?_
      exact bc_ireturn dX10_isFull_84 rfl rfl (⟨by rw [if_neg (by simp [fullB]; exact Nat.not_le.mp (fun q => h32 (e2.mpr q)))], rfl⟩)
    · refine bc_iconst (v := 1) dX10_isFull_35 (by decide) ?_
      refine bc_goto (tgt := 84) dX10_isFull_36 (by decide) ?_
      exact bc_ireturn dX10_isFull_84 rfl rfl (⟨by rw [if_pos (by simp [fullB]; exact e2.mp h32)], rfl⟩)
  · skip
    refine bc_iload_n dX10_isFull_0 rfl ?_
    refine bc_if_ne (tgt := 21) dX10_isFull_1 (by decide) (fun h1 => ?_) (fun h1 => absurd h1 (by decide))
    refine bc_iload_n dX10_isFull_21 rfl ?_
    refine bc_iconst (v := 1) dX10_isFull_22 (by decide) ?_
    refine bc_icmp_ne (tgt := 43) dX10_isFull_23 (by decide) (fun h23 => ?_) (fun h23 => absurd h23 (by decide))
    refine bc_iload_n dX10_isFull_43 rfl ?_
    refine bc_iconst (v := 2) dX10_isFull_44 (by decide) ?_
    refine bc_icmp_ne (tgt := 65) dX10_isFull_45 (by decide) (fun h45 => absurd h45 (fun q => q rfl)) (fun h45 => ?_)
    refine bc_aload_n dX10_isFull_48 rfl ?_
    refine bc_geti dX10_isFull_49 fX10_167 (rfl) rfl ?_
    rw [b3]
    refine bc_bipush (v := 12) dX10_isFull_52 (by decide) ?_
    refine bc_icmp_ne (tgt := 61) dX10_isFull_54 (by decide) (fun h54 => ?_) (fun h54 => ?_)
    · refine bc_iconst (v := 0) dX10_isFull_61 (by decide) ?_
      refine bc_goto (tgt := 84) dX10_isFull_62 (by decide) ?_
      exact bc_ireturn dX10_isFull_84 rfl rfl (⟨by rw [if_neg (by simp [fullB]; exact Nat.not_le.mp (fun q => h54 (e3.mpr q)))], rfl⟩)
    · refine bc_iconst (v := 1) dX10_isFull_57 (by decide) ?_
      refine bc_goto (tgt := 84) dX10_isFull_58 (by decide) ?_
      exact bc_ireturn dX10_isFull_84 rfl rfl (⟨by rw [if_pos (by simp [fullB]; exact e3.mp h54)], rfl⟩)
  · skip
    refine bc_iload_n dX10_isFull_0 rfl ?_
    refine bc_if_ne (tgt := 21) dX10_isFull_1 (by decide) (fun h1 => ?_) (fun h1 => absurd h1 (by decide))
    refine bc_iload_n dX10_isFull_21 rfl ?_
    refine bc_iconst (v := 1) dX10_isFull_22 (by decide) ?_
    refine bc_icmp_ne (tgt := 43) dX10_isFull_23 (by decide) (fun h23 => ?_) (fun h23 => absurd h23 (by decide))
    refine bc_iload_n dX10_isFull_43 rfl ?_
    refine bc_iconst (v := 2) dX10_isFull_44 (by decide) ?_
    refine bc_icmp_ne (tgt := 65) dX10_isFull_45 (by decide) (fun h45 => ?_) (fun h45 => absurd h45 (by decide))
    refine bc_iload_n dX10_isFull_65 rfl ?_
    refine bc_iconst (v := 3) dX10_isFull_66 (by decide) ?_
    refine bc_icmp_ne (tgt := 83) dX10_isFull_67 (by decide) (fun h67 => absurd h67 (fun q => q rfl)) (fun h67 => ?_)
    refine bc_aload_n dX10_isFull_70 rfl ?_
    refine bc_geti dX10_isFull_71 fX10_170 (rfl) rfl ?_
    rw [b4]
    refine bc_bipush (v := 6) dX10_isFull_74 (by decide) ?_
    refine bc_icmp_ne (tgt := 83) dX10_isFull_76 (by decide) (fun h76 => ?_) (fun h76 => ?_)
    · refine bc_iconst (v := 0) dX10_isFull_83 (by decide) ?_
      exact bc_ireturn dX10_isFull_84 rfl rfl (⟨by rw [if_neg (by simp [fullB]; exact Nat.not_le.mp (fun q => h76 (e4.mpr q)))], rfl⟩)
    · refine bc_iconst (v := 1) dX10_isFull_79 (by decide) ?_
      refine bc_goto (tgt := 84) dX10_isFull_80 (by decide) ?_
      exact bc_ireturn dX10_isFull_84 rfl rfl (⟨by rw [if_pos (by simp [fullB]; exact e4.mp h76)], rfl⟩)
  · skip
    refine bc_iload_n dX10_isFull_0 rfl ?_
    refine bc_if_ne (tgt := 21) dX10_isFull_1 (by decide) (fun h1 => ?_) (fun h1 => absurd h1 (by decide))
    refine bc_iload_n dX10_isFull_21 rfl ?_
    refine bc_iconst (v := 1) dX10_isFull_22 (by decide) ?_
    refine bc_icmp_ne (tgt := 43) dX10_isFull_23 (by decide) (fun h23 => ?_) (fun h23 => absurd h23 (by decide))
    refine bc_iload_n dX10_isFull_43 rfl ?_
    refine bc_iconst (v := 2) dX10_isFull_44 (by decide) ?_
    refine bc_icmp_ne (tgt := 65) dX10_isFull_45 (by decide) (fun h45 => ?_) (fun h45 => absurd h45 (by decide))
    refine bc_iload_n dX10_isFull_65 rfl ?_
    refine bc_iconst (v := 3) dX10_isFull_66 (by decide) ?_
    refine bc_icmp_ne (tgt := 83) dX10_isFull_67 (by decide) (fun h67 => ?_) (fun h67 => absurd h67 (by decide))
    refine bc_iconst (v := 0) dX10_isFull_83 (by decide) ?_
    exact bc_ireturn dX10_isFull_84 rfl rfl (⟨rfl, rfl⟩)
  · skip
    refine bc_iload_n dX10_isFull_0 rfl ?_
    refine bc_if_ne (tgt := 21) dX10_isFull_1 (by decide) (fun h1 => ?_) (fun h1 => absurd h1 (by decide))
    refine bc_iload_n dX10_isFull_21 rfl ?_
    refine bc_iconst (v := 1) dX10_isFull_22 (by decide) ?_
    refine bc_icmp_ne (tgt := 43) dX10_isFull_23 (by decide) (fun h23 => ?_) (fun h23 => absurd h23 (by decide))
    refine bc_iload_n dX10_isFull_43 rfl ?_
    refine bc_iconst (v := 2) dX10_isFull_44 (by decide) ?_
    refine bc_icmp_ne (tgt := 65) dX10_isFull_45 (by decide) (fun h45 => ?_) (fun h45 => absurd h45 (by decide))
    refine bc_iload_n dX10_isFull_65 rfl ?_
    refine bc_iconst (v := 3) dX10_isFull_66 (by decide) ?_
    refine bc_icmp_ne (tgt := 83) dX10_isFull_67 (by decide) (fun h67 => ?_) (fun h67 => absurd h67 (by decide))
    refine bc_iconst (v := 0) dX10_isFull_83 (by decide) ?_
    exact bc_ireturn dX10_isFull_84 rfl rfl (⟨rfl, rfl⟩)
theorem bo_i {i j x y : Nat} {v : Int32} (h : x ≠ i) : bc_u μ i j v x y = μ x y := by rw [bc_u_ne _ _ _ h]
theorem t_readRow {S : TS} {B : BG} {w c : Nat} (h : rS t n S μ) (hB : drB μ B) (hO : bOk B) (hw : w < 6) (hf : fullB w B = false) : bc_C (d + 2) LM mX10_readRow [.ref 0, .int (nI w)] μ (fun r ν => r = none ∧ rF μ ν ∧ rS t n (pCl t n c B w S).1 ν ∧ drB ν (pCl t n c B w S).2) := by
  refine bc_enter (by decide) (Nat.le_of_ble_eq_true rfl) rfl ?_
  obtain ⟨o1, o2, o3, o4, -⟩ := id hO
  have hc : w = 0 ∨ w = 1 ∨ w = 2 ∨ w = 3 ∨ w = 4 ∨ w = 5 := by omega
  rcases hc with rfl | rfl | rfl | rfl | rfl | rfl
  · have hl : B.1.length < 6 := by simpa [fullB] using hf
    obtain ⟨⟨b1, c1⟩, hrest⟩ := id hB
    refine bc_iload_n dX10_readRow_0 rfl ?_
    refine bc_if_ne (tgt := 54) dX10_readRow_1 (by decide) (fun h1 => absurd h1 (fun q => q rfl)) (fun h1 => ?_)
    refine bc_aload_n dX10_readRow_4 rfl ?_
    refine bc_getr dX10_readRow_5 fX10_23 (rfl) rfl ?_
    refine bc_iconst (v := 2) dX10_readRow_8 (by decide) ?_
    refine bc_aload_n dX10_readRow_9 rfl ?_
    refine bc_geti dX10_readRow_10 fX10_161 (rfl) rfl ?_
    rw [b1]
    refine bc_imul dX10_readRow_13 ?_
    refine bc_aload_n dX10_readRow_14 rfl ?_
    refine bc_iconst (v := 0) dX10_readRow_15 (by decide) ?_
    refine bc_iconst (v := 3) dX10_readRow_16 (by decide) ?_
    refine bc_callV (z := mX10_readNumber) (ci := 10) dX10_readRow_17 lX10_232 qX10_readNumber (by rfl) (by rfl) (by rfl) (by rfl) (Nat.le_of_ble_eq_true rfl) (t_readNumber (lo := 0) (hi := 4) (hv := 3) h (by omega) (by omega) rfl) (fun r17 μ17 e17 => ?_)
    obtain ⟨rfl, f17, s17⟩ := e17
    refine bc_iastE dX10_readRow_20 (rfl) ((ixM (a := 2) rfl rfl)) (⟨by omega, by decide⟩) ?_
    have b17 : μ17 0 18 = nI B.1.length := (f17.2 18 (by omega) (by omega) (by omega)).trans b1
    refine bc_aload_n dX10_readRow_21 rfl ?_
    refine bc_getr dX10_readRow_22 fX10_23 (rfl) rfl ?_
    refine bc_iconst (v := 2) dX10_readRow_25 (by decide) ?_
    refine bc_aload_n dX10_readRow_26 rfl ?_
    refine bc_geti dX10_readRow_27 fX10_161 (rfl) rfl ?_
    rw [show bc_u μ17 3 (2 * B.1.length) (nI (sNum t n 0 4 S).2) 0 18 = nI B.1.length from b17]
    refine bc_imul dX10_readRow_30 ?_
    refine bc_iconst (v := 1) dX10_readRow_31 (by decide) ?_
    refine bc_iadd dX10_readRow_32 ?_
    refine bc_aload_n dX10_readRow_33 rfl ?_
    refine bc_iconst (v := 1) dX10_readRow_34 (by decide) ?_
    refine bc_bipush (v := 99) dX10_readRow_35 (by decide) ?_
    refine bc_callV (z := mX10_readNumber) (ci := 10) dX10_readRow_37 lX10_232 qX10_readNumber (by rfl) (by rfl) (by rfl) (by rfl) (Nat.le_of_ble_eq_true rfl) (t_readNumber (lo := 1) (hi := 100) (hv := 99) (s17.ua (by decide) (by decide)) (by omega) (by omega) rfl) (fun r37 μ37 e37 => ?_)
    obtain ⟨rfl, f37, s37⟩ := e37
    refine bc_iastE dX10_readRow_40 (rfl) ((ixA (ixM (a := 2) rfl rfl) (b := 1) rfl)) (⟨by omega, by decide⟩) ?_
    refine bc_aload_n dX10_readRow_41 rfl ?_
    refine bc_dup dX10_readRow_42 rfl ?_
    refine bc_geti dX10_readRow_43 fX10_161 (rfl) rfl ?_
    rw [show bc_u μ37 3 (2 * B.1.length + 1) (nI (sNum t n 1 100 (sNum t n 0 4 S).1).2) 0 18 = nI B.1.length by rw [bo_i (by decide), f37.2 18 (by omega) (by omega) (by omega)]; exact b17]
    refine bc_iconst (v := 1) dX10_readRow_46 (by decide) ?_
    refine bc_iadd dX10_readRow_47 ?_
    rw [bn_add1]
    refine bc_put dX10_readRow_48 fX10_161 ftX10 fpX10_18 rfl rfl (rfl) rfl ?_
    refine bc_goto (tgt := 247) dX10_readRow_51 (by decide) ?_
    exact bc_return dX10_readRow_247 rfl (by
have hB17 := hB.mv f17
refine ⟨rfl, (((f17.rF.tr (rF.ui (by omega))).tr f37.rF).tr (rF.ui (by omega))).tr (rF.u0 (by omega)), (s37.ua (by decide) (by decide)).u (by decide), ?_⟩
have e3 : bc_u (bc_u μ37 3 (2 * B.1.length + 1) (nI (sNum t n 1 100 (sNum t n 0 4 S).1).2)) 0 18 (nI (B.1.length + 1)) 3 = upd (upd (μ17 3) (2 * B.1.length) (nI (sNum t n 0 4 S).2)) (2 * B.1.length + 1) (nI (sNum t n 1 100 (sNum t n 0 4 S).1).2) := by
  rw [bc_u_ne _ _ _ (by decide), bc_u_at, f37.1 3 (by decide), bc_u_at]
obtain ⟨⟨a1, a2⟩, a3, a4, a5, a6, a7, a8⟩ := hB17
refine ⟨⟨?_, ?_⟩, ?_⟩
· rw [bc_u_r, if_pos ⟨rfl, rfl⟩]; simp [pCl]
· rw [e3]; exact p2R_snoc a2
· have q0 : ∀ j, 19 ≤ j → bc_u (bc_u μ37 3 (2 * B.1.length + 1) (nI (sNum t n 1 100 (sNum t n 0 4 S).1).2)) 0 18 (nI (B.1.length + 1)) 0 j = μ17 0 j := fun j hj => by rw [bc_u_r, if_neg (by omega), bo_i (by decide), f37.2 j (by omega) (by omega) (by omega), bo_i (by decide)]
  have qi : ∀ i, i = 4 ∨ i = 5 ∨ i = 6 → bc_u (bc_u μ37 3 (2 * B.1.length + 1) (nI (sNum t n 1 100 (sNum t n 0 4 S).1).2)) 0 18 (nI (B.1.length + 1)) i = μ17 i := fun i hi => by rw [bc_u_ne _ _ _ (by omega), bc_u_ne _ _ _ (by omega), f37.1 i (by omega), bc_u_ne _ _ _ (by omega)]
  rw [q0 19 (by omega), q0 20 (by omega), q0 21 (by omega), q0 22 (by omega), q0 23 (by omega), q0 24 (by omega), qi 4 (by omega), qi 5 (by omega), qi 6 (by omega)]
  exact ⟨a3, a4, a5, a6, a7, a8⟩)
  · have hl : B.2.1.length < 8 := by simpa [fullB] using hf
    obtain ⟨⟨b1, c1⟩, ⟨b2, c2⟩, hrest⟩ := id hB
    refine bc_iload_n dX10_readRow_0 rfl ?_
    refine bc_if_ne (tgt := 54) dX10_readRow_1 (by decide) (fun h1 => ?_) (fun h1 => absurd h1 (by decide))
    refine bc_iload_n dX10_readRow_54 rfl ?_
    refine bc_iconst (v := 1) dX10_readRow_55 (by decide) ?_
    refine bc_icmp_ne (tgt := 114) dX10_readRow_56 (by decide) (fun h56 => absurd h56 (fun q => q rfl)) (fun h56 => ?_)
    refine bc_aload_n dX10_readRow_59 rfl ?_
    refine bc_getr dX10_readRow_60 fX10_26 (rfl) rfl ?_
    refine bc_iconst (v := 2) dX10_readRow_63 (by decide) ?_
    refine bc_aload_n dX10_readRow_64 rfl ?_
    refine bc_geti dX10_readRow_65 fX10_164 (rfl) rfl ?_
    rw [b2]
    refine bc_imul dX10_readRow_68 ?_
    refine bc_aload_n dX10_readRow_69 rfl ?_
    refine bc_iconst (v := 0) dX10_readRow_70 (by decide) ?_
    refine bc_aload_n dX10_readRow_71 rfl ?_
    refine bc_geti dX10_readRow_72 fX10_161 (rfl) rfl ?_
    rw [b1]
    refine bc_iconst (v := 1) dX10_readRow_75 (by decide) ?_
    refine bc_isub dX10_readRow_76 ?_
    refine bc_callV (z := mX10_readNumber) (ci := 10) dX10_readRow_77 lX10_232 qX10_readNumber (by rfl) (by rfl) (by rfl) (by rfl) (Nat.le_of_ble_eq_true rfl) (t_readNumber (lo := 0) (hi := B.1.length) h (by omega) (by omega) (by
cases hq : B.1.length with
| zero => rfl
| succ k => rw [bn_s1 (by omega), bn_ti (by omega)]; omega)) (fun r77 μ77 e77 => ?_)
    obtain ⟨rfl, f77, s77⟩ := e77
    refine bc_iastE dX10_readRow_80 (rfl) ((ixM (a := 2) rfl rfl)) (⟨by omega, by decide⟩) ?_
    have b77 : μ77 0 19 = nI B.2.1.length := (f77.2 19 (by omega) (by omega) (by omega)).trans b2
    refine bc_aload_n dX10_readRow_81 rfl ?_
    refine bc_getr dX10_readRow_82 fX10_26 (rfl) rfl ?_
    refine bc_iconst (v := 2) dX10_readRow_85 (by decide) ?_
    refine bc_aload_n dX10_readRow_86 rfl ?_
    refine bc_geti dX10_readRow_87 fX10_164 (rfl) rfl ?_
    rw [show bc_u μ77 4 (2 * B.2.1.length) (nI (sNum t n 0 B.1.length S).2) 0 19 = nI B.2.1.length from b77]
    refine bc_imul dX10_readRow_90 ?_
    refine bc_iconst (v := 1) dX10_readRow_91 (by decide) ?_
    refine bc_iadd dX10_readRow_92 ?_
    refine bc_aload_n dX10_readRow_93 rfl ?_
    refine bc_iconst (v := 1) dX10_readRow_94 (by decide) ?_
    refine bc_bipush (v := 9) dX10_readRow_95 (by decide) ?_
    refine bc_callV (z := mX10_readNumber) (ci := 10) dX10_readRow_97 lX10_232 qX10_readNumber (by rfl) (by rfl) (by rfl) (by rfl) (Nat.le_of_ble_eq_true rfl) (t_readNumber (lo := 1) (hi := 10) (hv := 9) (s77.ua (by decide) (by decide)) (by omega) (by omega) rfl) (fun r97 μ97 e97 => ?_)
    obtain ⟨rfl, f97, s97⟩ := e97
    refine bc_iastE dX10_readRow_100 (rfl) ((ixA (ixM (a := 2) rfl rfl) (b := 1) rfl)) (⟨by omega, by decide⟩) ?_
    refine bc_aload_n dX10_readRow_101 rfl ?_
    refine bc_dup dX10_readRow_102 rfl ?_
    refine bc_geti dX10_readRow_103 fX10_164 (rfl) rfl ?_
    rw [show bc_u μ97 4 (2 * B.2.1.length + 1) (nI (sNum t n 1 10 (sNum t n 0 B.1.length S).1).2) 0 19 = nI B.2.1.length by rw [bo_i (by decide), f97.2 19 (by omega) (by omega) (by omega)]; exact b77]
    refine bc_iconst (v := 1) dX10_readRow_106 (by decide) ?_
    refine bc_iadd dX10_readRow_107 ?_
    rw [bn_add1]
    refine bc_put dX10_readRow_108 fX10_164 ftX10 fpX10_19 rfl rfl (rfl) rfl ?_
    refine bc_goto (tgt := 247) dX10_readRow_111 (by decide) ?_
    exact bc_return dX10_readRow_247 rfl (by
have hB77 := hB.mv f77
refine ⟨rfl, (((f77.rF.tr (rF.ui (by omega))).tr f97.rF).tr (rF.ui (by omega))).tr (rF.u0 (by omega)), (s97.ua (by decide) (by decide)).u (by decide), ?_⟩
have e3 : bc_u (bc_u μ97 4 (2 * B.2.1.length + 1) (nI (sNum t n 1 10 (sNum t n 0 B.1.length S).1).2)) 0 19 (nI (B.2.1.length + 1)) 4 = upd (upd (μ77 4) (2 * B.2.1.length) (nI (sNum t n 0 B.1.length S).2)) (2 * B.2.1.length + 1) (nI (sNum t n 1 10 (sNum t n 0 B.1.length S).1).2) := by
  rw [bc_u_ne _ _ _ (by decide), bc_u_at, f97.1 4 (by decide), bc_u_at]
obtain ⟨a1, ⟨a2, a3⟩, a4, a5, a6, a7, a8⟩ := hB77
have q0 : ∀ j, j = 18 ∨ 20 ≤ j → bc_u (bc_u μ97 4 (2 * B.2.1.length + 1) (nI (sNum t n 1 10 (sNum t n 0 B.1.length S).1).2)) 0 19 (nI (B.2.1.length + 1)) 0 j = μ77 0 j := fun j hj => by rw [bc_u_r, if_neg (by omega), bo_i (by decide), f97.2 j (by omega) (by omega) (by omega), bo_i (by decide)]
have qi : ∀ i, i = 3 ∨ i = 5 ∨ i = 6 → bc_u (bc_u μ97 4 (2 * B.2.1.length + 1) (nI (sNum t n 1 10 (sNum t n 0 B.1.length S).1).2)) 0 19 (nI (B.2.1.length + 1)) i = μ77 i := fun i hi => by rw [bc_u_ne _ _ _ (by omega), bc_u_ne _ _ _ (by omega), f97.1 i (by omega), bc_u_ne _ _ _ (by omega)]
refine ⟨?_, ⟨?_, ?_⟩, ?_⟩
· rw [q0 18 (by omega), qi 3 (by omega)]; exact a1
· rw [bc_u_r, if_pos ⟨rfl, rfl⟩]; simp [pCl]
· rw [e3]; exact p2R_snoc a3
· rw [q0 20 (by omega), q0 21 (by omega), q0 22 (by omega), q0 23 (by omega), q0 24 (by omega), qi 5 (by omega), qi 6 (by omega)]
  exact ⟨a4, a5, a6, a7, a8⟩)
  · have hl : B.2.2.1.length < 12 := by simpa [fullB] using hf
    obtain ⟨-, -, ⟨b2, c2⟩, hrest⟩ := id hB
    refine bc_iload_n dX10_readRow_0 rfl ?_
    refine bc_if_ne (tgt := 54) dX10_readRow_1 (by decide) (fun h1 => ?_) (fun h1 => absurd h1 (by decide))
    refine bc_iload_n dX10_readRow_54 rfl ?_
    refine bc_iconst (v := 1) dX10_readRow_55 (by decide) ?_
    refine bc_icmp_ne (tgt := 114) dX10_readRow_56 (by decide) (fun h56 => ?_) (fun h56 => absurd h56 (by decide))
    refine bc_iload_n dX10_readRow_114 rfl ?_
    refine bc_iconst (v := 5) dX10_readRow_115 (by decide) ?_
    refine bc_icmp_ne (tgt := 133) dX10_readRow_116 (by decide) (fun h116 => ?_) (fun h116 => absurd h116 (by decide))
    refine bc_aload_n dX10_readRow_133 rfl ?_
    refine bc_iconst (v := 0) dX10_readRow_134 (by decide) ?_
    refine bc_bipush (v := 30) dX10_readRow_135 (by decide) ?_
    refine bc_callV (z := mX10_readNumber) (ci := 10) dX10_readRow_137 lX10_232 qX10_readNumber (by rfl) (by rfl) (by rfl) (by rfl) (Nat.le_of_ble_eq_true rfl) (t_readNumber (lo := 0) (hi := 31) (hv := 30) h (by omega) (by omega) rfl) (fun r137 μ137 e137 => ?_)
    obtain ⟨rfl, f137, s137⟩ := e137
    refine bc_istore_n dX10_readRow_140 (by decide) rfl ?_
    refine bc_aload_n dX10_readRow_141 rfl ?_
    refine bc_iconst (v := 0) dX10_readRow_142 (by decide) ?_
    refine bc_bipush (v := 30) dX10_readRow_143 (by decide) ?_
    refine bc_callV (z := mX10_readNumber) (ci := 10) dX10_readRow_145 lX10_232 qX10_readNumber (by rfl) (by rfl) (by rfl) (by rfl) (Nat.le_of_ble_eq_true rfl) (t_readNumber (lo := 0) (hi := 31) (hv := 30) s137 (by omega) (by omega) rfl) (fun r145 μ145 e145 => ?_)
    obtain ⟨rfl, f145, s145⟩ := e145
    refine bc_istore_n dX10_readRow_148 (by decide) rfl ?_
    have hB2 := hB.mv (f137.tr f145)
    have b145 : μ145 0 20 = nI B.2.2.1.length := ((f137.tr f145).2 20 (by omega) (by omega) (by omega)).trans b2
    refine bc_iload_n dX10_readRow_149 rfl ?_
    refine bc_iconst (v := 4) dX10_readRow_150 (by decide) ?_
    refine bc_icmp_ne (tgt := 167) dX10_readRow_151 (by decide) (fun h151 => ?_) (fun h151 => absurd h151 (by decide))
    refine bc_iload_n dX10_readRow_167 rfl ?_
    refine bc_iconst (v := 2) dX10_readRow_168 (by decide) ?_
    refine bc_icmp_ne (tgt := 211) dX10_readRow_169 (by decide) (fun h169 => absurd h169 (fun q => q rfl)) (fun h169 => ?_)
    refine bc_aload_n dX10_readRow_172 rfl ?_
    refine bc_getr dX10_readRow_173 fX10_29 (rfl) rfl ?_
    refine bc_iconst (v := 2) dX10_readRow_176 (by decide) ?_
    refine bc_aload_n dX10_readRow_177 rfl ?_
    refine bc_geti dX10_readRow_178 fX10_167 (rfl) rfl ?_
    rw [b145]
    refine bc_imul dX10_readRow_181 ?_
    refine bc_iload_n dX10_readRow_182 rfl ?_
    refine bc_iastE dX10_readRow_183 (rfl) ((ixM (a := 2) rfl rfl)) (⟨by omega, by decide⟩) ?_
    refine bc_aload_n dX10_readRow_184 rfl ?_
    refine bc_getr dX10_readRow_185 fX10_29 (rfl) rfl ?_
    refine bc_iconst (v := 2) dX10_readRow_188 (by decide) ?_
    refine bc_aload_n dX10_readRow_189 rfl ?_
    refine bc_geti dX10_readRow_190 fX10_167 (rfl) rfl ?_
    rw [show bc_u μ145 5 (2 * B.2.2.1.length) (nI (sNum t n 0 31 S).2) 0 20 = nI B.2.2.1.length from b145]
    refine bc_imul dX10_readRow_193 ?_
    refine bc_iconst (v := 1) dX10_readRow_194 (by decide) ?_
    refine bc_iadd dX10_readRow_195 ?_
    refine bc_iload_n dX10_readRow_196 rfl ?_
    refine bc_iastE dX10_readRow_197 (rfl) ((ixA (ixM (a := 2) rfl rfl) (b := 1) rfl)) (⟨by omega, by decide⟩) ?_
    refine bc_aload_n dX10_readRow_198 rfl ?_
    refine bc_dup dX10_readRow_199 rfl ?_
    refine bc_geti dX10_readRow_200 fX10_167 (rfl) rfl ?_
    rw [show bc_u (bc_u μ145 5 (2 * B.2.2.1.length) (nI (sNum t n 0 31 S).2)) 5 (2 * B.2.2.1.length + 1) (nI (sNum t n 0 31 (sNum t n 0 31 S).1).2) 0 20 = nI B.2.2.1.length from b145]
    refine bc_iconst (v := 1) dX10_readRow_203 (by decide) ?_
    refine bc_iadd dX10_readRow_204 ?_
    rw [bn_add1]
    refine bc_put dX10_readRow_205 fX10_167 ftX10 fpX10_20 rfl rfl (rfl) rfl ?_
    refine bc_goto (tgt := 247) dX10_readRow_208 (by decide) ?_
    exact bc_return dX10_readRow_247 rfl (by
refine ⟨rfl, (((f137.tr f145).rF.tr (rF.ui (by omega))).tr (rF.ui (by omega))).tr (rF.u0 (by omega)), ((s145.ua (by decide) (by decide)).ua (by decide) (by decide)).u (by decide), ?_⟩
obtain ⟨a1, a2, ⟨a3, a3'⟩, ⟨a4, a4'⟩, a5, a6, a7⟩ := hB2
have e3 : bc_u (bc_u (bc_u μ145 5 (2 * B.2.2.1.length) (nI (sNum t n 0 31 S).2)) 5 (2 * B.2.2.1.length + 1) (nI (sNum t n 0 31 (sNum t n 0 31 S).1).2)) 0 20 (nI (B.2.2.1.length + 1)) 5 = upd (upd (μ145 5) (2 * B.2.2.1.length) (nI (sNum t n 0 31 S).2)) (2 * B.2.2.1.length + 1) (nI (sNum t n 0 31 (sNum t n 0 31 S).1).2) := by
  rw [bc_u_ne _ _ _ (by decide), bc_u_at, bc_u_at]
have hlen : bc_u (bc_u (bc_u μ145 5 (2 * B.2.2.1.length) (nI (sNum t n 0 31 S).2)) 5 (2 * B.2.2.1.length + 1) (nI (sNum t n 0 31 (sNum t n 0 31 S).1).2)) 0 20 (nI (B.2.2.1.length + 1)) 0 20 = nI (B.2.2.1 ++ [(sTwo t n 0 31 0 31 S).2]).length := by
  rw [bc_u_r, if_pos ⟨rfl, rfl⟩, List.length_append]; rfl
exact ⟨a1, a2, ⟨hlen, by rw [e3]; exact p2R_snoc a3'⟩, ⟨a4, a4'⟩, a5, a6, a7⟩)
  · have hl : B.2.2.2.1.length < 6 := by simpa [fullB] using hf
    obtain ⟨-, -, -, ⟨b2, c2⟩, hrest⟩ := id hB
    refine bc_iload_n dX10_readRow_0 rfl ?_
    refine bc_if_ne (tgt := 54) dX10_readRow_1 (by decide) (fun h1 => ?_) (fun h1 => absurd h1 (by decide))
    refine bc_iload_n dX10_readRow_54 rfl ?_
    refine bc_iconst (v := 1) dX10_readRow_55 (by decide) ?_
    refine bc_icmp_ne (tgt := 114) dX10_readRow_56 (by decide) (fun h56 => ?_) (fun h56 => absurd h56 (by decide))
    refine bc_iload_n dX10_readRow_114 rfl ?_
    refine bc_iconst (v := 5) dX10_readRow_115 (by decide) ?_
    refine bc_icmp_ne (tgt := 133) dX10_readRow_116 (by decide) (fun h116 => ?_) (fun h116 => absurd h116 (by decide))
    refine bc_aload_n dX10_readRow_133 rfl ?_
    refine bc_iconst (v := 0) dX10_readRow_134 (by decide) ?_
    refine bc_bipush (v := 30) dX10_readRow_135 (by decide) ?_
    refine bc_callV (z := mX10_readNumber) (ci := 10) dX10_readRow_137 lX10_232 qX10_readNumber (by rfl) (by rfl) (by rfl) (by rfl) (Nat.le_of_ble_eq_true rfl) (t_readNumber (lo := 0) (hi := 31) (hv := 30) h (by omega) (by omega) rfl) (fun r137 μ137 e137 => ?_)
    obtain ⟨rfl, f137, s137⟩ := e137
    refine bc_istore_n dX10_readRow_140 (by decide) rfl ?_
    refine bc_aload_n dX10_readRow_141 rfl ?_
    refine bc_iconst (v := 0) dX10_readRow_142 (by decide) ?_
    refine bc_bipush (v := 30) dX10_readRow_143 (by decide) ?_
    refine bc_callV (z := mX10_readNumber) (ci := 10) dX10_readRow_145 lX10_232 qX10_readNumber (by rfl) (by rfl) (by rfl) (by rfl) (Nat.le_of_ble_eq_true rfl) (t_readNumber (lo := 0) (hi := 31) (hv := 30) s137 (by omega) (by omega) rfl) (fun r145 μ145 e145 => ?_)
    obtain ⟨rfl, f145, s145⟩ := e145
    refine bc_istore_n dX10_readRow_148 (by decide) rfl ?_
    have hB2 := hB.mv (f137.tr f145)
    have b145 : μ145 0 21 = nI B.2.2.2.1.length := ((f137.tr f145).2 21 (by omega) (by omega) (by omega)).trans b2
    refine bc_iload_n dX10_readRow_149 rfl ?_
    refine bc_iconst (v := 4) dX10_readRow_150 (by decide) ?_
    refine bc_icmp_ne (tgt := 167) dX10_readRow_151 (by decide) (fun h151 => ?_) (fun h151 => absurd h151 (by decide))
    refine bc_iload_n dX10_readRow_167 rfl ?_
    refine bc_iconst (v := 2) dX10_readRow_168 (by decide) ?_
    refine bc_icmp_ne (tgt := 211) dX10_readRow_169 (by decide) (fun h169 => ?_) (fun h169 => absurd h169 (by decide))
    refine bc_aload_n dX10_readRow_211 rfl ?_
    refine bc_getr dX10_readRow_212 fX10_32 (rfl) rfl ?_
    refine bc_iconst (v := 2) dX10_readRow_215 (by decide) ?_
    refine bc_aload_n dX10_readRow_216 rfl ?_
    refine bc_geti dX10_readRow_217 fX10_170 (rfl) rfl ?_
    rw [b145]
    refine bc_imul dX10_readRow_220 ?_
    refine bc_iload_n dX10_readRow_221 rfl ?_
    refine bc_iastE dX10_readRow_222 (rfl) ((ixM (a := 2) rfl rfl)) (⟨by omega, by decide⟩) ?_
    refine bc_aload_n dX10_readRow_223 rfl ?_
    refine bc_getr dX10_readRow_224 fX10_32 (rfl) rfl ?_
    refine bc_iconst (v := 2) dX10_readRow_227 (by decide) ?_
    refine bc_aload_n dX10_readRow_228 rfl ?_
    refine bc_geti dX10_readRow_229 fX10_170 (rfl) rfl ?_
    rw [show bc_u μ145 6 (2 * B.2.2.2.1.length) (nI (sNum t n 0 31 S).2) 0 21 = nI B.2.2.2.1.length from b145]
    refine bc_imul dX10_readRow_232 ?_
    refine bc_iconst (v := 1) dX10_readRow_233 (by decide) ?_
    refine bc_iadd dX10_readRow_234 ?_
    refine bc_iload_n dX10_readRow_235 rfl ?_
    refine bc_iastE dX10_readRow_236 (rfl) ((ixA (ixM (a := 2) rfl rfl) (b := 1) rfl)) (⟨by omega, by decide⟩) ?_
    refine bc_aload_n dX10_readRow_237 rfl ?_
    refine bc_dup dX10_readRow_238 rfl ?_
    refine bc_geti dX10_readRow_239 fX10_170 (rfl) rfl ?_
    rw [show bc_u (bc_u μ145 6 (2 * B.2.2.2.1.length) (nI (sNum t n 0 31 S).2)) 6 (2 * B.2.2.2.1.length + 1) (nI (sNum t n 0 31 (sNum t n 0 31 S).1).2) 0 21 = nI B.2.2.2.1.length from b145]
    refine bc_iconst (v := 1) dX10_readRow_242 (by decide) ?_
    refine bc_iadd dX10_readRow_243 ?_
    rw [bn_add1]
    refine bc_put dX10_readRow_244 fX10_170 ftX10 fpX10_21 rfl rfl (rfl) rfl ?_
    exact bc_return dX10_readRow_247 rfl (by
refine ⟨rfl, (((f137.tr f145).rF.tr (rF.ui (by omega))).tr (rF.ui (by omega))).tr (rF.u0 (by omega)), ((s145.ua (by decide) (by decide)).ua (by decide) (by decide)).u (by decide), ?_⟩
obtain ⟨a1, a2, ⟨a3, a3'⟩, ⟨a4, a4'⟩, a5, a6, a7⟩ := hB2
have e3 : bc_u (bc_u (bc_u μ145 6 (2 * B.2.2.2.1.length) (nI (sNum t n 0 31 S).2)) 6 (2 * B.2.2.2.1.length + 1) (nI (sNum t n 0 31 (sNum t n 0 31 S).1).2)) 0 21 (nI (B.2.2.2.1.length + 1)) 6 = upd (upd (μ145 6) (2 * B.2.2.2.1.length) (nI (sNum t n 0 31 S).2)) (2 * B.2.2.2.1.length + 1) (nI (sNum t n 0 31 (sNum t n 0 31 S).1).2) := by
  rw [bc_u_ne _ _ _ (by decide), bc_u_at, bc_u_at]
have hlen : bc_u (bc_u (bc_u μ145 6 (2 * B.2.2.2.1.length) (nI (sNum t n 0 31 S).2)) 6 (2 * B.2.2.2.1.length + 1) (nI (sNum t n 0 31 (sNum t n 0 31 S).1).2)) 0 21 (nI (B.2.2.2.1.length + 1)) 0 21 = nI (B.2.2.2.1 ++ [(sTwo t n 0 31 0 31 S).2]).length := by
  rw [bc_u_r, if_pos ⟨rfl, rfl⟩, List.length_append]; rfl
exact ⟨a1, a2, ⟨a3, a3'⟩, ⟨hlen, by rw [e3]; exact p2R_snoc a4'⟩, a5, a6, a7⟩)
  · obtain hrest := id hB
    refine bc_iload_n dX10_readRow_0 rfl ?_
    refine bc_if_ne (tgt := 54) dX10_readRow_1 (by decide) (fun h1 => ?_) (fun h1 => absurd h1 (by decide))
    refine bc_iload_n dX10_readRow_54 rfl ?_
    refine bc_iconst (v := 1) dX10_readRow_55 (by decide) ?_
    refine bc_icmp_ne (tgt := 114) dX10_readRow_56 (by decide) (fun h56 => ?_) (fun h56 => absurd h56 (by decide))
    refine bc_iload_n dX10_readRow_114 rfl ?_
    refine bc_iconst (v := 5) dX10_readRow_115 (by decide) ?_
    refine bc_icmp_ne (tgt := 133) dX10_readRow_116 (by decide) (fun h116 => ?_) (fun h116 => absurd h116 (by decide))
    refine bc_aload_n dX10_readRow_133 rfl ?_
    refine bc_iconst (v := 0) dX10_readRow_134 (by decide) ?_
    refine bc_bipush (v := 30) dX10_readRow_135 (by decide) ?_
    refine bc_callV (z := mX10_readNumber) (ci := 10) dX10_readRow_137 lX10_232 qX10_readNumber (by rfl) (by rfl) (by rfl) (by rfl) (Nat.le_of_ble_eq_true rfl) (t_readNumber (lo := 0) (hi := 31) (hv := 30) h (by omega) (by omega) rfl) (fun r137 μ137 e137 => ?_)
    obtain ⟨rfl, f137, s137⟩ := e137
    refine bc_istore_n dX10_readRow_140 (by decide) rfl ?_
    refine bc_aload_n dX10_readRow_141 rfl ?_
    refine bc_iconst (v := 0) dX10_readRow_142 (by decide) ?_
    refine bc_bipush (v := 30) dX10_readRow_143 (by decide) ?_
    refine bc_callV (z := mX10_readNumber) (ci := 10) dX10_readRow_145 lX10_232 qX10_readNumber (by rfl) (by rfl) (by rfl) (by rfl) (Nat.le_of_ble_eq_true rfl) (t_readNumber (lo := 0) (hi := 31) (hv := 30) s137 (by omega) (by omega) rfl) (fun r145 μ145 e145 => ?_)
    obtain ⟨rfl, f145, s145⟩ := e145
    refine bc_istore_n dX10_readRow_148 (by decide) rfl ?_
    refine bc_iload_n dX10_readRow_149 rfl ?_
    refine bc_iconst (v := 4) dX10_readRow_150 (by decide) ?_
    refine bc_icmp_ne (tgt := 167) dX10_readRow_151 (by decide) (fun h151 => absurd h151 (fun q => q rfl)) (fun h151 => ?_)
    refine bc_aload_n dX10_readRow_154 rfl ?_
    refine bc_iload_n dX10_readRow_155 rfl ?_
    refine bc_put dX10_readRow_156 fX10_173 ftX10 fpX10_22 rfl rfl (rfl) rfl ?_
    refine bc_aload_n dX10_readRow_159 rfl ?_
    refine bc_iload_n dX10_readRow_160 rfl ?_
    refine bc_put dX10_readRow_161 fX10_176 ftX10 fpX10_23 rfl rfl (rfl) rfl ?_
    refine bc_goto (tgt := 247) dX10_readRow_164 (by decide) ?_
    exact bc_return dX10_readRow_247 rfl (by
have hB2 := hB.mv (f137.tr f145)
refine ⟨rfl, ((f137.tr f145).rF.tr (rF.u0 (by omega))).tr (rF.u0 (by omega)), (s145.u (by decide)).u (by decide), ?_⟩
obtain ⟨a1, a2, a3, a4, a5, a6, a7⟩ := hB2
exact ⟨a1, a2, a3, a4, rfl, rfl, a7⟩)
  · skip
    refine bc_iload_n dX10_readRow_0 rfl ?_
    refine bc_if_ne (tgt := 54) dX10_readRow_1 (by decide) (fun h1 => ?_) (fun h1 => absurd h1 (by decide))
    refine bc_iload_n dX10_readRow_54 rfl ?_
    refine bc_iconst (v := 1) dX10_readRow_55 (by decide) ?_
    refine bc_icmp_ne (tgt := 114) dX10_readRow_56 (by decide) (fun h56 => ?_) (fun h56 => absurd h56 (by decide))
    refine bc_iload_n dX10_readRow_114 rfl ?_
    refine bc_iconst (v := 5) dX10_readRow_115 (by decide) ?_
    refine bc_icmp_ne (tgt := 133) dX10_readRow_116 (by decide) (fun h116 => absurd h116 (fun q => q rfl)) (fun h116 => ?_)
    refine bc_aload_n dX10_readRow_119 rfl ?_
    refine bc_aload_n dX10_readRow_120 rfl ?_
    refine bc_iconst (v := 0) dX10_readRow_121 (by decide) ?_
    refine bc_bipush (v := 99) dX10_readRow_122 (by decide) ?_
    refine bc_callV (z := mX10_readNumber) (ci := 10) dX10_readRow_124 lX10_232 qX10_readNumber (by rfl) (by rfl) (by rfl) (by rfl) (Nat.le_of_ble_eq_true rfl) (t_readNumber (lo := 0) (hi := 100) (hv := 99) h (by omega) (by omega) rfl) (fun r124 μ124 e124 => ?_)
    obtain ⟨rfl, f124, s124⟩ := e124
    refine bc_put dX10_readRow_127 fX10_179 ftX10 fpX10_24 rfl rfl (rfl) rfl ?_
    refine bc_goto (tgt := 247) dX10_readRow_130 (by decide) ?_
    exact bc_return dX10_readRow_247 rfl (by
have hB2 := hB.mv f124
refine ⟨rfl, f124.rF.tr (rF.u0 (by omega)), s124.u (by decide), ?_⟩
obtain ⟨a1, a2, a3, a4, a5, a6, a7⟩ := hB2
exact ⟨a1, a2, a3, a4, a5, a6, rfl⟩)
/-! sets -/
def stS (B : BG) (ν ξ : bc_M) : Prop := (∀ i, ¬ (i = 0 ∨ (7 ≤ i ∧ i ≤ 10) ∨ i = 19 ∨ i = 23) → ξ i = ν i) ∧ (∀ j, ¬ ((25 ≤ j ∧ j ≤ 28) ∨ j = 35 ∨ j = 40 ∨ j = 41 ∨ j = 50 ∨ j = 59) → ξ 0 j = ν 0 j) ∧ (ξ 0 25 = nI B.1.length ∧ ξ 0 26 = nI B.2.1.length ∧ ξ 0 27 = nI B.2.2.1.length ∧ ξ 0 28 = nI B.2.2.2.1.length) ∧ (p2R (ξ 7) B.1 ∧ p2R (ξ 8) B.2.1 ∧ p2R (ξ 9) B.2.2.1 ∧ p2R (ξ 10) B.2.2.2.1) ∧ (ξ 0 35 = 0 ∧ ξ 0 40 = 0 ∧ ξ 0 41 = 0 ∧ ξ 0 50 = 0 ∧ ξ 0 59 = 0) ∧ (∀ h, h < 13 → ξ 23 h = -1) ∧ sR (bgRow B) (ξ 19)
theorem p2R_cp {f g : Nat → Int32} {l : List (Nat × Nat)} {c : Nat} (h : p2R f l) (hl : 2 * l.length ≤ c) : p2R (cpN f g c) l := by
  intro i z hz
  have hi := (List.getElem?_eq_some_iff.mp hz).1
  unfold cpN
  rw [if_pos (by omega), if_pos (by omega)]
  exact h i z hz
theorem t_sets {B : BG} (hB : drB μ B) (hO : bOk B) : bc_C (d + 1) LM mX10_sets [.ref 0] μ (fun r ξ => r = none ∧ stS B μ ξ) := by
  refine bc_enter (by decide) (Nat.le_of_ble_eq_true rfl) rfl ?_
  obtain ⟨o1, o2, o3, o4, -⟩ := id hO
  obtain ⟨⟨b1, c1⟩, ⟨b2, c2⟩, ⟨b3, c3⟩, ⟨b4, c4⟩, b5, b6, b7⟩ := hB
  have last : ∀ (c k : Nat) (ξ : bc_M), k + c = 33 → (∀ i, ¬ (i = 0 ∨ (7 ≤ i ∧ i ≤ 10) ∨ i = 19 ∨ i = 23) → ξ i = μ i) → (∀ j, ¬ ((25 ≤ j ∧ j ≤ 28) ∨ j = 35 ∨ j = 40 ∨ j = 41 ∨ j = 50 ∨ j = 59) → ξ 0 j = μ 0 j) → (ξ 0 25 = nI B.1.length ∧ ξ 0 26 = nI B.2.1.length ∧ ξ 0 27 = nI B.2.2.1.length ∧ ξ 0 28 = nI B.2.2.2.1.length) → (p2R (ξ 7) B.1 ∧ p2R (ξ 8) B.2.1 ∧ p2R (ξ 9) B.2.2.1 ∧ p2R (ξ 10) B.2.2.2.1) → (ξ 0 35 = 0 ∧ ξ 0 40 = 0 ∧ ξ 0 41 = 0 ∧ ξ 0 50 = 0 ∧ ξ 0 59 = 0) → (∀ h, h < 13 → ξ 23 h = -1) → (∀ j, j < k → ξ 19 j = 0) → bc_W (d + 1) LM mX10_sets 136 [.ref 0, .int (nI k)] [] ξ (fun r ξ => r = none ∧ stS B μ ξ) := by
    intro c
    induction c with
    | zero =>
      intro k ξ hk q1 q2 q3 q4 q5 q6 q7
      have hk : k = 33 := by omega
      subst hk
      have x22 : ξ 0 22 = nI B.2.2.2.2.1 := (q2 22 (by omega)).trans b5
      have x23 : ξ 0 23 = nI B.2.2.2.2.2.1 := (q2 23 (by omega)).trans b6
      have x24 : ξ 0 24 = nI B.2.2.2.2.2.2 := (q2 24 (by omega)).trans b7
      refine bc_iload_n dX10_sets_136 rfl ?_
      refine bc_bipush (v := 33) dX10_sets_137 (by decide) ?_
      refine bc_icmp_ge (tgt := 155) dX10_sets_139 (by decide) (fun h139 => ?_) (fun h139 => absurd h139 (fun q => q (by decide)))
      refine bc_aload_n dX10_sets_155 rfl ?_
      refine bc_getr dX10_sets_156 fX10_71 (rfl) rfl ?_
      refine bc_bipush (v := 28) dX10_sets_159 (by decide) ?_
      refine bc_aload_n dX10_sets_161 rfl ?_
      refine bc_geti dX10_sets_162 fX10_173 (rfl) rfl ?_
      rw [x22]
      refine bc_iastE (k := 28) dX10_sets_165 (rfl) (rfl) (⟨by omega, by decide⟩) ?_
      refine bc_aload_n dX10_sets_166 rfl ?_
      refine bc_getr dX10_sets_167 fX10_71 (rfl) rfl ?_
      refine bc_bipush (v := 29) dX10_sets_170 (by decide) ?_
      refine bc_aload_n dX10_sets_172 rfl ?_
      refine bc_geti dX10_sets_173 fX10_176 (rfl) rfl ?_
      rw [show bc_u ξ 19 28 (nI B.2.2.2.2.1) 0 23 = nI B.2.2.2.2.2.1 from x23]
      refine bc_iastE (k := 29) dX10_sets_176 (rfl) (rfl) (⟨by omega, by decide⟩) ?_
      refine bc_aload_n dX10_sets_177 rfl ?_
      refine bc_getr dX10_sets_178 fX10_71 (rfl) rfl ?_
      refine bc_bipush (v := 30) dX10_sets_181 (by decide) ?_
      refine bc_aload_n dX10_sets_183 rfl ?_
      refine bc_geti dX10_sets_184 fX10_179 (rfl) rfl ?_
      rw [show bc_u (bc_u ξ 19 28 (nI B.2.2.2.2.1)) 19 29 (nI B.2.2.2.2.2.1) 0 24 = nI B.2.2.2.2.2.2 from x24]
      refine bc_iastE (k := 30) dX10_sets_187 (rfl) (rfl) (⟨by omega, by decide⟩) ?_
      exact bc_return dX10_sets_188 rfl (by
refine ⟨rfl, fun i hi => ?_, fun j hj => q2 j hj, q3, q4, q5, q6, ?_⟩
· rw [bc_u_ne _ _ _ (by omega), bc_u_ne _ _ _ (by omega), bc_u_ne _ _ _ (by omega)]; exact q1 i hi
· have z : ∀ j, j < 33 → j ≠ 28 → j ≠ 29 → j ≠ 30 → bc_u (bc_u (bc_u ξ 19 28 (nI B.2.2.2.2.1)) 19 29 (nI B.2.2.2.2.2.1)) 19 30 (nI B.2.2.2.2.2.2) 19 j = 0 := fun j h1 h2 h3 h4 => by rw [bc_u_r, if_neg (by omega), bc_u_r, if_neg (by omega), bc_u_r, if_neg (by omega)]; exact q7 j h1
  have g : ∀ j, j ≠ 0 → j ≠ 1 → j ≠ 3 → bgRow B j = 0 := fun j h1 h2 h3 => by unfold bgRow; rw [if_neg h1, if_neg h2, if_neg h3]
  refine ⟨fun o ho => ?_, fun o ho => ?_, fun q hq => ?_, fun q hq => ?_, ?_, ?_, ?_, ?_, ?_⟩
  · rw [z o (by omega) (by omega) (by omega) (by omega), g _ (by omega) (by omega) (by omega)]
  · rw [z _ (by omega) (by omega) (by omega) (by omega), g _ (by omega) (by omega) (by omega)]
  · rw [z _ (by omega) (by omega) (by omega) (by omega), g _ (by omega) (by omega) (by omega)]
  · rw [z _ (by omega) (by omega) (by omega) (by omega), g 5 (by omega) (by omega) (by omega), b_get _ (by omega), b_0]; rfl
  · rfl
  · rfl
  · rfl
  · rw [z 31 (by omega) (by omega) (by omega) (by omega)]; rfl
  · rw [z 32 (by omega) (by omega) (by omega) (by omega)]; rfl)
    | succ c ih =>
      intro k ξ hk q1 q2 q3 q4 q5 q6 q7
      have h2 := ih (k + 1) (bc_u ξ 19 k 0) (by omega) (fun i hi => by rw [bc_u_ne _ _ _ (by omega)]; exact q1 i hi) q2 q3 q4 q5 q6 (fun j hj => by
        rw [bc_u_r]
        by_cases e : j = k
        · rw [if_pos ⟨rfl, e⟩]
        · rw [if_neg (fun z => e z.2)]; exact q7 j (by omega))
      refine bc_iload_n dX10_sets_136 rfl ?_
      refine bc_bipush (v := 33) dX10_sets_137 (by decide) ?_
      refine bc_icmp_ge (tgt := 155) dX10_sets_139 (by decide) (fun h139 => absurd h139 (by rw [show (33 : Int32) = nI 33 from rfl, bn_leN (by omega) (by omega)]; omega)) (fun h139 => ?_)
      refine bc_aload_n dX10_sets_142 rfl ?_
      refine bc_getr dX10_sets_143 fX10_71 (rfl) rfl ?_
      refine bc_iload_n dX10_sets_146 rfl ?_
      refine bc_iconst (v := 0) dX10_sets_147 (by decide) ?_
      refine bc_iastE (k := k) dX10_sets_148 (rfl) (rfl) (⟨by omega, by decide⟩) ?_
      refine bc_iinc1 dX10_sets_149 rfl (by decide) rfl ?_
      refine bc_goto (tgt := 136) dX10_sets_152 (by decide) ?_
      rw [bn_add1]
      exact h2
  have mid : ∀ (c k : Nat) (ξ : bc_M), k + c = 13 → (∀ i, ¬ (i = 0 ∨ (7 ≤ i ∧ i ≤ 10) ∨ i = 19 ∨ i = 23) → ξ i = μ i) → (∀ j, ¬ ((25 ≤ j ∧ j ≤ 28) ∨ j = 35 ∨ j = 40 ∨ j = 41 ∨ j = 50 ∨ j = 59) → ξ 0 j = μ 0 j) → (ξ 0 25 = nI B.1.length ∧ ξ 0 26 = nI B.2.1.length ∧ ξ 0 27 = nI B.2.2.1.length ∧ ξ 0 28 = nI B.2.2.2.1.length) → (p2R (ξ 7) B.1 ∧ p2R (ξ 8) B.2.1 ∧ p2R (ξ 9) B.2.2.1 ∧ p2R (ξ 10) B.2.2.2.1) → (ξ 0 35 = 0 ∧ ξ 0 40 = 0 ∧ ξ 0 41 = 0 ∧ ξ 0 50 = 0 ∧ ξ 0 59 = 0) → (∀ h, h < k → ξ 23 h = -1) → bc_W (d + 1) LM mX10_sets 115 [.ref 0, .int (nI k)] [] ξ (fun r ξ => r = none ∧ stS B μ ξ) := by
    intro c
    induction c with
    | zero =>
      intro k ξ hk q1 q2 q3 q4 q5 q6
      have hk : k = 13 := by omega
      subst hk
      refine bc_iload_n dX10_sets_115 rfl ?_
      refine bc_bipush (v := 12) dX10_sets_116 (by decide) ?_
      refine bc_icmp_gt (tgt := 134) dX10_sets_118 (by decide) (fun h118 => ?_) (fun h118 => absurd h118 (by decide))
      refine bc_iconst (v := 0) dX10_sets_134 (by decide) ?_
      refine bc_istore_n dX10_sets_135 (by decide) rfl ?_
      exact last 33 0 ξ (by omega) q1 q2 q3 q4 q5 q6 (fun j hj => by omega)
    | succ c ih =>
      intro k ξ hk q1 q2 q3 q4 q5 q6
      have h2 := ih (k + 1) (bc_u ξ 23 k (-1)) (by omega) (fun i hi => by rw [bc_u_ne _ _ _ (by omega)]; exact q1 i hi) q2 q3 q4 q5 (fun j hj => by
        rw [bc_u_r]
        by_cases e : j = k
        · rw [if_pos ⟨rfl, e⟩]
        · rw [if_neg (fun z => e z.2)]; exact q6 j (by omega))
      refine bc_iload_n dX10_sets_115 rfl ?_
      refine bc_bipush (v := 12) dX10_sets_116 (by decide) ?_
      refine bc_icmp_gt (tgt := 134) dX10_sets_118 (by decide) (fun h118 => absurd h118 (by rw [show (12 : Int32) = nI 12 from rfl, bn_ltN (by omega) (by omega)]; omega)) (fun h118 => ?_)
      refine bc_aload_n dX10_sets_121 rfl ?_
      refine bc_getr dX10_sets_122 fX10_83 (rfl) rfl ?_
      refine bc_iload_n dX10_sets_125 rfl ?_
      refine bc_iconst (v := (-1)) dX10_sets_126 (by decide) ?_
      refine bc_iastE (k := k) dX10_sets_127 (rfl) (rfl) (⟨by omega, by decide⟩) ?_
      refine bc_iinc1 dX10_sets_128 rfl (by decide) rfl ?_
      refine bc_goto (tgt := 115) dX10_sets_131 (by decide) ?_
      rw [bn_add1]
      exact h2
  refine bc_aload_n dX10_sets_0 rfl ?_
  refine bc_aload_n dX10_sets_1 rfl ?_
  refine bc_geti dX10_sets_2 fX10_161 (rfl) rfl ?_
  rw [b1]
  refine bc_put dX10_sets_5 fX10_182 ftX10 fpX10_25 rfl rfl (rfl) rfl ?_
  refine bc_aload_n dX10_sets_8 rfl ?_
  refine bc_aload_n dX10_sets_9 rfl ?_
  refine bc_geti dX10_sets_10 fX10_164 (rfl) rfl ?_
  rw [show bc_u μ 0 25 (nI B.1.length) 0 19 = nI B.2.1.length from b2]
  refine bc_put dX10_sets_13 fX10_185 ftX10 fpX10_26 rfl rfl (rfl) rfl ?_
  refine bc_aload_n dX10_sets_16 rfl ?_
  refine bc_aload_n dX10_sets_17 rfl ?_
  refine bc_geti dX10_sets_18 fX10_167 (rfl) rfl ?_
  rw [show bc_u (bc_u μ 0 25 (nI B.1.length)) 0 26 (nI B.2.1.length) 0 20 = nI B.2.2.1.length from b3]
  refine bc_put dX10_sets_21 fX10_188 ftX10 fpX10_27 rfl rfl (rfl) rfl ?_
  refine bc_aload_n dX10_sets_24 rfl ?_
  refine bc_aload_n dX10_sets_25 rfl ?_
  refine bc_geti dX10_sets_26 fX10_170 (rfl) rfl ?_
  rw [show bc_u (bc_u (bc_u μ 0 25 (nI B.1.length)) 0 26 (nI B.2.1.length)) 0 27 (nI B.2.2.1.length) 0 21 = nI B.2.2.2.1.length from b4]
  refine bc_put dX10_sets_29 fX10_191 ftX10 fpX10_28 rfl rfl (rfl) rfl ?_
  obtain ⟨μ9, hμ9⟩ : ∃ μ9, μ9 = bc_u (bc_u (bc_u (bc_u μ 0 25 (nI B.1.length)) 0 26 (nI B.2.1.length)) 0 27 (nI B.2.2.1.length)) 0 28 (nI B.2.2.2.1.length) := ⟨_, rfl⟩
  have i9 : ∀ i, i ≠ 0 → μ9 i = μ i := fun i hi => by rw [hμ9, bc_u_ne _ _ _ hi, bc_u_ne _ _ _ hi, bc_u_ne _ _ _ hi, bc_u_ne _ _ _ hi]
  have j9 : ∀ j, ¬ (25 ≤ j ∧ j ≤ 28) → μ9 0 j = μ 0 j := fun j hj => by rw [hμ9, bc_u_r, if_neg (by omega), bc_u_r, if_neg (by omega), bc_u_r, if_neg (by omega), bc_u_r, if_neg (by omega)]
  have k9 : μ9 0 25 = nI B.1.length ∧ μ9 0 26 = nI B.2.1.length ∧ μ9 0 27 = nI B.2.2.1.length ∧ μ9 0 28 = nI B.2.2.2.1.length := by rw [hμ9]; exact ⟨rfl, rfl, rfl, rfl⟩
  rw [← hμ9]
  refine bc_aload_n dX10_sets_32 rfl ?_
  refine bc_aload_n dX10_sets_33 rfl ?_
  refine bc_getr dX10_sets_34 fX10_23 (rfl) rfl ?_
  refine bc_aload_n dX10_sets_37 rfl ?_
  refine bc_getr dX10_sets_38 fX10_35 (rfl) rfl ?_
  refine bc_bipush (v := 12) dX10_sets_41 (by decide) ?_
  refine bc_callV (z := mX10_copies) (ci := 10) dX10_sets_43 lX10_194 qX10_copies (by rfl) (by rfl) (by rfl) (by rfl) (Nat.le_of_ble_eq_true rfl) (t_copies (n := 12) (i := 3) (j := 7) rfl rfl (by decide) (by decide) (by decide)) (fun r43 μ43 e43 => ?_)
  obtain ⟨rfl, q43⟩ := e43
  obtain rfl := q43.symm
  refine bc_aload_n dX10_sets_46 rfl ?_
  refine bc_aload_n dX10_sets_47 rfl ?_
  refine bc_getr dX10_sets_48 fX10_26 (rfl) rfl ?_
  refine bc_aload_n dX10_sets_51 rfl ?_
  refine bc_getr dX10_sets_52 fX10_38 (rfl) rfl ?_
  refine bc_bipush (v := 16) dX10_sets_55 (by decide) ?_
  refine bc_callV (z := mX10_copies) (ci := 10) dX10_sets_57 lX10_194 qX10_copies (by rfl) (by rfl) (by rfl) (by rfl) (Nat.le_of_ble_eq_true rfl) (t_copies (n := 16) (i := 4) (j := 8) rfl rfl (by decide) (by decide) (by decide)) (fun r57 μ57 e57 => ?_)
  obtain ⟨rfl, q57⟩ := e57
  obtain rfl := q57.symm
  refine bc_aload_n dX10_sets_60 rfl ?_
  refine bc_aload_n dX10_sets_61 rfl ?_
  refine bc_getr dX10_sets_62 fX10_29 (rfl) rfl ?_
  refine bc_aload_n dX10_sets_65 rfl ?_
  refine bc_getr dX10_sets_66 fX10_41 (rfl) rfl ?_
  refine bc_bipush (v := 24) dX10_sets_69 (by decide) ?_
  refine bc_callV (z := mX10_copies) (ci := 10) dX10_sets_71 lX10_194 qX10_copies (by rfl) (by rfl) (by rfl) (by rfl) (Nat.le_of_ble_eq_true rfl) (t_copies (n := 24) (i := 5) (j := 9) rfl rfl (by decide) (by decide) (by decide)) (fun r71 μ71 e71 => ?_)
  obtain ⟨rfl, q71⟩ := e71
  obtain rfl := q71.symm
  refine bc_aload_n dX10_sets_74 rfl ?_
  refine bc_aload_n dX10_sets_75 rfl ?_
  refine bc_getr dX10_sets_76 fX10_32 (rfl) rfl ?_
  refine bc_aload_n dX10_sets_79 rfl ?_
  refine bc_getr dX10_sets_80 fX10_44 (rfl) rfl ?_
  refine bc_bipush (v := 12) dX10_sets_83 (by decide) ?_
  refine bc_callV (z := mX10_copies) (ci := 10) dX10_sets_85 lX10_194 qX10_copies (by rfl) (by rfl) (by rfl) (by rfl) (Nat.le_of_ble_eq_true rfl) (t_copies (n := 12) (i := 6) (j := 10) rfl rfl (by decide) (by decide) (by decide)) (fun r85 μ85 e85 => ?_)
  obtain ⟨rfl, q85⟩ := e85
  obtain rfl := q85.symm
  refine bc_aload_n dX10_sets_88 rfl ?_
  refine bc_iconst (v := 0) dX10_sets_89 (by decide) ?_
  refine bc_put dX10_sets_90 fX10_198 ftX10 fpX10_35 rfl rfl (rfl) rfl ?_
  refine bc_aload_n dX10_sets_93 rfl ?_
  refine bc_iconst (v := 0) dX10_sets_94 (by decide) ?_
  refine bc_put dX10_sets_95 fX10_201 ftX10 fpX10_50 rfl rfl (rfl) rfl ?_
  refine bc_aload_n dX10_sets_98 rfl ?_
  refine bc_iconst (v := 0) dX10_sets_99 (by decide) ?_
  refine bc_put dX10_sets_100 fX10_204 ftX10 fpX10_40 rfl rfl (rfl) rfl ?_
  refine bc_aload_n dX10_sets_103 rfl ?_
  refine bc_iconst (v := 0) dX10_sets_104 (by decide) ?_
  refine bc_put dX10_sets_105 fX10_207 ftX10 fpX10_59 rfl rfl (rfl) rfl ?_
  refine bc_aload_n dX10_sets_108 rfl ?_
  refine bc_iconst (v := 0) dX10_sets_109 (by decide) ?_
  refine bc_put dX10_sets_110 fX10_210 ftX10 fpX10_41 rfl rfl (rfl) rfl ?_
  refine bc_iconst (v := 0) dX10_sets_113 (by decide) ?_
  refine bc_istore_n dX10_sets_114 (by decide) rfl ?_
  refine mid 13 0 _ (by omega) (fun i hi => ?_) (fun j hj => ?_) k9 ⟨?_, ?_, ?_, ?_⟩ ⟨rfl, rfl, rfl, rfl, rfl⟩ (fun h hh => by omega)
  · rw [bc_u_ne _ _ _ (by omega), bc_u_ne _ _ _ (by omega), bc_u_ne _ _ _ (by omega), bc_u_ne _ _ _ (by omega), bc_u_ne _ _ _ (by omega), bc_us_ne _ _ (by omega), bc_us_ne _ _ (by omega), bc_us_ne _ _ (by omega), bc_us_ne _ _ (by omega)]
    exact i9 i (by omega)
  · rw [bc_u_r, if_neg (by omega), bc_u_r, if_neg (by omega), bc_u_r, if_neg (by omega), bc_u_r, if_neg (by omega), bc_u_r, if_neg (by omega), bc_us_ne _ _ (by omega), bc_us_ne _ _ (by omega), bc_us_ne _ _ (by omega), bc_us_ne _ _ (by omega)]
    exact j9 j (by omega)
  · show p2R (cpN (μ9 3) (μ9 7) 12) B.1
    rw [i9 3 (by decide)]; exact p2R_cp c1 (by omega)
  · show p2R (cpN (μ9 4) (μ9 8) 16) B.2.1
    rw [i9 4 (by decide)]; exact p2R_cp c2 (by omega)
  · show p2R (cpN (μ9 5) (μ9 9) 24) B.2.2.1
    rw [i9 5 (by decide)]; exact p2R_cp c3 (by omega)
  · show p2R (cpN (μ9 6) (μ9 10) 12) B.2.2.2.1
    rw [i9 6 (by decide)]; exact p2R_cp c4 (by omega)
end T74
