/-! questions: class and reference answer alike -/
/-- the answer's type -/
def vT (y : bc_Y) (v : Value) : Prop := (y.2.2.2 = some .long ∧ ∃ x : Int64, v = .long x) ∨ (y.2.2.2 = some .int ∧ ∃ x : Int32, v = .int x)
def Pr (yC yM : bc_Y) (as : List Value) (M m : bc_M) : Prop := ∃ (v : Value) (A B : bc_M → Prop), vT yM v ∧ bc_C 40 LC yC (.ref 0 :: as) M (fun r ν => r = some v ∧ A ν) ∧ bc_C 40 LM yM (.ref 0 :: as) m (fun r ξ => r = some v ∧ B ξ) ∧ ∀ ν ξ, A ν → B ξ → REL ν ξ ∧ ξ 0 0 = 0
section T83
variable {n no nq nr nm tp w0 ki : Nat} {m ξ ν M : bc_M} {yC yM : bc_Y} {as : List Value} {v : Value}
theorem Pr.q {A : bc_M → Prop} (h : RELn n no nq nr nm tp w0 ki M m) (hC : bc_C 40 LC yC (.ref 0 :: as) M (fun r ν => r = some v ∧ A ν)) (hM : bc_C 40 LM yM (.ref 0 :: as) m (fun r ξ => r = some v ∧ qS m ξ)) (hA : ∀ ν, A ν → cS M ν ∧ kn n no nq ν) (hv : vT yM v := by first | exact .inr ⟨rfl, _, rfl⟩ | exact .inl ⟨rfl, _, rfl⟩) : Pr yC yM as M m := ⟨v, A, qS m, hv, hC, hM, fun ν ξ a b => ⟨⟨_, _, _, _, _, _, _, _, h.q (hA ν a).1 (hA ν a).2 b⟩, b.2.2⟩⟩
theorem Pr.e (h : RELn n no nq nr nm tp w0 ki M m) (hC : bc_C 40 LC yC (.ref 0 :: as) M (fun r ν => r = some v ∧ ν = M)) (hM : bc_C 40 LM yM (.ref 0 :: as) m (fun r ξ => r = some v ∧ qS m ξ)) (hv : vT yM v := by first | exact .inr ⟨rfl, _, rfl⟩ | exact .inl ⟨rfl, _, rfl⟩) : Pr yC yM as M m := Pr.q (A := fun ν => ν = M) h hC hM (fun ν e => by subst e; exact ⟨cS.rf, h.1.2.2.2.2.2⟩) hv
theorem Pr.c {A : bc_M → Prop} (h : RELn n no nq nr nm tp w0 ki M m) (hC : bc_C 40 LC yC (.ref 0 :: as) M (fun r ν => r = some v ∧ A ν)) (hM : bc_C 40 LM yM (.ref 0 :: as) m (fun r ξ => r = some v ∧ qS m ξ)) (hA : ∀ ν, A ν → cS M ν ∧ ∀ i j, i = 117 ∨ (119 ≤ i ∧ i ≤ 131) → ν i j = M i j) (hv : vT yM v := by first | exact .inr ⟨rfl, _, rfl⟩ | exact .inl ⟨rfl, _, rfl⟩) : Pr yC yM as M m := Pr.q h hC hM (fun ν a => ⟨(hA ν a).1, h.1.2.2.2.2.2.cg (hA ν a).1.core ((hA ν a).2 117 7 (by omega)) ((hA ν a).2 117 8 (by omega)) (fun i j p q => (hA ν a).2 i j (by omega))⟩) hv
theorem Pr.s (h : RELn n no nq nr nm tp w0 ki M m) (hC : bc_C 40 LC yC (.ref 0 :: as) M (fun r ν => r = some v ∧ sameS 31 M ν)) (hM : bc_C 40 LM yM (.ref 0 :: as) m (fun r ξ => r = some v ∧ qS m ξ)) (hv : vT yM v := by first | exact .inr ⟨rfl, _, rfl⟩ | exact .inl ⟨rfl, _, rfl⟩) : Pr yC yM as M m := Pr.c (A := sameS 31 M) h hC hM (fun ν a => ⟨a.c, fun i j p => a i j (by unfold scr; omega)⟩) hv
theorem Pr.t (h : RELn n no nq nr nm tp w0 ki M m) (hC : bc_C 40 LC yC (.ref 0 :: as) M (fun r ν => r = some v ∧ trS M ν)) (hM : bc_C 40 LM yM (.ref 0 :: as) m (fun r ξ => r = some v ∧ qS m ξ)) (hv : vT yM v := by first | exact .inr ⟨rfl, _, rfl⟩ | exact .inl ⟨rfl, _, rfl⟩) : Pr yC yM as M m := Pr.c (A := trS M) h hC hM (fun ν a => ⟨a.c, fun i j p => a i j (by omega)⟩) hv
theorem Pr.k (h : RELn n no nq nr nm tp w0 ki M m) (hC : bc_C 40 LC yC (.ref 0 :: as) M (fun r ν => r = some v ∧ tqS M ν ∧ kn n no nq ν)) (hM : bc_C 40 LM yM (.ref 0 :: as) m (fun r ξ => r = some v ∧ qS m ξ)) (hv : vT yM v := by first | exact .inr ⟨rfl, _, rfl⟩ | exact .inl ⟨rfl, _, rfl⟩) : Pr yC yM as M m := Pr.q (A := fun ν => tqS M ν ∧ kn n no nq ν) h hC hM (fun ν a => ⟨a.1.c, a.2⟩) hv
theorem n_1 {v : Int32} {b : Nat} (hb : b < 2147483648) (h1 : 1 ≤ v) (h2 : v ≤ nI b) : ∃ k, 1 ≤ k ∧ k ≤ b ∧ v = nI k := by
  obtain ⟨k, hk, rfl⟩ := n_of hb (fun q => absurd (Int32.le_trans h1 (Int32.le_of_lt q)) (by decide)) h2
  refine ⟨k, ?_, hk, rfl⟩
  cases k with
  | zero => exact absurd h1 (by decide)
  | succ k => omega
theorem sh_nq (h : nq ≤ 6) : (1 : Int32) <<< (nI nq &&& 31) - 1 = nI (2 ^ nq - 1) := by
  have hc : nq = 0 ∨ nq = 1 ∨ nq = 2 ∨ nq = 3 ∨ nq = 4 ∨ nq = 5 ∨ nq = 6 := by omega
  rcases hc with rfl | rfl | rfl | rfl | rfl | rfl | rfl <;> rfl
theorem p_told {w : Int32} (h : REL M m) (g : 0 ≤ w ∧ w ≤ 11) : Pr mX9_told mX10_told [.int w] M m := by
  obtain ⟨n, no, nq, nr, nm, tp, w0, ki, hR⟩ := h
  obtain ⟨⟨hE, hRM, ⟨hN, hA, hH⟩, hNB, hoq, hkn⟩, ⟨⟨ht1, ht2, ht3⟩, hb8, h8⟩, ⟨hx1, hx2, hx3⟩, ⟨hbk, hbl⟩, ⟨⟨hw1, hw2, hw3⟩, hwr⟩, ⟨hi1, hi2, hi3⟩, hir⟩ := id hR
  obtain ⟨k, hk, rfl⟩ := n_of (b := 11) (by decide) (Int32.not_lt.mpr (g).1) (g).2
  exact Pr.e hR (s_told hk hE.1.1.1 hE.1.1.2.1) (t_told hE hRM hN hbk hx1 hk)
theorem p_quarter {q w : Int32} (h : REL M m) (g : (0 ≤ q ∧ q < M 3 0) ∧ (0 ≤ w ∧ w ≤ 6)) : Pr mX9_quarter mX10_quarter [.int q, .int w] M m := by
  obtain ⟨n, no, nq, nr, nm, tp, w0, ki, hR⟩ := h
  obtain ⟨⟨hE, hRM, ⟨hN, hA, hH⟩, hNB, hoq, hkn⟩, ⟨⟨ht1, ht2, ht3⟩, hb8, h8⟩, ⟨hx1, hx2, hx3⟩, ⟨hbk, hbl⟩, ⟨⟨hw1, hw2, hw3⟩, hwr⟩, ⟨hi1, hi2, hi3⟩, hir⟩ := id hR
  obtain ⟨a, ha, rfl⟩ := n_of' (b := nq) (by have := hE.q6; have := hE.o8; have := hE.2.2.1.2; omega) (Int32.not_lt.mpr (g.1).1) (by rw [← (hE.1.2.1.1)]; exact (g.1).2)
  obtain ⟨k, hk, rfl⟩ := n_of (b := 6) (by decide) (Int32.not_lt.mpr (g.2).1) (g.2).2
  exact Pr.s hR (s_quarter hE.1 ha hk) (t_quarter hE hN hA ha hk)
theorem p_oven {q w : Int32} (h : REL M m) (g : (0 ≤ q ∧ q < M 3 1) ∧ (0 ≤ w ∧ w ≤ 3)) : Pr mX9_oven mX10_oven [.int q, .int w] M m := by
  obtain ⟨n, no, nq, nr, nm, tp, w0, ki, hR⟩ := h
  obtain ⟨⟨hE, hRM, ⟨hN, hA, hH⟩, hNB, hoq, hkn⟩, ⟨⟨ht1, ht2, ht3⟩, hb8, h8⟩, ⟨hx1, hx2, hx3⟩, ⟨hbk, hbl⟩, ⟨⟨hw1, hw2, hw3⟩, hwr⟩, ⟨hi1, hi2, hi3⟩, hir⟩ := id hR
  obtain ⟨a, ha, rfl⟩ := n_of' (b := no) (by have := hE.q6; have := hE.o8; have := hE.2.2.1.2; omega) (Int32.not_lt.mpr (g.1).1) (by rw [← (hE.1.1.1)]; exact (g.1).2)
  obtain ⟨k, hk, rfl⟩ := n_of (b := 3) (by decide) (Int32.not_lt.mpr (g.2).1) (g.2).2
  exact Pr.e hR (s_oven hE.1.1.1 hE.1.1.2.1 ha hk) (t_oven hE hN ha hk)
theorem p_mooring {q w : Int32} (h : REL M m) (g : (0 ≤ q ∧ q < M 3 3) ∧ (0 ≤ w ∧ w ≤ 2)) : Pr mX9_mooring mX10_mooring [.int q, .int w] M m := by
  obtain ⟨n, no, nq, nr, nm, tp, w0, ki, hR⟩ := h
  obtain ⟨⟨hE, hRM, ⟨hN, hA, hH⟩, hNB, hoq, hkn⟩, ⟨⟨ht1, ht2, ht3⟩, hb8, h8⟩, ⟨hx1, hx2, hx3⟩, ⟨hbk, hbl⟩, ⟨⟨hw1, hw2, hw3⟩, hwr⟩, ⟨hi1, hi2, hi3⟩, hir⟩ := id hR
  obtain ⟨a, ha, rfl⟩ := n_of' (b := nm) (by have := hE.q6; have := hE.o8; have := hE.2.2.1.2; omega) (Int32.not_lt.mpr (g.1).1) (by rw [← (hRM.2)]; exact (g.1).2)
  obtain ⟨k, hk, rfl⟩ := n_of (b := 2) (by decide) (Int32.not_lt.mpr (g.2).1) (g.2).2
  exact Pr.e hR (s_mooring hRM.2 hE.2.2.1.2 ha hk) (t_mooring hE hN ha hk)
theorem p_reed {x y : Int32} (h : REL M m) (g : (0 ≤ x ∧ x ≤ 30) ∧ (0 ≤ y ∧ y ≤ 30)) : Pr mX9_reed mX10_reed [.int x, .int y] M m := by
  obtain ⟨n, no, nq, nr, nm, tp, w0, ki, hR⟩ := h
  obtain ⟨⟨hE, hRM, ⟨hN, hA, hH⟩, hNB, hoq, hkn⟩, ⟨⟨ht1, ht2, ht3⟩, hb8, h8⟩, ⟨hx1, hx2, hx3⟩, ⟨hbk, hbl⟩, ⟨⟨hw1, hw2, hw3⟩, hwr⟩, ⟨hi1, hi2, hi3⟩, hir⟩ := id hR
  exact Pr.e hR (s_reed (Int32.not_lt.mpr g.1.1) g.1.2 (Int32.not_lt.mpr g.2.1) g.2.2) (t_reed hE ⟨g.1.1, Int32.lt_of_le_of_lt g.1.2 (by decide), g.2.1, Int32.lt_of_le_of_lt g.2.2 (by decide)⟩)
theorem p_drift {w : Int32} (h : REL M m) (g : 0 ≤ w ∧ w ≤ 1) : Pr mX9_drift mX10_drift [.int w] M m := by
  obtain ⟨n, no, nq, nr, nm, tp, w0, ki, hR⟩ := h
  obtain ⟨⟨hE, hRM, ⟨hN, hA, hH⟩, hNB, hoq, hkn⟩, ⟨⟨ht1, ht2, ht3⟩, hb8, h8⟩, ⟨hx1, hx2, hx3⟩, ⟨hbk, hbl⟩, ⟨⟨hw1, hw2, hw3⟩, hwr⟩, ⟨hi1, hi2, hi3⟩, hir⟩ := id hR
  obtain ⟨k, hk, rfl⟩ := n_of (b := 1) (by decide) (Int32.not_lt.mpr (g).1) (g).2
  exact Pr.s hR (s_drift hE.1 hk) (t_drift hE hN hA hk)
theorem p_would {a0 a1 a2 a3 a4 a5 a6 : Int32} (h : REL M m) (g : (0 ≤ a0 ∧ a0 ≤ 72) ∧ (0 ≤ a1 ∧ a1 ≤ 99) ∧ (0 ≤ a2 ∧ a2 ≤ 8) ∧ (0 ≤ a3 ∧ a3 ≤ 72) ∧ (0 ≤ a4 ∧ a4 ≤ 99) ∧ (0 ≤ a5 ∧ a5 ≤ 3) ∧ (0 ≤ a6 ∧ a6 ≤ 900)) : Pr mX9_would mX10_would [.int a0, .int a1, .int a2, .int a3, .int a4, .int a5, .int a6] M m := by
  obtain ⟨n, no, nq, nr, nm, tp, w0, ki, hR⟩ := h
  obtain ⟨⟨hE, hRM, ⟨hN, hA, hH⟩, hNB, hoq, hkn⟩, ⟨⟨ht1, ht2, ht3⟩, hb8, h8⟩, ⟨hx1, hx2, hx3⟩, ⟨hbk, hbl⟩, ⟨⟨hw1, hw2, hw3⟩, hwr⟩, ⟨hi1, hi2, hi3⟩, hir⟩ := id hR
  obtain ⟨g0, g1, g2, g3, g4, g5, g6⟩ := id g
  exact Pr.c hR (s_would hE.1.2.2 ⟨Int32.not_lt.mpr g0.1, g0.2⟩ ⟨Int32.not_lt.mpr g1.1, g1.2⟩ ⟨Int32.not_lt.mpr g2.1, g2.2⟩ ⟨Int32.not_lt.mpr g3.1, g3.2⟩ ⟨Int32.not_lt.mpr g4.1, g4.2⟩ ⟨Int32.not_lt.mpr g5.1, g5.2⟩ ⟨Int32.not_lt.mpr g6.1, g6.2⟩) (t_would hE g) (fun ν a => by
    obtain ⟨f, g, rfl⟩ := a
    exact ⟨fun i k q => by rw [bc_us_ne _ _ (by omega), bc_us_ne _ _ (by omega)], fun i k q => by rw [bc_us_ne _ _ (by omega), bc_us_ne _ _ (by omega)]⟩)
theorem p_side {w : Int32} (h : REL M m) (g : 0 ≤ w ∧ w ≤ 3) : Pr mX9_side mX10_side [.int w] M m := by
  obtain ⟨n, no, nq, nr, nm, tp, w0, ki, hR⟩ := h
  obtain ⟨⟨hE, hRM, ⟨hN, hA, hH⟩, hNB, hoq, hkn⟩, ⟨⟨ht1, ht2, ht3⟩, hb8, h8⟩, ⟨hx1, hx2, hx3⟩, ⟨hbk, hbl⟩, ⟨⟨hw1, hw2, hw3⟩, hwr⟩, ⟨hi1, hi2, hi3⟩, hir⟩ := id hR
  obtain ⟨k, hk, rfl⟩ := n_of (b := 3) (by decide) (Int32.not_lt.mpr (g).1) (g).2
  exact Pr.s hR (s_side hE.1 (by omega)) (t_side hE hN hA (by omega))
theorem p_sweetest {w : Int32} (h : REL M m) (g : 0 ≤ w ∧ w ≤ 1) : Pr mX9_sweetest mX10_sweetest [.int w] M m := by
  obtain ⟨n, no, nq, nr, nm, tp, w0, ki, hR⟩ := h
  obtain ⟨⟨hE, hRM, ⟨hN, hA, hH⟩, hNB, hoq, hkn⟩, ⟨⟨ht1, ht2, ht3⟩, hb8, h8⟩, ⟨hx1, hx2, hx3⟩, ⟨hbk, hbl⟩, ⟨⟨hw1, hw2, hw3⟩, hwr⟩, ⟨hi1, hi2, hi3⟩, hir⟩ := id hR
  obtain ⟨k, hk, rfl⟩ := n_of (b := 1) (by decide) (Int32.not_lt.mpr (g).1) (g).2
  exact Pr.s hR (s_sweetest hE.1 hk) (t_sweetest hE hN hA hk)
theorem p_fault (h : REL M m) : Pr mX9_fault mX10_fault [] M m := by
  obtain ⟨n, no, nq, nr, nm, tp, w0, ki, hR⟩ := h
  obtain ⟨⟨hE, hRM, ⟨hN, hA, hH⟩, hNB, hoq, hkn⟩, ⟨⟨ht1, ht2, ht3⟩, hb8, h8⟩, ⟨hx1, hx2, hx3⟩, ⟨hbk, hbl⟩, ⟨⟨hw1, hw2, hw3⟩, hwr⟩, ⟨hi1, hi2, hi3⟩, hir⟩ := id hR
  have t := t_fault (d := 40) (m := m)
  rw [h8] at t
  exact Pr.e hR (s_fault) (t)
theorem p_status {w : Int32} (h : REL M m) : Pr mX9_status mX10_status [.int w] M m := by
  obtain ⟨n, no, nq, nr, nm, tp, w0, ki, hR⟩ := h
  obtain ⟨⟨hE, hRM, ⟨hN, hA, hH⟩, hNB, hoq, hkn⟩, ⟨⟨ht1, ht2, ht3⟩, hb8, h8⟩, ⟨hx1, hx2, hx3⟩, ⟨hbk, hbl⟩, ⟨⟨hw1, hw2, hw3⟩, hwr⟩, ⟨hi1, hi2, hi3⟩, hir⟩ := id hR
  exact Pr.e hR (s_status w) (t_status w hx2 hx3)
theorem p_count {w : Int32} (h : REL M m) : Pr mX9_count mX10_count [.int w] M m := by
  obtain ⟨n, no, nq, nr, nm, tp, w0, ki, hR⟩ := h
  obtain ⟨⟨hE, hRM, ⟨hN, hA, hH⟩, hNB, hoq, hkn⟩, ⟨⟨ht1, ht2, ht3⟩, hb8, h8⟩, ⟨hx1, hx2, hx3⟩, ⟨hbk, hbl⟩, ⟨⟨hw1, hw2, hw3⟩, hwr⟩, ⟨hi1, hi2, hi3⟩, hir⟩ := id hR
  exact Pr.e hR (s_count w) (t_count w (hi1.trans hi2.symm) (ht1.trans ht2.symm) (hw1.trans hw2.symm))
theorem p_ahead {h0 w : Int32} (h : REL M m) (g : (0 ≤ h0 ∧ h0 ≤ 99) ∧ (0 ≤ w ∧ w ≤ 3)) : Pr mX9_ahead mX10_ahead [.int h0, .int w] M m := by
  obtain ⟨n, no, nq, nr, nm, tp, w0, ki, hR⟩ := h
  obtain ⟨⟨hE, hRM, ⟨hN, hA, hH⟩, hNB, hoq, hkn⟩, ⟨⟨ht1, ht2, ht3⟩, hb8, h8⟩, ⟨hx1, hx2, hx3⟩, ⟨hbk, hbl⟩, ⟨⟨hw1, hw2, hw3⟩, hwr⟩, ⟨hi1, hi2, hi3⟩, hir⟩ := id hR
  obtain ⟨a, ha, rfl⟩ := n_of (b := 99) (by decide) (Int32.not_lt.mpr (g.1).1) (g.1).2
  obtain ⟨k, hk, rfl⟩ := n_of (b := 3) (by decide) (Int32.not_lt.mpr (g.2).1) (g.2).2
  exact Pr.t hR (s_ahead hE.1 ha hk) (t_ahead hE hN hA ha hk)
theorem p_wreck (h : REL M m) : Pr mX9_wreck mX10_wreck [] M m := by
  obtain ⟨n, no, nq, nr, nm, tp, w0, ki, hR⟩ := h
  obtain ⟨⟨hE, hRM, ⟨hN, hA, hH⟩, hNB, hoq, hkn⟩, ⟨⟨ht1, ht2, ht3⟩, hb8, h8⟩, ⟨hx1, hx2, hx3⟩, ⟨hbk, hbl⟩, ⟨⟨hw1, hw2, hw3⟩, hwr⟩, ⟨hi1, hi2, hi3⟩, hir⟩ := id hR
  exact Pr.t hR (s_wreck hE.1) (t_wreck hE hN hA)
theorem p_trim {q : Int32} (h : REL M m) (g : 0 ≤ q ∧ q < M 3 0) : Pr mX9_trim mX10_trim [.int q] M m := by
  obtain ⟨n, no, nq, nr, nm, tp, w0, ki, hR⟩ := h
  obtain ⟨⟨hE, hRM, ⟨hN, hA, hH⟩, hNB, hoq, hkn⟩, ⟨⟨ht1, ht2, ht3⟩, hb8, h8⟩, ⟨hx1, hx2, hx3⟩, ⟨hbk, hbl⟩, ⟨⟨hw1, hw2, hw3⟩, hwr⟩, ⟨hi1, hi2, hi3⟩, hir⟩ := id hR
  obtain ⟨a, ha, rfl⟩ := n_of' (b := nq) (by have := hE.q6; have := hE.o8; have := hE.2.2.1.2; omega) (Int32.not_lt.mpr (g).1) (by rw [← (hE.1.2.1.1)]; exact (g).2)
  exact Pr.t hR (s_trim hE.1 ha) (t_trim hE hN hA ha)
theorem p_season {sd C h0 w : Int32} (h : REL M m) (g : (0 ≤ C ∧ C ≤ 16) ∧ (1 ≤ h0 ∧ h0 ≤ 96) ∧ (0 ≤ w ∧ w ≤ 3)) : Pr mX9_season mX10_season [.int sd, .int C, .int h0, .int w] M m := by
  obtain ⟨n, no, nq, nr, nm, tp, w0, ki, hR⟩ := h
  obtain ⟨⟨hE, hRM, ⟨hN, hA, hH⟩, hNB, hoq, hkn⟩, ⟨⟨ht1, ht2, ht3⟩, hb8, h8⟩, ⟨hx1, hx2, hx3⟩, ⟨hbk, hbl⟩, ⟨⟨hw1, hw2, hw3⟩, hwr⟩, ⟨hi1, hi2, hi3⟩, hir⟩ := id hR
  obtain ⟨a, ha1, ha, rfl⟩ := n_1 (b := 96) (by decide) g.2.1.1 g.2.1.2
  obtain ⟨k, hk, rfl⟩ := n_of (b := 3) (by decide) (Int32.not_lt.mpr (g.2.2).1) (g.2.2).2
  exact Pr.t hR (s_season hE.1 hoq (Int32.not_lt.mpr g.1.1) g.1.2 ha1 ha hk) (t_season hE hN hA hoq g.1 ha1 ha hk)
theorem p_span {sd mn C h0 w : Int32} (h : REL M m) (g : (1 ≤ mn ∧ mn ≤ 20) ∧ (0 ≤ C ∧ C ≤ 16) ∧ (1 ≤ h0 ∧ h0 ≤ 96) ∧ (0 ≤ w ∧ w ≤ 2)) : Pr mX9_span mX10_span [.int sd, .int mn, .int C, .int h0, .int w] M m := by
  obtain ⟨n, no, nq, nr, nm, tp, w0, ki, hR⟩ := h
  obtain ⟨⟨hE, hRM, ⟨hN, hA, hH⟩, hNB, hoq, hkn⟩, ⟨⟨ht1, ht2, ht3⟩, hb8, h8⟩, ⟨hx1, hx2, hx3⟩, ⟨hbk, hbl⟩, ⟨⟨hw1, hw2, hw3⟩, hwr⟩, ⟨hi1, hi2, hi3⟩, hir⟩ := id hR
  obtain ⟨b, hb1, hb, rfl⟩ := n_1 (b := 20) (by decide) g.1.1 g.1.2
  obtain ⟨a, ha1, ha, rfl⟩ := n_1 (b := 96) (by decide) g.2.2.1.1 g.2.2.1.2
  obtain ⟨k, hk, rfl⟩ := n_of (b := 2) (by decide) (Int32.not_lt.mpr (g.2.2.2).1) (g.2.2.2).2
  exact Pr.t hR (s_span hE.1 hoq hRM.2 hE.2.2.1.2 hb1 hb (Int32.not_lt.mpr g.2.1.1) g.2.1.2 ha1 ha hk) (t_span hE hN hA hoq hb1 hb g.2.1 ha1 ha hk)
theorem p_pilot {q w : Int32} (h : REL M m) (g : (0 ≤ q ∧ q < M 3 3) ∧ (0 ≤ w ∧ w ≤ 12)) : Pr mX9_pilot mX10_pilot [.int q, .int w] M m := by
  obtain ⟨n, no, nq, nr, nm, tp, w0, ki, hR⟩ := h
  obtain ⟨⟨hE, hRM, ⟨hN, hA, hH⟩, hNB, hoq, hkn⟩, ⟨⟨ht1, ht2, ht3⟩, hb8, h8⟩, ⟨hx1, hx2, hx3⟩, ⟨hbk, hbl⟩, ⟨⟨hw1, hw2, hw3⟩, hwr⟩, ⟨hi1, hi2, hi3⟩, hir⟩ := id hR
  obtain ⟨a, ha, rfl⟩ := n_of' (b := nm) (by have := hE.q6; have := hE.o8; have := hE.2.2.1.2; omega) (Int32.not_lt.mpr (g.1).1) (by rw [← (hRM.2)]; exact (g.1).2)
  obtain ⟨k, hk, rfl⟩ := n_of (b := 12) (by decide) (Int32.not_lt.mpr (g.2).1) (g.2).2
  exact Pr.k hR (s_pilot hE.1 hA.2.2.2 hkn hRM.2 hE.2.2.1.2 ha hk) (t_pilot hE hN hA ha hk)
theorem p_fits {w : Int32} (h : REL M m) (g : 0 ≤ w ∧ w ≤ 2) : Pr mX9_fits mX10_fits [.int w] M m := by
  obtain ⟨n, no, nq, nr, nm, tp, w0, ki, hR⟩ := h
  obtain ⟨⟨hE, hRM, ⟨hN, hA, hH⟩, hNB, hoq, hkn⟩, ⟨⟨ht1, ht2, ht3⟩, hb8, h8⟩, ⟨hx1, hx2, hx3⟩, ⟨hbk, hbl⟩, ⟨⟨hw1, hw2, hw3⟩, hwr⟩, ⟨hi1, hi2, hi3⟩, hir⟩ := id hR
  obtain ⟨k, hk, rfl⟩ := n_of (b := 2) (by decide) (Int32.not_lt.mpr (g).1) (g).2
  exact Pr.k hR (s_fits hE.1 hA.2.2.2 hkn hk) (t_fits hE hN hA (fun h _ b => hbl h (by omega)) hk)
theorem p_look {w : Int32} (h : REL M m) (g : 0 ≤ w ∧ w ≤ 1) : Pr mX9_look mX10_look [.int w] M m := by
  obtain ⟨n, no, nq, nr, nm, tp, w0, ki, hR⟩ := h
  obtain ⟨⟨hE, hRM, ⟨hN, hA, hH⟩, hNB, hoq, hkn⟩, ⟨⟨ht1, ht2, ht3⟩, hb8, h8⟩, ⟨hx1, hx2, hx3⟩, ⟨hbk, hbl⟩, ⟨⟨hw1, hw2, hw3⟩, hwr⟩, ⟨hi1, hi2, hi3⟩, hir⟩ := id hR
  obtain ⟨k, hk, rfl⟩ := n_of (b := 1) (by decide) (Int32.not_lt.mpr (g).1) (g).2
  exact Pr.k hR (s_look hE.1 hA.2.2.2 hkn hk) (t_look hE hN hA (fun h _ b => hbl h (by omega)) hk)
theorem p_gusts {n0 k0 q0 w : Int32} (h : REL M m) (g : (0 ≤ n0 ∧ n0 ≤ 12) ∧ (0 ≤ k0 ∧ k0 ≤ 12) ∧ (0 ≤ q0 ∧ q0 ≤ 16) ∧ (0 ≤ w ∧ w ≤ 1)) : Pr mX9_gusts mX10_gusts [.int n0, .int k0, .int q0, .int w] M m := by
  obtain ⟨n, no, nq, nr, nm, tp, w0, ki, hR⟩ := h
  obtain ⟨⟨hE, hRM, ⟨hN, hA, hH⟩, hNB, hoq, hkn⟩, ⟨⟨ht1, ht2, ht3⟩, hb8, h8⟩, ⟨hx1, hx2, hx3⟩, ⟨hbk, hbl⟩, ⟨⟨hw1, hw2, hw3⟩, hwr⟩, ⟨hi1, hi2, hi3⟩, hir⟩ := id hR
  obtain ⟨a, ha, rfl⟩ := n_of (b := 12) (by decide) (Int32.not_lt.mpr (g.1).1) (g.1).2
  obtain ⟨b, hb, rfl⟩ := n_of (b := 12) (by decide) (Int32.not_lt.mpr (g.2.1).1) (g.2.1).2
  obtain ⟨c, hc, rfl⟩ := n_of (b := 16) (by decide) (Int32.not_lt.mpr (g.2.2.1).1) (g.2.2.1).2
  obtain ⟨k, hk, rfl⟩ := n_of (b := 1) (by decide) (Int32.not_lt.mpr (g.2.2.2).1) (g.2.2.2).2
  exact Pr.e hR (s_gusts ha hb hc hk) (t_gusts ha hb hc hk)
theorem p_bakers {k0 v w : Int32} (h : REL M m) (g : (0 ≤ k0 ∧ k0 ≤ 9) ∧ (0 ≤ v ∧ v ≤ 99) ∧ (0 ≤ w ∧ w ≤ 2)) : Pr mX9_bakers mX10_bakers [.int k0, .int v, .int w] M m := by
  obtain ⟨n, no, nq, nr, nm, tp, w0, ki, hR⟩ := h
  obtain ⟨⟨hE, hRM, ⟨hN, hA, hH⟩, hNB, hoq, hkn⟩, ⟨⟨ht1, ht2, ht3⟩, hb8, h8⟩, ⟨hx1, hx2, hx3⟩, ⟨hbk, hbl⟩, ⟨⟨hw1, hw2, hw3⟩, hwr⟩, ⟨hi1, hi2, hi3⟩, hir⟩ := id hR
  obtain ⟨a, ha, rfl⟩ := n_of (b := 9) (by decide) (Int32.not_lt.mpr (g.1).1) (g.1).2
  obtain ⟨k, hk, rfl⟩ := n_of (b := 2) (by decide) (Int32.not_lt.mpr (g.2.2).1) (g.2.2).2
  exact Pr.e hR (s_bakers ha (Int32.not_lt.mpr g.2.1.1) g.2.1.2 hk) (t_bakers ha g.2.1 hk)
theorem p_sacks {q s N : Int32} (h : REL M m) (g : (0 ≤ q ∧ q < M 3 0) ∧ (0 ≤ s ∧ s ≤ 1 <<< (M 3 0 &&& 31) - 1) ∧ (0 ≤ N ∧ N ≤ 999)) : Pr mX9_sacks mX10_sacks [.int q, .int s, .int N] M m := by
  obtain ⟨n, no, nq, nr, nm, tp, w0, ki, hR⟩ := h
  obtain ⟨⟨hE, hRM, ⟨hN, hA, hH⟩, hNB, hoq, hkn⟩, ⟨⟨ht1, ht2, ht3⟩, hb8, h8⟩, ⟨hx1, hx2, hx3⟩, ⟨hbk, hbl⟩, ⟨⟨hw1, hw2, hw3⟩, hwr⟩, ⟨hi1, hi2, hi3⟩, hir⟩ := id hR
  obtain ⟨a, ha, rfl⟩ := n_of' (b := nq) (by have := hE.q6; have := hE.o8; have := hE.2.2.1.2; omega) (Int32.not_lt.mpr (g.1).1) (by rw [← (hE.1.2.1.1)]; exact (g.1).2)
  have g2 := g.2.1.2
  rw [hE.1.2.1.1] at g2
  have g3 := g2
  rw [sh_nq hE.q6] at g3
  have p2 : 0 < 2 ^ nq := Nat.pow_pos (by decide)
  have p6 : 2 ^ nq ≤ 64 := (show 2 ^ nq ≤ 2 ^ 6 from Nat.pow_le_pow_right (by decide) hE.q6)
  exact Pr.e hR (s_sacks hE.1.2.1.1 hE.1.2.1.2.1 ha (Int32.not_lt.mpr g.2.1.1) g2 (Int32.not_lt.mpr g.2.2.1) g.2.2.2) (t_sacks hE hNB ha ⟨g.2.1.1, Int32.lt_of_le_of_lt g3 ((bn_ltN (by omega) (by omega)).mpr (by omega)), g.2.2.1, g.2.2.2⟩)
theorem p_steps {q : Int32} (h : REL M m) (g : 0 ≤ q ∧ q < M 3 3) : Pr mX9_steps mX10_steps [.int q] M m := by
  obtain ⟨n, no, nq, nr, nm, tp, w0, ki, hR⟩ := h
  obtain ⟨⟨hE, hRM, ⟨hN, hA, hH⟩, hNB, hoq, hkn⟩, ⟨⟨ht1, ht2, ht3⟩, hb8, h8⟩, ⟨hx1, hx2, hx3⟩, ⟨hbk, hbl⟩, ⟨⟨hw1, hw2, hw3⟩, hwr⟩, ⟨hi1, hi2, hi3⟩, hir⟩ := id hR
  obtain ⟨a, ha, rfl⟩ := n_of' (b := nm) (by have := hE.q6; have := hE.o8; have := hE.2.2.1.2; omega) (Int32.not_lt.mpr (g).1) (by rw [← (hRM.2)]; exact (g).2)
  obtain ⟨x, y, hx, hy, exy⟩ := hA.2.2.2
  have ex : M 31 2 = nI x := (Prod.mk.inj exy).1
  have ey : M 31 3 = nI y := (Prod.mk.inj exy).2
  obtain ⟨u, z, hu, hz, euz⟩ := (hE.2.2.2.2.2.2.1 a ha).2.2
  have eu : M 8 a = nI u := (Prod.mk.inj euz).1
  have ez : M 9 a = nI z := (Prod.mk.inj euz).2
  exact Pr.c hR (s_steps hRM.2 hE.2.2.1.2 ha ex ey eu ez (by omega) (by omega) (by omega) (by omega)) (t_steps hE hN ha ex ey eu ez (by omega) (by omega) (by omega) (by omega)) (fun ν a => ⟨fun i k q => a i k (by omega) (by omega), fun i k q => a i k (by omega) (by omega)⟩)
theorem p_leagues (h : REL M m) : Pr mX9_leagues mX10_leagues [] M m := by
  obtain ⟨n, no, nq, nr, nm, tp, w0, ki, hR⟩ := h
  obtain ⟨⟨hE, hRM, ⟨hN, hA, hH⟩, hNB, hoq, hkn⟩, ⟨⟨ht1, ht2, ht3⟩, hb8, h8⟩, ⟨hx1, hx2, hx3⟩, ⟨hbk, hbl⟩, ⟨⟨hw1, hw2, hw3⟩, hwr⟩, ⟨hi1, hi2, hi3⟩, hir⟩ := id hR
  exact Pr.e hR (s_leagues hE.1.2.1.1 hE.1.2.1.2.1) (t_leagues hE)
theorem p_key {q : Int32} (h : REL M m) (g : 0 ≤ q ∧ q < M 3 0) : Pr mX9_key mX10_key [.int q] M m := by
  obtain ⟨n, no, nq, nr, nm, tp, w0, ki, hR⟩ := h
  obtain ⟨⟨hE, hRM, ⟨hN, hA, hH⟩, hNB, hoq, hkn⟩, ⟨⟨ht1, ht2, ht3⟩, hb8, h8⟩, ⟨hx1, hx2, hx3⟩, ⟨hbk, hbl⟩, ⟨⟨hw1, hw2, hw3⟩, hwr⟩, ⟨hi1, hi2, hi3⟩, hir⟩ := id hR
  obtain ⟨a, ha, rfl⟩ := n_of' (b := nq) (by have := hE.q6; have := hE.o8; have := hE.2.2.1.2; omega) (Int32.not_lt.mpr (g).1) (by rw [← (hE.1.2.1.1)]; exact (g).2)
  exact Pr.e hR (s_key hE.1.2.1.1 hE.1.2.1.2.1 ha) (t_key hE ha)
theorem p_nearest {w : Int32} (h : REL M m) (g : 0 ≤ w ∧ w ≤ 1) : Pr mX9_nearest mX10_nearest [.int w] M m := by
  obtain ⟨n, no, nq, nr, nm, tp, w0, ki, hR⟩ := h
  obtain ⟨⟨hE, hRM, ⟨hN, hA, hH⟩, hNB, hoq, hkn⟩, ⟨⟨ht1, ht2, ht3⟩, hb8, h8⟩, ⟨hx1, hx2, hx3⟩, ⟨hbk, hbl⟩, ⟨⟨hw1, hw2, hw3⟩, hwr⟩, ⟨hi1, hi2, hi3⟩, hir⟩ := id hR
  obtain ⟨k, hk, rfl⟩ := n_of (b := 1) (by decide) (Int32.not_lt.mpr (g).1) (g).2
  exact Pr.e hR (s_nearest hRM.2 hE.2.2.1.2 hk) (t_nearest hE hN hk)
theorem p_heaviest {w : Int32} (h : REL M m) (g : 0 ≤ w ∧ w ≤ 1) : Pr mX9_heaviest mX10_heaviest [.int w] M m := by
  obtain ⟨n, no, nq, nr, nm, tp, w0, ki, hR⟩ := h
  obtain ⟨⟨hE, hRM, ⟨hN, hA, hH⟩, hNB, hoq, hkn⟩, ⟨⟨ht1, ht2, ht3⟩, hb8, h8⟩, ⟨hx1, hx2, hx3⟩, ⟨hbk, hbl⟩, ⟨⟨hw1, hw2, hw3⟩, hwr⟩, ⟨hi1, hi2, hi3⟩, hir⟩ := id hR
  obtain ⟨k, hk, rfl⟩ := n_of (b := 1) (by decide) (Int32.not_lt.mpr (g).1) (g).2
  exact Pr.e hR (s_heaviest hE.1.2.1.1 hE.1.2.1.2.1 hk) (t_heaviest hE hNB hk)
theorem p_room {w : Int32} (h : REL M m) (g : 0 ≤ w ∧ w ≤ 3) : Pr mX9_room mX10_room [.int w] M m := by
  obtain ⟨n, no, nq, nr, nm, tp, w0, ki, hR⟩ := h
  obtain ⟨⟨hE, hRM, ⟨hN, hA, hH⟩, hNB, hoq, hkn⟩, ⟨⟨ht1, ht2, ht3⟩, hb8, h8⟩, ⟨hx1, hx2, hx3⟩, ⟨hbk, hbl⟩, ⟨⟨hw1, hw2, hw3⟩, hwr⟩, ⟨hi1, hi2, hi3⟩, hir⟩ := id hR
  obtain ⟨k, hk, rfl⟩ := n_of (b := 3) (by decide) (Int32.not_lt.mpr (g).1) (g).2
  exact Pr.e hR (s_room hk) (t_room hE hN hA hk)
theorem p_cool {w : Int32} (h : REL M m) (g : 0 ≤ w ∧ w ≤ 1) : Pr mX9_cool mX10_cool [.int w] M m := by
  obtain ⟨n, no, nq, nr, nm, tp, w0, ki, hR⟩ := h
  obtain ⟨⟨hE, hRM, ⟨hN, hA, hH⟩, hNB, hoq, hkn⟩, ⟨⟨ht1, ht2, ht3⟩, hb8, h8⟩, ⟨hx1, hx2, hx3⟩, ⟨hbk, hbl⟩, ⟨⟨hw1, hw2, hw3⟩, hwr⟩, ⟨hi1, hi2, hi3⟩, hir⟩ := id hR
  obtain ⟨k, hk, rfl⟩ := n_of (b := 1) (by decide) (Int32.not_lt.mpr (g).1) (g).2
  exact Pr.e hR (s_cool hE.1.1.1 hE.1.1.2.1 hk) (t_cool hE hNB hN hk)
theorem p_safe (h : REL M m) : Pr mX9_safe mX10_safe [] M m := by
  obtain ⟨n, no, nq, nr, nm, tp, w0, ki, hR⟩ := h
  obtain ⟨⟨hE, hRM, ⟨hN, hA, hH⟩, hNB, hoq, hkn⟩, ⟨⟨ht1, ht2, ht3⟩, hb8, h8⟩, ⟨hx1, hx2, hx3⟩, ⟨hbk, hbl⟩, ⟨⟨hw1, hw2, hw3⟩, hwr⟩, ⟨hi1, hi2, hi3⟩, hir⟩ := id hR
  exact Pr.e hR (s_safe hRM.2 hE.2.2.1.2) (t_safe hE)
end T83
