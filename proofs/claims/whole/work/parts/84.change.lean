/-! calls that change the city -/
def D0 (i j : Nat) : Prop := (11 ≤ i ∧ i ≤ 18) ∨ (i = 19 ∧ j = 3) ∨ i = 21 ∨ (i = 24 ∧ j = 3) ∨ (25 ≤ i ∧ i ≤ 27) ∨ (i = 28 ∧ j = 3) ∨ i = 30
section T84
variable {n no nq nr nm tp w0 ki : Nat} {m ξ ν M : bc_M} {yC yM : bc_Y} {as : List Value} {v : Value}
theorem qS.u0 : qS m (bc_u m 0 0 0) := ⟨fun i a _ _ _ _ => bc_u_ne _ _ _ a, fun k hk _ => bu2 (fun q => hk q.2), rfl⟩
theorem Pr.u0 (h : RELn n no nq nr nm tp w0 ki M m) (hC : bc_C 40 LC yC (.ref 0 :: as) M (fun r ν => r = some v ∧ ν = M)) (hM : bc_C 40 LM yM (.ref 0 :: as) m (fun r ξ => r = some v ∧ ξ = bc_u m 0 0 0)) (hv : vT yM v := by first | exact .inr ⟨rfl, _, rfl⟩ | exact .inl ⟨rfl, _, rfl⟩) : Pr yC yM as M m := Pr.e h hC (hM.weaken (fun r ξ q => ⟨q.1, by rw [q.2]; exact qS.u0⟩)) hv
theorem p_feed {a b c e f : Int32} (h : REL M m) : Pr mX9_feed mX10_feed [.int a, .int b, .int c, .int e, .int f] M m := by
  obtain ⟨n, no, nq, nr, nm, tp, w0, ki, hR⟩ := h
  obtain ⟨⟨hE, hRM, ⟨hN, hA, hH⟩, hNB, hoq, hkn⟩, ⟨⟨ht1, ht2, ht3⟩, hb8, h8⟩, ⟨hx1, hx2, hx3⟩, ⟨hbk, hbl⟩, ⟨⟨hw1, hw2, hw3⟩, hwr⟩, ⟨hi1, hi2, hi3⟩, hir⟩ := id hR
  by_cases hf : tp ≤ 580
  · refine ⟨_, fdS a b c e f tp M, fmS a b c e f tp 20 m, by exact .inr ⟨rfl, _, rfl⟩, s_feedY a b c e f ht2 hf, t_feedY a b c e f ht1 hf, fun ν ξ p q => ⟨⟨n, no, nq, nr, nm, tp + 20, w0, ki, ?_⟩, q.2.2.1⟩⟩
    obtain ⟨p1, p2, p3, p4⟩ := p
    obtain ⟨q1, q2, q3, q4, q5, q6⟩ := q
    have r : ∀ i, i ≠ 0 → i ≠ 2 → ∀ j, ξ i j = m i j := fun i a b j => by rw [q1 i a b]
    have hc : coreE M ν := ⟨fun i j a b => p1 i j (by omega) (by omega), fun j => p1 20 j (by omega) (by omega), fun j a b => p1 31 j (by omega) (by omega), fun i j a b => p1 i j (by omega) (by omega)⟩
    refine ⟨hR.1.cg hc (p1 19 1 (by omega) (by omega)) (hkn.cg hc (p1 117 7 (by omega) (by omega)) (p1 117 8 (by omega) (by omega)) (fun i j a b => p1 i j (by omega) (by omega))) (fun k a b c => q2 k (by omega) (by omega)) (fun i a b c e => q1 i (by omega) (by omega)) (fun k _ => r 19 (by omega) (by omega) k), ⟨⟨q4, p2, by omega⟩, fun j hj => ?_, ?_⟩, ⟨?_, ?_, ?_⟩, hR.2.2.2.1.cg (p1 28 1 (by omega) (by omega)) (fun j => p1 29 j (by omega) (by omega)) (q2 50 (by omega) (by omega)) (fun j => r 23 (by omega) (by omega) j), hR.2.2.2.2.1.cg (p1 45 1 (by omega) (by omega)) (fun i j a b => p1 i j (by omega) (by omega)) (q2 40 (by omega) (by omega)) (fun j => r 21 (by omega) (by omega) j), hR.2.2.2.2.2.cg (p1 45 5 (by omega) (by omega)) (fun i j a b => p1 i j (by omega) (by omega)) (q2 59 (by omega) (by omega)) (fun j => r 30 (by omega) (by omega) j)⟩
    · by_cases hj2 : j < tp
      · rw [p3 j hj2, q5 j hj2]; exact hb8 j hj2
      · obtain ⟨i, rfl⟩ : ∃ i, j = tp + i := ⟨j - tp, by omega⟩
        rw [p4 i (by omega), q6 i (by omega)]
        exact b8_of _
    · rw [q2 8 (by omega) (by omega), p1 1 6 (by omega) (by omega)]; exact h8
    · rw [q2 41 (by omega) (by omega), p1 0 11 (by omega) (by omega)]; exact hx1
    · rw [r 1 (by omega) (by omega) 0, p1 0 12 (by omega) (by omega)]; exact hx2
    · rw [r 1 (by omega) (by omega) 1, p1 0 13 (by omega) (by omega)]; exact hx3
  · exact Pr.u0 hR (s_feedN a b c e f ht2 ht3 (by omega)) (t_feedN a b c e f ht1 ht3 (by omega))
/-- a text told wrong, or not taken -/
theorem RELn.fl {q : Int32} (h : RELn n no nq nr nm tp w0 ki M m) (hc : ∀ i j, i ≠ 1 → ¬ D0 i j → ν i j = M i j) (h1 : ν 1 1 = 0) (h6 : ν 1 6 = q) (hw : wF m ξ) (h8 : ξ 0 8 = q) : RELn n no nq nr nm 0 w0 ki ν ξ := by
  have p1 : ∀ i j, i ≠ 1 → ¬ ((11 ≤ i ∧ i ≤ 18) ∨ (i = 19 ∧ j = 3) ∨ i = 21 ∨ (i = 24 ∧ j = 3) ∨ (25 ≤ i ∧ i ≤ 27) ∨ (i = 28 ∧ j = 3) ∨ i = 30) → ν i j = M i j := hc
  obtain ⟨a1, a2, a3, a4, a5, a6⟩ := h
  obtain ⟨q1, q2, q3, q4⟩ := hw
  have r : ∀ i, ¬ (i = 0 ∨ (3 ≤ i ∧ i ≤ 6) ∨ i = 11 ∨ i = 12 ∨ i = 17 ∨ i = 22) → ξ i = m i := fun i z => q1 i (by omega) (by omega) (by omega) (by omega) (by omega) (by omega) (by omega) (by omega) (by omega)
  have r' : ∀ i, ¬ (i = 0 ∨ (3 ≤ i ∧ i ≤ 6) ∨ i = 11 ∨ i = 12 ∨ i = 17 ∨ i = 22) → ∀ j, ξ i j = m i j := fun i z j => by rw [r i z]
  have hc : coreE M ν := ⟨fun i j a b => p1 i j (by omega) (by omega), fun j => p1 20 j (by omega) (by omega), fun j a b => p1 31 j (by omega) (by omega), fun i j a b => p1 i j (by omega) (by omega)⟩
  refine ⟨a1.cg hc (p1 19 1 (by omega) (by omega)) (a1.2.2.2.2.2.cg hc (p1 117 7 (by omega) (by omega)) (p1 117 8 (by omega) (by omega)) (fun i j a b => p1 i j (by omega) (by omega))) (fun k a b c => q2 k (by omega)) (fun i a b c e => r i (by omega)) (fun k _ => r' 19 (by omega) k), RT.fresh h1 q4 (h8.trans h6.symm), ⟨?_, ?_, ?_⟩, a4.cg (p1 28 1 (by omega) (by omega)) (fun j => p1 29 j (by omega) (by omega)) (q2 50 (by omega)) (fun j => r' 23 (by omega) j), a5.cg (p1 45 1 (by omega) (by omega)) (fun i j a b => p1 i j (by omega) (by omega)) (q2 40 (by omega)) (fun j => r' 21 (by omega) j), a6.cg (p1 45 5 (by omega) (by omega)) (fun i j a b => p1 i j (by omega) (by omega)) (q2 59 (by omega)) (fun j => r' 30 (by omega) j)⟩
  · rw [q2 41 (by omega), p1 0 11 (by omega) (by omega)]; exact a3.1
  · rw [r' 1 (by omega) 0, p1 0 12 (by omega) (by omega)]; exact a3.2.1
  · rw [r' 1 (by omega) 1, p1 0 13 (by omega) (by omega)]; exact a3.2.2
theorem Pr.fl {D : Nat → Nat → Prop} {k q : Nat} (h : RELn n no nq nr nm tp w0 ki M m) (hD : ∀ i j, D i j → D0 i j) (hC : bc_C 40 LC yC (.ref 0 :: as) M (flS D k q M)) (hM : bc_C 40 LM yM (.ref 0 :: as) m (flE (k, q) m)) (hv : vT yM (.int (nI k - 10)) := by exact .inr ⟨rfl, _, rfl⟩) : Pr yC yM as M m := ⟨.int (nI k - 10), fun ν => ν 1 1 = 0 ∧ ν 1 6 = nI q ∧ ∀ i j, i ≠ 1 → ¬ D i j → ν i j = M i j, fun ξ => wF m ξ ∧ ξ 0 8 = nI q, hv, hC.weaken (fun r ν z => ⟨z.1, z.2⟩), hM.weaken (fun r ξ z => ⟨z.1, z.2⟩), fun ν ξ a b => ⟨⟨_, _, _, _, _, _, _, _, h.fl (fun i j p z => a.2.2 i j p (fun y => z (hD i j y))) a.1 a.2.1 b.1 b.2⟩, b.1.2.2.1⟩⟩
theorem p_book {q : Int32} (h : REL M m) (g : 0 ≤ q ∧ q ≤ M 1 1 ∧ q ≤ 60) : Pr mX9_book mX10_book [.int q] M m := by
  obtain ⟨n, no, nq, nr, nm, tp, w0, ki, hR⟩ := h
  obtain ⟨⟨hE, hRM, ⟨hN, hA, hH⟩, hNB, hoq, hkn⟩, ⟨⟨ht1, ht2, ht3⟩, hb8, h8⟩, ⟨hx1, hx2, hx3⟩, ⟨hbk, hbl⟩, ⟨⟨hw1, hw2, hw3⟩, hwr⟩, ⟨hi1, hi2, hi3⟩, hir⟩ := id hR
  obtain ⟨a, ha, rfl⟩ := n_of (b := 60) (by decide) (Int32.not_lt.mpr g.1) g.2.2
  have hat : a ≤ tp := by
    have := g.2.1
    rw [ht2] at this
    exact Nat.le_of_not_lt (fun z => absurd this (Int32.not_le.mpr ((bn_ltN (by omega) (by omega)).mpr z)))
  have tM := t_book (d := 33) (t := M 2) ht1 ht3 hat ha hb8
  cases hS : (pBk (M 2) a 7 (.inr (skp (M 2) a 0), bk0)).1 with
  | inl f =>
    unfold bkQ at tM
    rw [hS] at tM
    exact Pr.fl hR (fun i j z => by unfold D0; omega) (s_bookE ht2 ht3 hat ha hS) tM
  | inr p =>
    have tC := s_bookOK (d := 34) ht2 ht3 hat ha hS
    unfold bkQ at tM
    rw [hS] at tM
    generalize (pBk (M 2) a 7 (.inr (skp (M 2) a 0), bk0)).2 = B at tC tM
    refine ⟨_, _, _, by exact .inr ⟨rfl, _, rfl⟩, tC, tM, fun ν ξ p q => ?_⟩
    obtain ⟨p1, ⟨p2, p3⟩, p4, p5⟩ := p
    obtain ⟨η, hw, e8, q1, q2, q3, q4⟩ := q
    have hF := hR.fl (ν := bc_u (bc_u M 1 1 0) 1 6 (-1)) (ξ := η) (q := -1) (fun i j z _ => by rw [bu2 (fun y => z y.1), bu2 (fun y => z y.1)]) rfl rfl hw e8
    obtain ⟨a1, a2, a3, a4, a5, a6⟩ := hF
    have c1 : ∀ i j, i ≠ 1 → ¬ (i = 28 ∧ (j = 1 ∨ j = 3)) → i ≠ 29 → i ≠ 30 → ν i j = bc_u (bc_u M 1 1 0) 1 6 (-1) i j := fun i j x y z u => by rw [bu2 (fun t => x t.1), bu2 (fun t => x t.1)]; exact p1 i j x y z u
    have hc : coreE (bc_u (bc_u M 1 1 0) 1 6 (-1)) ν := ⟨fun i j a b => c1 i j (by omega) (by omega) (by omega) (by omega), fun j => c1 20 j (by omega) (by omega) (by omega) (by omega), fun j a b => c1 31 j (by omega) (by omega) (by omega) (by omega), fun i j a b => c1 i j (by omega) (by omega) (by omega) (by omega)⟩
    have r' : ∀ i, i ≠ 0 → i ≠ 23 → ∀ j, ξ i j = η i j := fun i x y j => by rw [q1 i x y]
    refine ⟨⟨n, no, nq, nr, nm, 0, w0, ki, a1.cg hc (c1 19 1 (by omega) (by omega) (by omega) (by omega)) (a1.2.2.2.2.2.cg hc (c1 117 7 (by omega) (by omega) (by omega) (by omega)) (c1 117 8 (by omega) (by omega) (by omega) (by omega)) (fun i j a b => c1 i j (by omega) (by omega) (by omega) (by omega))) (fun k a b c => q2 k (by omega)) (fun i a b c e => q1 i (by omega) (by omega)) (fun k _ => r' 19 (by omega) (by omega) k), RT.fresh p4 ((q2 2 (by omega)).trans hw.2.2.2) ((q2 8 (by omega)).trans (e8.trans p5.symm)), ⟨?_, ?_, ?_⟩, ⟨q3.trans p2.symm, fun h hh => (q4 h hh).trans (p3 h hh).symm⟩, a5.cg (c1 45 1 (by omega) (by omega) (by omega) (by omega)) (fun i j a b => c1 i j (by omega) (by omega) (by omega) (by omega)) (q2 40 (by omega)) (fun j => r' 21 (by omega) (by omega) j), a6.cg (c1 45 5 (by omega) (by omega) (by omega) (by omega)) (fun i j a b => c1 i j (by omega) (by omega) (by omega) (by omega)) (q2 59 (by omega)) (fun j => r' 30 (by omega) (by omega) j)⟩, (q2 0 (by omega)).trans hw.2.2.1⟩
    · rw [q2 41 (by omega), c1 0 11 (by omega) (by omega) (by omega) (by omega)]; exact a3.1
    · rw [r' 1 (by omega) (by omega) 0, c1 0 12 (by omega) (by omega) (by omega) (by omega)]; exact a3.2.1
    · rw [r' 1 (by omega) (by omega) 1, c1 0 13 (by omega) (by omega) (by omega) (by omega)]; exact a3.2.2
end T84
