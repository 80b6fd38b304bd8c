/-! class and reference side by side -/
def rwR (no : Nat) (f g : Nat → Int32) : Prop := sR f g ∧ okA no f ∧ okH f
def RA (n no nq nr nm : Nat) (M m : bc_M) : Prop := mEnv M m n no nq nr nm ∧ (M 3 2 = nI nr ∧ M 3 3 = nI nm) ∧ rwR no (row 31 M) (m 19) ∧ nosB M no nq ∧ (0 < no → 0 < nq) ∧ kn n no nq M
def RT (tp : Nat) (M m : bc_M) : Prop := (m 0 2 = nI tp ∧ M 1 1 = nI tp ∧ tp ≤ 600) ∧ (∀ j, j < tp → b8R (M 2 j) (m 2 j)) ∧ m 0 8 = M 1 6
def RX (M m : bc_M) : Prop := m 0 41 = M 0 11 ∧ m 1 0 = M 0 12 ∧ m 1 1 = M 0 13
def RB (M m : bc_M) : Prop := m 0 50 = M 28 1 ∧ ∀ h, h < 13 → m 23 h = M 29 h
def RW (no w : Nat) (M m : bc_M) : Prop := (m 0 40 = nI w ∧ M 45 1 = nI w ∧ w ≤ 16) ∧ ∀ j, j < w → rwR no (M (47 + j)) (fun k => m 21 (33 * j + k))
def imR (no i : Nat) (M m : bc_M) : Prop := ∃ w, w ≤ 16 ∧ M 116 i = nI w ∧ m 30 (562 * i + 561) = nI w ∧ rwR no (M (64 + i)) (fun k => m 30 (562 * i + k)) ∧ ∀ r, r < w → rwR no (M (68 + 16 * i + r)) (fun k => m 30 (562 * i + 33 + (33 * r + k)))
def RI (no ki : Nat) (M m : bc_M) : Prop := (m 0 59 = nI ki ∧ M 45 5 = nI ki ∧ ki ≤ 3) ∧ ∀ i, i < ki → imR no i M m
def RELn (n no nq nr nm tp w ki : Nat) (M m : bc_M) : Prop := RA n no nq nr nm M m ∧ RT tp M m ∧ RX M m ∧ RB M m ∧ RW no w M m ∧ RI no ki M m
def REL (M m : bc_M) : Prop := ∃ n no nq nr nm tp w ki, RELn n no nq nr nm tp w ki M m
/-- what a question leaves alone in the class -/
def cS (M ν : bc_M) : Prop := ∀ i k, ¬ (i = 22 ∨ i = 23 ∨ (35 ≤ i ∧ i ≤ 44) ∨ (i = 31 ∧ 8 ≤ k) ∨ (119 ≤ i ∧ i ≤ 136) ∨ (i = 117 ∧ 7 ≤ k)) → ν i k = M i k
section T82
variable {d n no nq nr nm tp w ki : Nat} {m ξ ν M : bc_M}
theorem rwR.cg {f g f' g' : Nat → Int32} (h : rwR no f g) (e : ∀ k, k < 28 → f' k = f k) (e2 : ∀ k, k < 33 → g' k = g k) : rwR no f' g' := by
  obtain ⟨⟨h1, h2, h3, h4, h5, h6, h7, h8, h9⟩, ⟨a1, a2, a3, a4⟩, b1⟩ := h
  refine ⟨⟨fun o ho => ?_, fun o ho => ?_, fun o ho => ?_, fun o ho => ?_, ?_, ?_, ?_, ?_, ?_⟩, ⟨fun o ho => ?_, fun o ho ho2 => ?_, ?_, ?_⟩, ?_⟩
  · rw [e2 _ (by omega), e _ (by omega)]; exact h1 o ho
  · rw [e2 _ (by omega), e _ (by omega)]; exact h2 o ho
  · rw [e2 _ (by omega), e _ (by omega)]; exact h3 o ho
  · rw [e2 _ (by omega), e _ (by omega)]; exact h4 o ho
  · rw [e2 _ (by omega), e _ (by omega)]; exact h5
  · rw [e2 _ (by omega), e _ (by omega)]; exact h6
  · rw [e2 _ (by omega), e _ (by omega)]; exact h7
  · rw [e2 _ (by omega), e _ (by omega)]; exact h8
  · rw [e2 _ (by omega), e _ (by omega)]; exact h9
  · rw [e _ (by omega)]; exact a1 o ho
  · rw [e _ (by omega)]; exact a2 o ho ho2
  · rw [e 3 (by omega)]; exact a3
  · rw [e 0 (by omega), e 1 (by omega)]; exact a4
  · unfold okH
    rw [e 2 (by omega)]
    exact b1
theorem row_core (h : coreE M ν) : row 31 ν = row 31 M := by
  funext k
  unfold row
  by_cases h1 : k < 6
  · rw [if_pos h1, if_pos h1]; exact h.2.2.1 _ (by omega) (by omega)
  · rw [if_neg h1, if_neg h1]
    by_cases h2 : k < 14
    · rw [if_pos h2, if_pos h2]; exact h.2.2.2 _ _ (by omega) (by omega)
    · rw [if_neg h2, if_neg h2]
      by_cases h3 : k < 22
      · rw [if_pos h3, if_pos h3]; exact h.2.2.2 _ _ (by omega) (by omega)
      · rw [if_neg h3, if_neg h3]
        by_cases h4 : k < 28
        · rw [if_pos h4, if_pos h4]; exact h.2.2.2 _ _ (by omega) (by omega)
        · rw [if_neg h4, if_neg h4]
theorem mEnv.cM (h : mEnv M m n no nq nr nm) (e : envE M ν) : mEnv ν m n no nq nr nm := by
  have e4 : ν 4 = M 4 := funext fun j => e.1 4 j (by omega) (by omega)
  have e5 : ν 5 = M 5 := funext fun j => e.1 5 j (by omega) (by omega)
  have e6 : ν 6 = M 6 := funext fun j => e.1 6 j (by omega) (by omega)
  have e7 : ν 7 = M 7 := funext fun j => e.1 7 j (by omega) (by omega)
  have e8 : ν 8 = M 8 := funext fun j => e.1 8 j (by omega) (by omega)
  have e9 : ν 9 = M 9 := funext fun j => e.1 9 j (by omega) (by omega)
  have e10 : ν 10 = M 10 := funext fun j => e.1 10 j (by omega) (by omega)
  have e20 : ν 20 = M 20 := funext fun j => e.2.2 j
  have hB := okB_env e h.1
  refine ⟨hB, ?_⟩
  have h2 := h.2
  unfold mLaw en at h2 ⊢
  rw [e4, e5, e6, e7, e8, e9, e10, e20]
  exact h2
theorem nosB.cg (h : nosB M no nq) (e : coreE M ν) : nosB ν no nq := by
  refine ⟨fun q hq => ?_, fun o ho => ?_⟩
  · rw [e.1 5 q (by omega) (by omega)]; exact h.1 q hq
  · rw [e.1 7 o (by omega) (by omega)]; exact h.2 o ho
theorem RA.cg (h : RA n no nq nr nm M m) (hc : coreE M ν) (h19 : ν 19 1 = M 19 1) (hk : kn n no nq ν) (h0 : ∀ k, 25 ≤ k → k ≤ 35 → k ≠ 34 → ξ 0 k = m 0 k) (h1 : ∀ i, 7 ≤ i → i ≤ 14 → i ≠ 11 → i ≠ 12 → ξ i = m i) (hn : ∀ k, k < 33 → ξ 19 k = m 19 k) : RA n no nq nr nm ν ξ := by
  obtain ⟨a1, ⟨a2, a3⟩, a4, a5, a6, -⟩ := h
  refine ⟨(a1.cM ⟨hc.1, h19, hc.2.1⟩).mv2 h0 h1, ⟨(hc.1 3 2 (by omega) (by omega)).trans a2, (hc.1 3 3 (by omega) (by omega)).trans a3⟩, ?_, a5.cg hc, a6, hk⟩
  rw [row_core hc]
  exact a4.cg (fun _ _ => rfl) hn
theorem RT.cg (h : RT tp M m) (e1 : ν 1 1 = M 1 1) (e6 : ν 1 6 = M 1 6) (e2 : ∀ j, ν 2 j = M 2 j) (h0 : ξ 0 2 = m 0 2) (h8 : ξ 0 8 = m 0 8) (h2 : ∀ j, ξ 2 j = m 2 j) : RT tp ν ξ := by
  obtain ⟨⟨a1, a2, a3⟩, a4, a5⟩ := h
  refine ⟨⟨h0.trans a1, e1.trans a2, a3⟩, fun j hj => ?_, by rw [h8, e6]; exact a5⟩
  rw [e2, h2]
  exact a4 j hj
/-- a text is told: the tape is empty -/
theorem RT.fresh (h1 : ν 1 1 = 0) (h0 : ξ 0 2 = 0) (h8 : ξ 0 8 = ν 1 6) : RT 0 ν ξ := ⟨⟨h0, h1, by omega⟩, fun j hj => absurd hj (Nat.not_lt_zero _), h8⟩
theorem RB.cg (h : RB M m) (e1 : ν 28 1 = M 28 1) (e2 : ∀ j, ν 29 j = M 29 j) (h0 : ξ 0 50 = m 0 50) (h2 : ∀ j, ξ 23 j = m 23 j) : RB ν ξ := ⟨by rw [h0, e1]; exact h.1, fun k hk => by rw [h2, e2]; exact h.2 k hk⟩
theorem RW.cg (h : RW no w M m) (e1 : ν 45 1 = M 45 1) (e2 : ∀ i j, 47 ≤ i → i ≤ 62 → ν i j = M i j) (h0 : ξ 0 40 = m 0 40) (h2 : ∀ j, ξ 21 j = m 21 j) : RW no w ν ξ := by
  obtain ⟨⟨a1, a2, a3⟩, a4⟩ := h
  exact ⟨⟨h0.trans a1, e1.trans a2, a3⟩, fun j hj => (a4 j hj).cg (fun k _ => e2 _ _ (by omega) (by omega)) (fun k _ => h2 _)⟩
theorem imR.cg {i : Nat} (h : imR no i M m) (hi : i < 3) (e1 : ν 116 i = M 116 i) (e2 : ∀ a j, 64 ≤ a → a < 116 → ν a j = M a j) (h2 : ∀ j, 562 * i ≤ j → j < 562 * i + 562 → ξ 30 j = m 30 j) : imR no i ν ξ := by
  obtain ⟨w, a1, a2, a3, a4, a5⟩ := h
  refine ⟨w, a1, e1.trans a2, (h2 _ (by omega) (by omega)).trans a3, a4.cg (fun k _ => e2 _ _ (by omega) (by omega)) (fun k _ => h2 _ (by omega) (by omega)), fun r hr => (a5 r hr).cg (fun k _ => e2 _ _ (by omega) (by omega)) (fun k _ => h2 _ (by omega) (by omega))⟩
theorem RI.cg (h : RI no ki M m) (e1 : ν 45 5 = M 45 5) (e2 : ∀ a j, 64 ≤ a → a ≤ 116 → ν a j = M a j) (h0 : ξ 0 59 = m 0 59) (h2 : ∀ j, ξ 30 j = m 30 j) : RI no ki ν ξ := by
  obtain ⟨⟨a1, a2, a3⟩, a4⟩ := h
  exact ⟨⟨h0.trans a1, e1.trans a2, a3⟩, fun i hi => (a4 i hi).cg (by omega) (e2 _ _ (by omega) (by omega)) (fun a j p q => e2 a j p (by omega)) (fun j _ _ => h2 j)⟩
theorem cS.rf : cS M M := fun _ _ _ => rfl
theorem cS.core (h : cS M ν) : coreE M ν := ⟨fun i j a b => h i j (by omega), fun j => h 20 j (by omega), fun j a b => h 31 j (by omega), fun i j a b => h i j (by omega)⟩
theorem sameS.c (h : sameS 31 M ν) : cS M ν := fun i k q => h i k (by unfold scr; omega)
theorem trS.c (h : trS M ν) : cS M ν := fun i k q => h i k (by omega)
theorem tqS.c (h : tqS M ν) : cS M ν := fun i k q => h i k (by omega)
theorem kn.cg (h : kn n no nq M) (hc : coreE M ν) (h7 : ν 117 7 = M 117 7) (h8 : ν 117 8 = M 117 8) (hr : ∀ i j, 119 ≤ i → i ≤ 131 → ν i j = M i j) : kn n no nq ν := by
  rcases h with q | ⟨q, r⟩
  · exact .inl (h7.trans q)
  · exact .inr ⟨h7.trans q, r.same hc h8 hr⟩
theorem RELn.q (h : RELn n no nq nr nm tp w ki M m) (hc : cS M ν) (hk : kn n no nq ν) (hq : qS m ξ) : RELn n no nq nr nm tp w ki ν ξ := by
  obtain ⟨a1, a2, a3, a4, a5, a6⟩ := h
  obtain ⟨q1, q2, q3⟩ := hq
  have r : ∀ i, i ≠ 0 → i ≠ 15 → i ≠ 16 → i ≠ 20 → ¬ (24 ≤ i ∧ i ≤ 29) → ∀ j, ξ i j = m i j := fun i a b c e f j => by rw [q1 i a b c e f]
  refine ⟨a1.cg hc.core (hc 19 1 (by omega)) hk (fun k a b c => q2 k (by omega) (by omega)) (fun i a b c e => q1 i (by omega) (by omega) (by omega) (by omega) (by omega)) (fun k _ => r 19 (by omega) (by omega) (by omega) (by omega) (by omega) k), a2.cg (hc 1 1 (by omega)) (hc 1 6 (by omega)) (fun j => hc 2 j (by omega)) (q2 2 (by omega) (by omega)) (q2 8 (by omega) (by omega)) (fun j => r 2 (by omega) (by omega) (by omega) (by omega) (by omega) j), ⟨?_, ?_, ?_⟩, a4.cg (hc 28 1 (by omega)) (fun j => hc 29 j (by omega)) (q2 50 (by omega) (by omega)) (fun j => r 23 (by omega) (by omega) (by omega) (by omega) (by omega) j), a5.cg (hc 45 1 (by omega)) (fun i j a b => hc i j (by omega)) (q2 40 (by omega) (by omega)) (fun j => r 21 (by omega) (by omega) (by omega) (by omega) (by omega) j), a6.cg (hc 45 5 (by omega)) (fun i j a b => hc i j (by omega)) (q2 59 (by omega) (by omega)) (fun j => r 30 (by omega) (by omega) (by omega) (by omega) (by omega) j)⟩
  · rw [q2 41 (by omega) (by omega), hc 0 11 (by omega)]; exact a3.1
  · rw [r 1 (by omega) (by omega) (by omega) (by omega) (by omega) 0, hc 0 12 (by omega)]; exact a3.2.1
  · rw [r 1 (by omega) (by omega) (by omega) (by omega) (by omega) 1, hc 0 13 (by omega)]; exact a3.2.2
/-- a call is refused -/
def rfC (M : bc_M) (k : Nat) : bc_M := bc_u M 0 (12 + k) (M 0 (12 + k) + 1)
theorem RELn.rf {k : Nat} {code : Int32} (h : RELn n no nq nr nm tp w ki M m) (hk : k < 2) : RELn n no nq nr nm tp w ki (rfC M k) (refM m code k) := by
  obtain ⟨a1, a2, a3, a4, a5, a6⟩ := h
  have c : ∀ i j, ¬ (i = 0 ∧ j = 12 + k) → rfC M k i j = M i j := fun i j q => bu2 q
  have e : ∀ i j, i ≠ 1 → ¬ (i = 0 ∧ j = 0) → refM m code k i j = m i j := fun i j p q => by
    unfold refM
    rw [bu2 (fun z => p z.1), bu2 q, bu2 q]
  have f : ∀ i, i ≠ 0 → i ≠ 1 → refM m code k i = m i := fun i p q => funext fun j => e i j q (fun z => p z.1)
  have hc : coreE M (rfC M k) := ⟨fun i j a b => c i j (by omega), fun j => c 20 j (by omega), fun j a b => c 31 j (by omega), fun i j a b => c i j (by omega)⟩
  refine ⟨a1.cg hc (c 19 1 (by omega)) (a1.2.2.2.2.2.cg hc (c 117 7 (by omega)) (c 117 8 (by omega)) (fun i j a b => c i j (by omega))) (fun k a b c => e 0 k (by omega) (by omega)) (fun i a b c g => f i (by omega) (by omega)) (fun k _ => e 19 k (by omega) (by omega)), a2.cg (c 1 1 (by omega)) (c 1 6 (by omega)) (fun j => c 2 j (by omega)) (e 0 2 (by omega) (by omega)) (e 0 8 (by omega) (by omega)) (fun j => e 2 j (by omega) (by omega)), ⟨?_, ?_, ?_⟩, a4.cg (c 28 1 (by omega)) (fun j => c 29 j (by omega)) (e 0 50 (by omega) (by omega)) (fun j => e 23 j (by omega) (by omega)), a5.cg (c 45 1 (by omega)) (fun i j a b => c i j (by omega)) (e 0 40 (by omega) (by omega)) (fun j => e 21 j (by omega) (by omega)), a6.cg (c 45 5 (by omega)) (fun i j a b => c i j (by omega)) (e 0 59 (by omega) (by omega)) (fun j => e 30 j (by omega) (by omega))⟩
  · rw [e 0 41 (by omega) (by omega), c 0 11 (by omega)]; exact a3.1
  · have hk2 : k = 0 ∨ k = 1 := by omega
    rcases hk2 with rfl | rfl
    · show m 1 0 + 1 = M 0 12 + 1
      rw [a3.2.1]
    · show m 1 0 = M 0 12
      exact a3.2.1
  · have hk2 : k = 0 ∨ k = 1 := by omega
    rcases hk2 with rfl | rfl
    · show m 1 1 = M 0 13
      exact a3.2.2
    · show m 1 1 + 1 = M 0 13 + 1
      rw [a3.2.2]
end T82
