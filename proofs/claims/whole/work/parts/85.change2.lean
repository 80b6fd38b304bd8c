/-! law, work, undo, image, restore -/
section T85
variable {n no nq nr nm tp w0 ki : Nat} {m ξ ν M : bc_M} {yC yM : bc_Y} {as : List Value} {v : Value} {t : Nat → Int32}
theorem wf_go {S : Nat → Int32} {r : Nat} : ∀ (l : List Nat) (h k : Nat), (∀ i x, l[i]? = some x → S (k + i) = nI x) → (∀ x ∈ l, x < 2000) → dpS S k = h → chk h l = some r → ∀ i, i < l.length → (S (k + i) < 1007 → 0 ≤ S (k + i)) ∧ (¬ S (k + i) < 1007 → S (k + i) ≤ 1013 ∧ 2 ≤ dpS S (k + i)) := by
  intro l
  induction l with
  | nil => intro h k _ _ _ _ i hi; simp at hi
  | cons x l ih =>
    intro h k hS hx hd hc i hi
    have hx2 : x < 2000 := hx x List.mem_cons_self
    have e0 : S k = nI x := hS 0 x rfl
    have lt : S k < 1007 ↔ x < 1007 := by rw [e0, show (1007 : Int32) = nI 1007 from rfl, bn_ltN (by omega) (by omega)]
    have st : ∀ j y, l[j]? = some y → S (k + 1 + j) = nI y := fun j y hy => by
      have := hS (j + 1) y (by simpa using hy)
      rw [show k + 1 + j = k + (j + 1) by omega]
      exact this
    have nn : 0 ≤ S k := by rw [e0]; exact Int32.not_lt.mp (bn_nn (by omega))
    simp only [chk] at hc
    by_cases q : x < 1007
    · rw [if_pos q] at hc
      have hd2 : dpS S (k + 1) = h + 1 := by simp only [dpS]; rw [if_pos (lt.mpr q), hd]
      cases i with
      | zero => exact ⟨fun _ => nn, fun z => absurd (lt.mpr q) z⟩
      | succ i =>
        have := ih (h + 1) (k + 1) st (fun y hy => hx y (List.mem_cons_of_mem _ hy)) hd2 hc i (by simpa using hi)
        rw [show k + 1 + i = k + (i + 1) by omega] at this
        exact this
    · rw [if_neg q] at hc
      by_cases q2 : x ≤ 1013 ∧ 2 ≤ h
      · rw [if_pos q2] at hc
        have hd2 : dpS S (k + 1) = h - 1 := by simp only [dpS]; rw [if_neg (fun z => q (lt.mp z)), hd]
        cases i with
        | zero =>
          refine ⟨fun _ => nn, fun _ => ⟨?_, by rw [Nat.add_zero, hd]; exact q2.2⟩⟩
          rw [Nat.add_zero, e0, show (1013 : Int32) = nI 1013 from rfl]
          exact Int32.not_lt.mp (fun z => by have := (bn_ltN (by omega) (by omega)).mp z; omega)
        | succ i =>
          have := ih (h - 1) (k + 1) st (fun y hy => hx y (List.mem_cons_of_mem _ hy)) hd2 hc i (by simpa using hi)
          rw [show k + 1 + i = k + (i + 1) by omega] at this
          exact this
      · rw [if_neg q2] at hc
        cases hc
theorem chk_lt : ∀ (l : List Nat) (h r : Nat), chk h l = some r → ∀ x ∈ l, x < 2000 := by
  intro l
  induction l with
  | nil => intro h r _ x hx; cases hx
  | cons y l ih =>
    intro h r hc x hx
    simp only [chk] at hc
    by_cases q : y < 1007
    · rw [if_pos q] at hc
      rcases List.mem_cons.mp hx with rfl | z
      · omega
      · exact ih _ _ hc x z
    · rw [if_neg q] at hc
      by_cases q2 : y ≤ 1013 ∧ 2 ≤ h
      · rw [if_pos q2] at hc
        rcases List.mem_cons.mp hx with rfl | z
        · omega
        · exact ih _ _ hc x z
      · rw [if_neg q2] at hc
        cases hc
theorem wf_Ex {S : Nat → Int32} {l : List Nat} (h : Ex l) (hl : l.length ≤ 150) (hS : ∀ i x, l[i]? = some x → S i = nI x) : wfS S l.length := by
  have h0 := h 0
  refine ⟨?_, hl, fun k hk => ?_⟩
  · cases l with
    | nil => simp [chk] at h0
    | cons x l => simp
  · have := wf_go l 0 0 (fun i x hx => by rw [Nat.zero_add]; exact hS i x hx) (chk_lt l _ _ h0) rfl h0 k hk
    rw [Nat.zero_add] at this
    exact this
theorem pLaw_ok {a p : Nat} (ha : a ≤ 150) (h : (pLaw t a (skp t a 0)).1 = .inr p) : Ex (pLaw t a (skp t a 0)).2 ∧ (pLaw t a (skp t a 0)).2.length ≤ 150 := by
  have h : sEnd a (pSu t a (pUn t a 6) (.inr (skp t a 0), [])).1 = .inr p := h
  show Ex (pSu t a (pUn t a 6) (.inr (skp t a 0), [])).2 ∧ (pSu t a (pUn t a 6) (.inr (skp t a 0), [])).2.length ≤ 150
  have h2 : ∃ p', (pSu t a (pUn t a 6) (.inr (skp t a 0), [])).1 = .inr p' := by
    cases hz : (pSu t a (pUn t a 6) (.inr (skp t a 0), [])).1 with
    | inl f => rw [hz] at h; cases h
    | inr p' => exact ⟨p', rfl⟩
  obtain ⟨p', hp'⟩ := h2
  obtain ⟨p0, e, e0, e1, e2, e3, e4, e5⟩ := (pSu_good (pUn_good 6)).2 (.inr (skp t a 0)) [] p' (fun q hq => by cases hq; exact rn_le (by omega)) hp'
  rw [e1, List.nil_append]
  exact ⟨e2, by omega⟩
theorem mEnv.law {L : Nat} (h : mEnv M m n no nq nr nm) (e : ∀ i j, 3 ≤ i → i ≤ 10 → ν i j = M i j) (hl : lawB ν L) (h0 : ∀ k, 25 ≤ k → k ≤ 28 → ξ 0 k = m 0 k) (h1 : ∀ i, 7 ≤ i → i ≤ 10 → ξ i = m i) (hm : mLaw ν ξ L) : mEnv ν ξ L no nq nr nm := by
  have e4 : ν 4 = M 4 := funext fun j => e 4 j (by omega) (by omega)
  have e5 : ν 5 = M 5 := funext fun j => e 5 j (by omega) (by omega)
  have e6 : ν 6 = M 6 := funext fun j => e 6 j (by omega) (by omega)
  have e7 : ν 7 = M 7 := funext fun j => e 7 j (by omega) (by omega)
  have e8 : ν 8 = M 8 := funext fun j => e 8 j (by omega) (by omega)
  have e9 : ν 9 = M 9 := funext fun j => e 9 j (by omega) (by omega)
  have e10 : ν 10 = M 10 := funext fun j => e 10 j (by omega) (by omega)
  obtain ⟨⟨⟨b1, b2, b3⟩, ⟨c1, c2, c3⟩, -⟩, h2, h3, h4, h5, h6, h7, -⟩ := h
  refine ⟨⟨⟨(e 3 1 (by omega) (by omega)).trans b1, b2, by rw [e6]; exact b3⟩, ⟨(e 3 0 (by omega) (by omega)).trans c1, c2, by rw [e4]; exact c3⟩, hl⟩, ?_, h3, ?_, ?_, ?_, ?_, hm⟩
  · rw [h0 25 (by omega) (by omega), h0 26 (by omega) (by omega), h0 27 (by omega) (by omega), h0 28 (by omega) (by omega)]; exact h2
  · rw [h1 7 (by omega) (by omega), e4, e5]; exact h4
  · rw [h1 8 (by omega) (by omega), e6, e7]; exact h5
  · unfold en at h6 ⊢
    rw [h1 9 (by omega) (by omega), e10]; exact h6
  · rw [h1 10 (by omega) (by omega), e8, e9]; exact h7
theorem p_law {q : Int32} (h : REL M m) (g : 0 ≤ q ∧ q ≤ M 1 1 ∧ q ≤ 150) : Pr mX9_law mX10_law [.int q] M m := by
  obtain ⟨n, no, nq, nr, nm, tp, w0, ki, hR⟩ := h
  obtain ⟨⟨hE, hRM, ⟨hN, hA, hH⟩, hNB, hoq, hkn⟩, ⟨⟨ht1, ht2, ht3⟩, hb8, h8⟩, ⟨hx1, hx2, hx3⟩, ⟨hbk, hbl⟩, ⟨⟨hw1, hw2, hw3⟩, hwr⟩, ⟨hi1, hi2, hi3⟩, hir⟩ := id hR
  obtain ⟨a, ha, rfl⟩ := n_of (b := 150) (by decide) (Int32.not_lt.mpr g.1) g.2.2
  have hat : a ≤ tp := by
    have := g.2.1
    rw [ht2] at this
    exact Nat.le_of_not_lt (fun z => absurd this (Int32.not_le.mpr ((bn_ltN (by omega) (by omega)).mpr z)))
  have tM := t_law (d := 7) (t := M 2) ht1 ht3 hat ha hb8 (fun p hp => (pLaw_ok ha hp).2)
  cases hS : (pLaw (M 2) a (skp (M 2) a 0)).1 with
  | inl f =>
    unfold lwQ at tM
    rw [hS] at tM
    exact Pr.fl hR (fun i j z => by unfold D0; omega) (s_lawE ht2 ht3 hat ha hS) tM
  | inr p =>
    obtain ⟨hx, hl⟩ := pLaw_ok ha hS
    have tC := s_lawOK (d := 2) ht2 ht3 hat ha hS hl
    unfold lwQ at tM
    rw [hS] at tM
    generalize (pLaw (M 2) a (skp (M 2) a 0)).2 = l at tC tM hx hl
    refine ⟨_, _, _, by exact .inr ⟨rfl, _, rfl⟩, tC, tM, fun ν ξ p q => ?_⟩
    obtain ⟨p1, ⟨p2, p3⟩, p6, p4, p5⟩ := p
    obtain ⟨η, hw, e8, q1, q2, q3, q4⟩ := q
    have hF := hR.fl (ν := bc_u (bc_u M 1 1 0) 1 6 (-1)) (ξ := η) (q := -1) (fun i j z _ => by rw [bu2 (fun y => z y.1), bu2 (fun y => z y.1)]) rfl rfl hw e8
    obtain ⟨⟨b1, ⟨b2, b3⟩, b4, b5, b6, -⟩, a2, a3, a4, a5, a6⟩ := hF
    have c1 : ∀ i j, i ≠ 1 → ¬ ((i = 19 ∧ (j = 1 ∨ j = 3)) ∨ i = 20 ∨ i = 21 ∨ (i = 117 ∧ j = 7)) → ν i j = bc_u (bc_u M 1 1 0) 1 6 (-1) i j := fun i j x y => by rw [bu2 (fun t => x t.1), bu2 (fun t => x t.1)]; exact p1 i j x (by omega) (by omega) (by omega) (by omega)
    have r' : ∀ i, i ≠ 0 → i ≠ 13 → i ≠ 14 → ∀ j, ξ i j = η i j := fun i x y z j => by rw [q1 i x y z]
    have hrow : row 31 ν = row 31 (bc_u (bc_u M 1 1 0) 1 6 (-1)) := by
      funext k
      unfold row
      rw [c1 31 _ (by omega) (by omega), c1 32 _ (by omega) (by omega), c1 33 _ (by omega) (by omega), c1 34 _ (by omega) (by omega)]
    refine ⟨⟨l.length, no, nq, nr, nm, 0, w0, ki, ⟨b1.law (fun i j x y => c1 i j (by omega) (by omega)) ⟨p2, wf_Ex hx hl p3⟩ (fun k x y => q2 k (by omega)) (fun i x y => q1 i (by omega) (by omega) (by omega)) (.inr ⟨q3, fun k hk => ?_⟩), ⟨(c1 3 2 (by omega) (by omega)).trans b2, (c1 3 3 (by omega) (by omega)).trans b3⟩, ?_, ⟨fun q hq => ?_, fun o ho => ?_⟩, b6, .inl p6⟩, RT.fresh p4 ((q2 2 (by omega)).trans hw.2.2.2) ((q2 8 (by omega)).trans (e8.trans p5.symm)), ⟨?_, ?_, ?_⟩, a4.cg (c1 28 1 (by omega) (by omega)) (fun j => c1 29 j (by omega) (by omega)) (q2 50 (by omega)) (fun j => r' 23 (by omega) (by omega) (by omega) j), a5.cg (c1 45 1 (by omega) (by omega)) (fun i j a b => c1 i j (by omega) (by omega)) (q2 40 (by omega)) (fun j => r' 21 (by omega) (by omega) (by omega) j), a6.cg (c1 45 5 (by omega) (by omega)) (fun i j a b => c1 i j (by omega) (by omega)) (q2 59 (by omega)) (fun j => r' 30 (by omega) (by omega) (by omega) j)⟩, (q2 0 (by omega)).trans hw.2.2.1⟩
    · have hg : l[k]? = some l[k] := List.getElem?_eq_getElem hk
      rw [p3 k _ hg]
      exact q4 k _ hg
    · rw [hrow]
      exact b4.cg (fun _ _ => rfl) (fun k _ => r' 19 (by omega) (by omega) (by omega) k)
    · rw [c1 5 q (by omega) (by omega)]; exact b5.1 q hq
    · rw [c1 7 o (by omega) (by omega)]; exact b5.2 o ho
    · rw [q2 41 (by omega), c1 0 11 (by omega) (by omega)]; exact a3.1
    · rw [r' 1 (by omega) (by omega) (by omega) 0, c1 0 12 (by omega) (by omega)]; exact a3.2.1
    · rw [r' 1 (by omega) (by omega) (by omega) 1, c1 0 13 (by omega) (by omega)]; exact a3.2.2
theorem p_undo (h : REL M m) : Pr mX9_undo mX10_undo [] M m := by
  obtain ⟨n, no, nq, nr, nm, tp, w0, ki, hR⟩ := h
  obtain ⟨⟨hE, hRM, ⟨hN, hA, hH⟩, hNB, hoq, hkn⟩, ⟨⟨ht1, ht2, ht3⟩, hb8, h8⟩, ⟨hx1, hx2, hx3⟩, ⟨hbk, hbl⟩, ⟨⟨hw1, hw2, hw3⟩, hwr⟩, ⟨hi1, hi2, hi3⟩, hir⟩ := id hR
  cases w0 with
  | zero => exact Pr.u0 hR (s_undoN hw2) (t_undoN hw1)
  | succ k =>
    refine ⟨_, _, _, by exact .inr ⟨rfl, _, rfl⟩, s_undoY (d := 37) (by omega) hw2, t_undoY (d := 40) (by omega) hw1, fun ν ξ p q => ?_⟩
    obtain ⟨p1, p2, p3, p4, p5⟩ := p
    obtain ⟨q1, q2, q3, q4, q5, q6⟩ := q
    have c1 : ∀ i j, ¬ ((i = 31 ∧ 2 ≤ j ∧ j ≤ 7) ∨ (32 ≤ i ∧ i ≤ 34) ∨ (i = 45 ∧ j = 1) ∨ (i = 0 ∧ j = 11) ∨ (i = 117 ∧ j = 7)) → ν i j = M i j := fun i j z => p1 i j (by omega) (by omega) (by omega) (by omega) (by omega) (by omega) (by omega)
    have r' : ∀ i, i ≠ 0 → i ≠ 19 → ∀ j, ξ i j = m i j := fun i x y j => by rw [q1 i x y]
    refine ⟨⟨n, no, nq, nr, nm, tp, k, ki, ⟨(hE.cM ⟨fun i j x y => c1 i j (by omega), c1 19 1 (by omega), fun j => c1 20 j (by omega)⟩).mv2 (fun k x y z => q2 k (by omega) (by omega) (by omega)) (fun i x y z u => q1 i (by omega) (by omega)), ⟨(c1 3 2 (by omega)).trans hRM.1, (c1 3 3 (by omega)).trans hRM.2⟩, (hwr k (by omega)).cg p5 q6, ⟨fun q hq => ?_, fun o ho => ?_⟩, hoq, .inl p4⟩, hR.2.1.cg (c1 1 1 (by omega)) (c1 1 6 (by omega)) (fun j => c1 2 j (by omega)) (q2 2 (by omega) (by omega) (by omega)) (q2 8 (by omega) (by omega) (by omega)) (fun j => r' 2 (by omega) (by omega) j), ⟨q5.trans p3.symm, ?_, ?_⟩, hR.2.2.2.1.cg (c1 28 1 (by omega)) (fun j => c1 29 j (by omega)) (q2 50 (by omega) (by omega) (by omega)) (fun j => r' 23 (by omega) (by omega) j), ⟨⟨q4, p2, by omega⟩, fun j hj => (hwr j (by omega)).cg (fun i _ => c1 _ _ (by omega)) (fun i _ => r' 21 (by omega) (by omega) _)⟩, hR.2.2.2.2.2.cg (c1 45 5 (by omega)) (fun i j a b => c1 i j (by omega)) (q2 59 (by omega) (by omega) (by omega)) (fun j => r' 30 (by omega) (by omega) j)⟩, q3⟩
    · rw [c1 5 q (by omega)]; exact hNB.1 q hq
    · rw [c1 7 o (by omega)]; exact hNB.2 o ho
    · rw [r' 1 (by omega) (by omega) 0, c1 0 12 (by omega)]; exact hx2
    · rw [r' 1 (by omega) (by omega) 1, c1 0 13 (by omega)]; exact hx3
theorem p_image (h : REL M m) : Pr mX9_image mX10_image [] M m := by
  obtain ⟨n, no, nq, nr, nm, tp, w0, ki, hR⟩ := h
  obtain ⟨⟨hE, hRM, ⟨hN, hA, hH⟩, hNB, hoq, hkn⟩, ⟨⟨ht1, ht2, ht3⟩, hb8, h8⟩, ⟨hx1, hx2, hx3⟩, ⟨hbk, hbl⟩, ⟨⟨hw1, hw2, hw3⟩, hwr⟩, ⟨hi1, hi2, hi3⟩, hir⟩ := id hR
  by_cases hk : ki < 3
  · refine ⟨_, _, _, by exact .inr ⟨rfl, _, rfl⟩, s_imageY (d := 36) hk hi2, t_imageY (d := 38) hk hi1, fun ν ξ p q => ?_⟩
    obtain ⟨p1, p2, p3, p4, p5, p6⟩ := p
    obtain ⟨q1, q2, q3, q4, q5, q6, q7, q8⟩ := q
    have c1 : ∀ i j, ¬ ((64 ≤ i ∧ i ≤ 116) ∨ (i = 45 ∧ j = 5)) → ν i j = M i j := fun i j z => p1 i j (by omega) (by omega) (by omega) (by omega)
    have r' : ∀ i, i ≠ 0 → i ≠ 30 → ∀ j, ξ i j = m i j := fun i x y j => by rw [q1 i x y]
    have hc : coreE M ν := ⟨fun i j a b => c1 i j (by omega), fun j => c1 20 j (by omega), fun j a b => c1 31 j (by omega), fun i j a b => c1 i j (by omega)⟩
    refine ⟨⟨n, no, nq, nr, nm, tp, w0, ki + 1, hR.1.cg hc (c1 19 1 (by omega)) (hkn.cg hc (c1 117 7 (by omega)) (c1 117 8 (by omega)) (fun i j a b => c1 i j (by omega))) (fun k a b c => q2 k (by omega) (by omega)) (fun i a b c e => q1 i (by omega) (by omega)) (fun k _ => r' 19 (by omega) (by omega) k), hR.2.1.cg (c1 1 1 (by omega)) (c1 1 6 (by omega)) (fun j => c1 2 j (by omega)) (q2 2 (by omega) (by omega)) (q2 8 (by omega) (by omega)) (fun j => r' 2 (by omega) (by omega) j), ⟨?_, ?_, ?_⟩, hR.2.2.2.1.cg (c1 28 1 (by omega)) (fun j => c1 29 j (by omega)) (q2 50 (by omega) (by omega)) (fun j => r' 23 (by omega) (by omega) j), hR.2.2.2.2.1.cg (c1 45 1 (by omega)) (fun i j a b => c1 i j (by omega)) (q2 40 (by omega) (by omega)) (fun j => r' 21 (by omega) (by omega) j), ⟨⟨q4, p4, by omega⟩, fun i hi => ?_⟩⟩, q3⟩
    · rw [q2 41 (by omega) (by omega), c1 0 11 (by omega)]; exact hx1
    · rw [r' 1 (by omega) (by omega) 0, c1 0 12 (by omega)]; exact hx2
    · rw [r' 1 (by omega) (by omega) 1, c1 0 13 (by omega)]; exact hx3
    · by_cases e : i = ki
      · subst e
        refine ⟨w0, hw3, p3.trans hw2, q7.trans hw1, ?_, fun r hr => ?_⟩
        · exact hR.1.2.2.1.cg (fun k hk => (p5 k hk).trans (svR_row hk)) (fun k hk => q5 k hk)
        · exact (hwr r hr).cg (fun k hk => p6 r (by omega) k hk) (fun k hk => q6 _ (by omega))
      · obtain ⟨w, x1, x2, x3, x4, x5⟩ := hir i (by omega)
        refine ⟨w, x1, (p2 i e).trans x2, (q8 _ (by omega)).trans x3, x4.cg (fun k _ => p1 _ _ (by omega) (by omega) (by omega) (by omega)) (fun k _ => q8 _ (by omega)), fun r hr => (x5 r hr).cg (fun k _ => p1 _ _ (by omega) (by omega) (by omega) (by omega)) (fun k _ => q8 _ (by omega))⟩
  · have hk3 : ki = 3 := by omega
    subst hk3
    exact Pr.u0 hR (s_imageN hi2) (t_imageN hi1)
theorem p_restore (h : REL M m) : Pr mX9_restore mX10_restore [] M m := by
  obtain ⟨n, no, nq, nr, nm, tp, w0, ki, hR⟩ := h
  obtain ⟨⟨hE, hRM, ⟨hN, hA, hH⟩, hNB, hoq, hkn⟩, ⟨⟨ht1, ht2, ht3⟩, hb8, h8⟩, ⟨hx1, hx2, hx3⟩, ⟨hbk, hbl⟩, ⟨⟨hw1, hw2, hw3⟩, hwr⟩, ⟨hi1, hi2, hi3⟩, hir⟩ := id hR
  cases ki with
  | zero => exact Pr.u0 hR (s_restoreN hi2) (t_restoreN hi1)
  | succ k =>
    refine ⟨_, _, _, by exact .inr ⟨rfl, _, rfl⟩, s_restoreY (d := 36) (by omega) hi2, t_restoreY (d := 38) (by omega) hi1, fun ν ξ p q => ?_⟩
    obtain ⟨p1, p2, p3, p4, p5, p6, p7⟩ := p
    obtain ⟨q1, q2, q3, q4, q5, q6, q7, q8⟩ := q
    obtain ⟨w, x1, x2, x3, x4, x5⟩ := hir k (by omega)
    have c1 : ∀ i j, ¬ ((i = 31 ∧ 2 ≤ j ∧ j ≤ 7) ∨ (32 ≤ i ∧ i ≤ 34) ∨ (47 ≤ i ∧ i ≤ 62) ∨ (i = 45 ∧ (j = 1 ∨ j = 5)) ∨ (i = 0 ∧ j = 11) ∨ (i = 117 ∧ j = 7)) → ν i j = M i j := fun i j z => p1 i j (by omega) (by omega) (by omega) (by omega) (by omega) (by omega) (by omega) (by omega)
    have r' : ∀ i, i ≠ 0 → i ≠ 19 → i ≠ 21 → ∀ j, ξ i j = m i j := fun i x y z j => by rw [q1 i x y z]
    refine ⟨⟨n, no, nq, nr, nm, tp, w, k, ⟨(hE.cM ⟨fun i j x y => c1 i j (by omega), c1 19 1 (by omega), fun j => c1 20 j (by omega)⟩).mv2 (fun k x y z => q2 k (by omega) (by omega) (by omega) (by omega)) (fun i x y z u => q1 i (by omega) (by omega) (by omega)), ⟨(c1 3 2 (by omega)).trans hRM.1, (c1 3 3 (by omega)).trans hRM.2⟩, x4.cg p6 q6, ⟨fun q hq => ?_, fun o ho => ?_⟩, hoq, .inl p5⟩, hR.2.1.cg (c1 1 1 (by omega)) (c1 1 6 (by omega)) (fun j => c1 2 j (by omega)) (q2 2 (by omega) (by omega) (by omega) (by omega)) (q2 8 (by omega) (by omega) (by omega) (by omega)) (fun j => r' 2 (by omega) (by omega) (by omega) j), ⟨q4.trans p4.symm, ?_, ?_⟩, hR.2.2.2.1.cg (c1 28 1 (by omega)) (fun j => c1 29 j (by omega)) (q2 50 (by omega) (by omega) (by omega) (by omega)) (fun j => r' 23 (by omega) (by omega) (by omega) j), ⟨⟨q8.trans x3, p3.trans x2, x1⟩, fun j hj => (x5 j hj).cg (fun i hi => p7 j (by omega) i hi) (fun i hi => q7 _ (by omega))⟩, ⟨⟨q5, p2, by omega⟩, fun i hi => (hir i (by omega)).cg (by omega) (c1 _ _ (by omega)) (fun a j x y => c1 a j (by omega)) (fun j x y => r' 30 (by omega) (by omega) (by omega) j)⟩⟩, q3⟩
    · rw [c1 5 q (by omega)]; exact hNB.1 q hq
    · rw [c1 7 o (by omega)]; exact hNB.2 o ho
    · rw [r' 1 (by omega) (by omega) (by omega) 0, c1 0 12 (by omega)]; exact hx2
    · rw [r' 1 (by omega) (by omega) (by omega) 1, c1 0 13 (by omega)]; exact hx3
end T85
