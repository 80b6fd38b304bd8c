/-! refused calls: reed, span, sacks, texts -/
section T94
variable {n no nq nr nm tp w0 ki : Nat} {m ξ ν M : bc_M}
theorem le30 {x : Int32} (h : x < 31) : x ≤ 30 := by
  rw [Int32.lt_iff_toInt_lt] at h
  rw [Int32.le_iff_toInt_le]
  have e1 : (31 : Int32).toInt = 31 := rfl
  have e2 : (30 : Int32).toInt = 30 := rfl
  omega
theorem f_reed {a1 a2 : Int32} (h : REL M m) (g : ¬ ((0 ≤ a1 ∧ a1 ≤ 30) ∧ (0 ≤ a2 ∧ a2 ≤ 30))) : Pt mX9_reed mX10_reed [.int a1, .int a2] eIA 1 M m := by
  obtain ⟨n, no, nq, nr, nm, tp, w0, ki, hR⟩ := h
  have hE := hR.1.1
  have ht1 := hR.2.1.1.1
  have ht2 := hR.2.1.1.2.1
  exact Pt.mk' hR (by decide) (x_reed g) (t_reedB (fun q => g ⟨⟨q.1, le30 q.2.1⟩, q.2.2.1, le30 q.2.2.2⟩))
theorem f_span {a1 a2 a3 a4 a5 : Int32} (h : REL M m) (g : ¬ ((1 ≤ a2 ∧ a2 ≤ 20) ∧ (0 ≤ a3 ∧ a3 ≤ 16) ∧ (1 ≤ a4 ∧ a4 ≤ 96) ∧ (0 ≤ a5 ∧ a5 ≤ 2))) : Pt mX9_span mX10_span [.int a1, .int a2, .int a3, .int a4, .int a5] eIA 1 M m := by
  obtain ⟨n, no, nq, nr, nm, tp, w0, ki, hR⟩ := h
  have hE := hR.1.1
  have ht1 := hR.2.1.1.1
  have ht2 := hR.2.1.1.2.1
  exact Pt.mk' hR (by decide) (x_span g) (t_spanB (fun q => g ⟨q.1, q.2.1.1, q.2.1.2, q.2.2⟩))
theorem f_sacksT {a1 a2 a3 : Int32} (h : REL M m) (g : ¬ (0 ≤ a1 ∧ a1 < M 3 0)) : Pt mX9_sacks mX10_sacks [.int a1, .int a2, .int a3] eNS 1 M m := by
  obtain ⟨n, no, nq, nr, nm, tp, w0, ki, hR⟩ := h
  have hE := hR.1.1
  have ht1 := hR.2.1.1.1
  have ht2 := hR.2.1.1.2.1
  have g2 := g
  rw [hE.1.2.1.1] at g2
  exact Pt.mk' hR (by decide) (x_sacksT g) (t_sacksB1 hE g2)
theorem f_sacksW {a1 a2 a3 : Int32} (h : REL M m) (q0 : 0 ≤ a1 ∧ a1 < M 3 0) (g : ¬ ((0 ≤ a2 ∧ a2 ≤ 1 <<< (M 3 0 &&& 31) - 1) ∧ (0 ≤ a3 ∧ a3 ≤ 999))) : Pt mX9_sacks mX10_sacks [.int a1, .int a2, .int a3] eIA 2 M m := by
  obtain ⟨n, no, nq, nr, nm, tp, w0, ki, hR⟩ := h
  have hE := hR.1.1
  have ht1 := hR.2.1.1.1
  have ht2 := hR.2.1.1.2.1
  have q2 := q0
  rw [hE.1.2.1.1] at q2
  refine Pt.mk' hR (by decide) (x_sacksW q0 g) (t_sacksB2 hE q2 (fun q => g ⟨⟨q.1, ?_⟩, q.2.2⟩))
  have p6 : 2 ^ nq ≤ 64 := (show 2 ^ nq ≤ 2 ^ 6 from Nat.pow_le_pow_right (by decide) hE.q6)
  obtain ⟨k, hk, rfl⟩ := n_of' (b := 2 ^ nq) (by omega) (Int32.not_lt.mpr q.1) q.2.1
  rw [hE.1.2.1.1, sh_nq hE.q6]
  exact Int32.not_lt.mp (fun z => by have := (bn_ltN (by omega) (by omega)).mp z; omega)
theorem f_bog {a1 : Int32} (h : REL M m) (g : ¬ (0 ≤ a1 ∧ a1 ≤ M 1 1)) : Pt mX9_bog mX10_bog [.int a1] eIA 1 M m := by
  obtain ⟨n, no, nq, nr, nm, tp, w0, ki, hR⟩ := h
  have hE := hR.1.1
  have ht1 := hR.2.1.1.1
  have ht2 := hR.2.1.1.2.1
  exact Pt.mk' hR (by decide) (x_bog (fun q => g ⟨q.1, q.2.1⟩)) (t_bogB ht1 (by rw [← ht2]; exact g))
theorem f_law {a1 : Int32} (h : REL M m) (g : ¬ (0 ≤ a1 ∧ a1 ≤ M 1 1 ∧ a1 ≤ 150)) : Pt mX9_law mX10_law [.int a1] eIA 1 M m := by
  obtain ⟨n, no, nq, nr, nm, tp, w0, ki, hR⟩ := h
  have hE := hR.1.1
  have ht1 := hR.2.1.1.1
  have ht2 := hR.2.1.1.2.1
  exact Pt.mk' hR (by decide) (x_law g) (t_lawB ht1 (by rw [← ht2]; exact g))
theorem f_work {a1 : Int32} (h : REL M m) (g : ¬ (0 ≤ a1 ∧ a1 ≤ M 1 1 ∧ a1 ≤ 150)) : Pt mX9_work mX10_work [.int a1] eIA 1 M m := by
  obtain ⟨n, no, nq, nr, nm, tp, w0, ki, hR⟩ := h
  have hE := hR.1.1
  have ht1 := hR.2.1.1.1
  have ht2 := hR.2.1.1.2.1
  exact Pt.mk' hR (by decide) (x_work g) (t_workB ht1 (by rw [← ht2]; exact g))
theorem f_book {a1 : Int32} (h : REL M m) (g : ¬ (0 ≤ a1 ∧ a1 ≤ M 1 1 ∧ a1 ≤ 60)) : Pt mX9_book mX10_book [.int a1] eIA 1 M m := by
  obtain ⟨n, no, nq, nr, nm, tp, w0, ki, hR⟩ := h
  have hE := hR.1.1
  have ht1 := hR.2.1.1.1
  have ht2 := hR.2.1.1.2.1
  exact Pt.mk' hR (by decide) (x_book g) (t_bookB ht1 (by rw [← ht2]; exact g))
end T94
