/-! both fresh: class and reference stand alike -/
theorem rel0 {M m : bc_M} (hM : frsh M) (hm : ∃ ν, (rF mM0 ν ∧ drB ν bg0) ∧ stS bg0 ν m) : REL M m := by
  obtain ⟨c0, ⟨c1, c2⟩, ⟨b0, b1, b2, b3, b4, b5, b6, b7⟩, cL, ⟨k1, k2⟩, ⟨r2, r3, r5, r4, r6, r7, r8, r9, r10⟩, ⟨w1, w2⟩, t7⟩ := hM
  obtain ⟨ν, ⟨⟨f1, f2⟩, -⟩, q1, q2, q3, q4, ⟨q5, q6, q7, q8, q9⟩, q10, q11⟩ := hm
  have hB : bR 3 M bg0 := by
    refine ⟨⟨b0, fun i z hz => by cases hz⟩, ⟨b1, fun i z hz => by cases hz⟩, ⟨b2, fun i hi => ?_⟩, ⟨b3, fun i z hz => by cases hz⟩, b4, b5, b6⟩
    exact b7 i hi
  have hrow : row 31 M = bgRow bg0 := by
    funext k
    unfold row bgRow
    by_cases h6 : k < 6
    · rw [if_pos h6]
      have hk : k = 0 ∨ k = 1 ∨ k = 2 ∨ k = 3 ∨ k = 4 ∨ k = 5 := by omega
      rcases hk with rfl | rfl | rfl | rfl | rfl | rfl
      · exact r2
      · exact r3
      · exact r4
      · exact r5
      · exact r6
      · exact r7
    · rw [if_neg h6, if_neg (by omega : ¬ k = 0), if_neg (by omega : ¬ k = 1), if_neg (by omega : ¬ k = 3)]
      by_cases h14 : k < 14
      · rw [if_pos h14]; exact r8 _ (by omega)
      · rw [if_neg h14]
        by_cases h22 : k < 22
        · rw [if_pos h22]; exact r9 _ (by omega)
        · rw [if_neg h22]
          by_cases h28 : k < 28
          · rw [if_pos h28]; exact r10 _ (by omega)
          · rw [if_neg h28]
  have z0 : ∀ j, ¬ ((25 ≤ j ∧ j ≤ 28) ∨ j = 35 ∨ j = 40 ∨ j = 41 ∨ j = 50 ∨ j = 59) → ¬ (j = 4 ∨ j = 5 ∨ j = 6 ∨ j = 7 ∨ (18 ≤ j ∧ j ≤ 24) ∨ j = 34 ∨ j = 39) → m 0 j = mM0 0 j := fun j a b => (q2 j a).trans (f2 j b)
  have m1 : ∀ j, m 1 j = 0 := fun j => by
    rw [q1 1 (by omega), f1 1 (by omega) (by omega) (by omega) (by omega) (by omega) (by omega) (by omega) (by omega) (by omega)]
    rfl
  have hc : ∀ j, M 0 j = 0 := fun j => by rw [c0]
  exact ⟨7, 0, 0, 0, 0, 0, 0, 0, ⟨bog_env bg0_ok hB cL q3 q4 q5, ⟨b2, b3⟩, by rw [hrow]; exact ⟨q11, bog_row bg0_ok⟩, ⟨fun q hq => absurd hq (Nat.not_lt_zero _), fun o ho => absurd ho (Nat.not_lt_zero _)⟩, fun h => absurd h (Nat.lt_irrefl 0), .inl t7⟩, RT.fresh c1 ((z0 2 (by omega) (by omega)).trans rfl) (((z0 8 (by omega) (by omega)).trans rfl).trans c2.symm), ⟨q7.trans (hc 11).symm, (m1 0).trans (hc 12).symm, (m1 1).trans (hc 13).symm⟩, ⟨q8.trans k1.symm, fun h hh => (q10 h hh).trans (k2 h hh).symm⟩, ⟨⟨q6, w1, by omega⟩, fun j hj => absurd hj (Nat.not_lt_zero _)⟩, ⟨⟨q9, w2, by omega⟩, fun j hj => absurd hj (Nat.not_lt_zero _)⟩⟩
