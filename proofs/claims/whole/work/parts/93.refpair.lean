/-! refused calls: class and reference side by side -/
def Pt (yC yM : bc_Y) (as : List Value) (E : String) (code : Int32) (M m : bc_M) : Prop := ∃ (ν : bc_M) (v : Value) (B : bc_M → Prop), vT yM v ∧ bc_CX 40 LC yC (.ref 0 :: as) M E ν ∧ bc_C 40 LM yM (.ref 0 :: as) m (fun r ξ => r = some v ∧ B ξ) ∧ ∀ ξ, B ξ → REL ν ξ ∧ ξ 0 0 = code
section T93
variable {n no nq nr nm tp w0 ki : Nat} {m ξ ν M : bc_M} {yC yM : bc_Y} {as : List Value} {v : Value}
theorem Pt.mk' {E : String} {code : Int32} {k : Nat} (h : RELn n no nq nr nm tp w0 ki M m) (hk : k < 2) (hC : bc_CX 40 LC yC (.ref 0 :: as) M E (rfC M k)) (hM : bc_C 40 LM yM (.ref 0 :: as) m (fun r ξ => r = some v ∧ ξ = refM m code k)) (hv : vT yM v := by first | exact .inr ⟨rfl, _, rfl⟩ | exact .inl ⟨rfl, _, rfl⟩) : Pt yC yM as E code M m := ⟨rfC M k, v, fun ξ => ξ = refM m code k, hv, hC, hM, fun ξ e => by
  subst e
  exact ⟨⟨_, _, _, _, _, _, _, _, h.rf hk⟩, rfl⟩⟩
theorem f_told {a1 : Int32} (h : REL M m) (g : ¬ ((0 ≤ a1 ∧ a1 ≤ 11))) : Pt mX9_told mX10_told [.int a1] eIA 1 M m := by
  obtain ⟨n, no, nq, nr, nm, tp, w0, ki, hR⟩ := h
  have hE := hR.1.1
  have hRM := hR.1.2.1
  exact Pt.mk' hR (by decide) (x_told g) (t_toldB g)
theorem f_drift {a1 : Int32} (h : REL M m) (g : ¬ ((0 ≤ a1 ∧ a1 ≤ 1))) : Pt mX9_drift mX10_drift [.int a1] eIA 1 M m := by
  obtain ⟨n, no, nq, nr, nm, tp, w0, ki, hR⟩ := h
  have hE := hR.1.1
  have hRM := hR.1.2.1
  exact Pt.mk' hR (by decide) (x_drift g) (t_driftB g)
theorem f_side {a1 : Int32} (h : REL M m) (g : ¬ ((0 ≤ a1 ∧ a1 ≤ 3))) : Pt mX9_side mX10_side [.int a1] eIA 1 M m := by
  obtain ⟨n, no, nq, nr, nm, tp, w0, ki, hR⟩ := h
  have hE := hR.1.1
  have hRM := hR.1.2.1
  exact Pt.mk' hR (by decide) (x_side g) (t_sideB g)
theorem f_sweetest {a1 : Int32} (h : REL M m) (g : ¬ ((0 ≤ a1 ∧ a1 ≤ 1))) : Pt mX9_sweetest mX10_sweetest [.int a1] eIA 1 M m := by
  obtain ⟨n, no, nq, nr, nm, tp, w0, ki, hR⟩ := h
  have hE := hR.1.1
  have hRM := hR.1.2.1
  exact Pt.mk' hR (by decide) (x_sweetest g) (t_sweetestB g)
theorem f_fits {a1 : Int32} (h : REL M m) (g : ¬ ((0 ≤ a1 ∧ a1 ≤ 2))) : Pt mX9_fits mX10_fits [.int a1] eIA 1 M m := by
  obtain ⟨n, no, nq, nr, nm, tp, w0, ki, hR⟩ := h
  have hE := hR.1.1
  have hRM := hR.1.2.1
  exact Pt.mk' hR (by decide) (x_fits g) (t_fitsB g)
theorem f_look {a1 : Int32} (h : REL M m) (g : ¬ ((0 ≤ a1 ∧ a1 ≤ 1))) : Pt mX9_look mX10_look [.int a1] eIA 1 M m := by
  obtain ⟨n, no, nq, nr, nm, tp, w0, ki, hR⟩ := h
  have hE := hR.1.1
  have hRM := hR.1.2.1
  exact Pt.mk' hR (by decide) (x_look g) (t_lookB g)
theorem f_nearest {a1 : Int32} (h : REL M m) (g : ¬ ((0 ≤ a1 ∧ a1 ≤ 1))) : Pt mX9_nearest mX10_nearest [.int a1] eIA 1 M m := by
  obtain ⟨n, no, nq, nr, nm, tp, w0, ki, hR⟩ := h
  have hE := hR.1.1
  have hRM := hR.1.2.1
  exact Pt.mk' hR (by decide) (x_nearest g) (t_nearestB g)
theorem f_heaviest {a1 : Int32} (h : REL M m) (g : ¬ ((0 ≤ a1 ∧ a1 ≤ 1))) : Pt mX9_heaviest mX10_heaviest [.int a1] eIA 1 M m := by
  obtain ⟨n, no, nq, nr, nm, tp, w0, ki, hR⟩ := h
  have hE := hR.1.1
  have hRM := hR.1.2.1
  exact Pt.mk' hR (by decide) (x_heaviest g) (t_heaviestB g)
theorem f_room {a1 : Int32} (h : REL M m) (g : ¬ ((0 ≤ a1 ∧ a1 ≤ 3))) : Pt mX9_room mX10_room [.int a1] eIA 1 M m := by
  obtain ⟨n, no, nq, nr, nm, tp, w0, ki, hR⟩ := h
  have hE := hR.1.1
  have hRM := hR.1.2.1
  exact Pt.mk' hR (by decide) (x_room g) (t_roomB g)
theorem f_cool {a1 : Int32} (h : REL M m) (g : ¬ ((0 ≤ a1 ∧ a1 ≤ 1))) : Pt mX9_cool mX10_cool [.int a1] eIA 1 M m := by
  obtain ⟨n, no, nq, nr, nm, tp, w0, ki, hR⟩ := h
  have hE := hR.1.1
  have hRM := hR.1.2.1
  exact Pt.mk' hR (by decide) (x_cool g) (t_coolB g)
theorem f_ahead {a1 a2 : Int32} (h : REL M m) (g : ¬ ((0 ≤ a1 ∧ a1 ≤ 99) ∧ (0 ≤ a2 ∧ a2 ≤ 3))) : Pt mX9_ahead mX10_ahead [.int a1, .int a2] eIA 1 M m := by
  obtain ⟨n, no, nq, nr, nm, tp, w0, ki, hR⟩ := h
  have hE := hR.1.1
  have hRM := hR.1.2.1
  exact Pt.mk' hR (by decide) (x_ahead g) (t_aheadB g)
theorem f_gusts {a1 a2 a3 a4 : Int32} (h : REL M m) (g : ¬ ((0 ≤ a1 ∧ a1 ≤ 12) ∧ (0 ≤ a2 ∧ a2 ≤ 12) ∧ (0 ≤ a3 ∧ a3 ≤ 16) ∧ (0 ≤ a4 ∧ a4 ≤ 1))) : Pt mX9_gusts mX10_gusts [.int a1, .int a2, .int a3, .int a4] eIA 1 M m := by
  obtain ⟨n, no, nq, nr, nm, tp, w0, ki, hR⟩ := h
  have hE := hR.1.1
  have hRM := hR.1.2.1
  exact Pt.mk' hR (by decide) (x_gusts g) (t_gustsB g)
theorem f_bakers {a1 a2 a3 : Int32} (h : REL M m) (g : ¬ ((0 ≤ a1 ∧ a1 ≤ 9) ∧ (0 ≤ a2 ∧ a2 ≤ 99) ∧ (0 ≤ a3 ∧ a3 ≤ 2))) : Pt mX9_bakers mX10_bakers [.int a1, .int a2, .int a3] eIA 1 M m := by
  obtain ⟨n, no, nq, nr, nm, tp, w0, ki, hR⟩ := h
  have hE := hR.1.1
  have hRM := hR.1.2.1
  exact Pt.mk' hR (by decide) (x_bakers g) (t_bakersB g)
theorem f_would {a1 a2 a3 a4 a5 a6 a7 : Int32} (h : REL M m) (g : ¬ ((0 ≤ a1 ∧ a1 ≤ 72) ∧ (0 ≤ a2 ∧ a2 ≤ 99) ∧ (0 ≤ a3 ∧ a3 ≤ 8) ∧ (0 ≤ a4 ∧ a4 ≤ 72) ∧ (0 ≤ a5 ∧ a5 ≤ 99) ∧ (0 ≤ a6 ∧ a6 ≤ 3) ∧ (0 ≤ a7 ∧ a7 ≤ 900))) : Pt mX9_would mX10_would [.int a1, .int a2, .int a3, .int a4, .int a5, .int a6, .int a7] eIA 1 M m := by
  obtain ⟨n, no, nq, nr, nm, tp, w0, ki, hR⟩ := h
  have hE := hR.1.1
  have hRM := hR.1.2.1
  exact Pt.mk' hR (by decide) (x_would g) (t_wouldB g)
theorem f_season {a1 a2 a3 a4 : Int32} (h : REL M m) (g : ¬ ((0 ≤ a2 ∧ a2 ≤ 16) ∧ (1 ≤ a3 ∧ a3 ≤ 96) ∧ (0 ≤ a4 ∧ a4 ≤ 3))) : Pt mX9_season mX10_season [.int a1, .int a2, .int a3, .int a4] eIA 1 M m := by
  obtain ⟨n, no, nq, nr, nm, tp, w0, ki, hR⟩ := h
  have hE := hR.1.1
  have hRM := hR.1.2.1
  exact Pt.mk' hR (by decide) (x_season g) (t_seasonB (fun q => g ⟨q.1.1, q.1.2, q.2⟩))
theorem f_quarterT {a1 a2 : Int32} (h : REL M m) (g : ¬ (0 ≤ a1 ∧ a1 < M 3 0)) : Pt mX9_quarter mX10_quarter [.int a1, .int a2] eNS 1 M m := by
  obtain ⟨n, no, nq, nr, nm, tp, w0, ki, hR⟩ := h
  have hE := hR.1.1
  have hRM := hR.1.2.1
  have g2 := g
  rw [hE.1.2.1.1] at g2
  exact Pt.mk' hR (by decide) (x_quarterT g) (t_quarterB1 hE g2)
theorem f_quarterW {a1 a2 : Int32} (h : REL M m) (q0 : 0 ≤ a1 ∧ a1 < M 3 0) (g : ¬ ((0 ≤ a2 ∧ a2 ≤ 6))) : Pt mX9_quarter mX10_quarter [.int a1, .int a2] eIA 2 M m := by
  obtain ⟨n, no, nq, nr, nm, tp, w0, ki, hR⟩ := h
  have hE := hR.1.1
  have hRM := hR.1.2.1
  have q2 := q0
  rw [hE.1.2.1.1] at q2
  exact Pt.mk' hR (by decide) (x_quarterW q0 g) (t_quarterB2 hE q2 g)
theorem f_ovenT {a1 a2 : Int32} (h : REL M m) (g : ¬ (0 ≤ a1 ∧ a1 < M 3 1)) : Pt mX9_oven mX10_oven [.int a1, .int a2] eNS 1 M m := by
  obtain ⟨n, no, nq, nr, nm, tp, w0, ki, hR⟩ := h
  have hE := hR.1.1
  have hRM := hR.1.2.1
  have g2 := g
  rw [hE.1.1.1] at g2
  exact Pt.mk' hR (by decide) (x_ovenT g) (t_ovenB1 hE g2)
theorem f_ovenW {a1 a2 : Int32} (h : REL M m) (q0 : 0 ≤ a1 ∧ a1 < M 3 1) (g : ¬ ((0 ≤ a2 ∧ a2 ≤ 3))) : Pt mX9_oven mX10_oven [.int a1, .int a2] eIA 2 M m := by
  obtain ⟨n, no, nq, nr, nm, tp, w0, ki, hR⟩ := h
  have hE := hR.1.1
  have hRM := hR.1.2.1
  have q2 := q0
  rw [hE.1.1.1] at q2
  exact Pt.mk' hR (by decide) (x_ovenW q0 g) (t_ovenB2 hE q2 g)
theorem f_mooringT {a1 a2 : Int32} (h : REL M m) (g : ¬ (0 ≤ a1 ∧ a1 < M 3 3)) : Pt mX9_mooring mX10_mooring [.int a1, .int a2] eNS 1 M m := by
  obtain ⟨n, no, nq, nr, nm, tp, w0, ki, hR⟩ := h
  have hE := hR.1.1
  have hRM := hR.1.2.1
  have g2 := g
  rw [hRM.2] at g2
  exact Pt.mk' hR (by decide) (x_mooringT g) (t_mooringB1 hE g2)
theorem f_mooringW {a1 a2 : Int32} (h : REL M m) (q0 : 0 ≤ a1 ∧ a1 < M 3 3) (g : ¬ ((0 ≤ a2 ∧ a2 ≤ 2))) : Pt mX9_mooring mX10_mooring [.int a1, .int a2] eIA 2 M m := by
  obtain ⟨n, no, nq, nr, nm, tp, w0, ki, hR⟩ := h
  have hE := hR.1.1
  have hRM := hR.1.2.1
  have q2 := q0
  rw [hRM.2] at q2
  exact Pt.mk' hR (by decide) (x_mooringW q0 g) (t_mooringB2 hE q2 g)
theorem f_pilotT {a1 a2 : Int32} (h : REL M m) (g : ¬ (0 ≤ a1 ∧ a1 < M 3 3)) : Pt mX9_pilot mX10_pilot [.int a1, .int a2] eNS 1 M m := by
  obtain ⟨n, no, nq, nr, nm, tp, w0, ki, hR⟩ := h
  have hE := hR.1.1
  have hRM := hR.1.2.1
  have g2 := g
  rw [hRM.2] at g2
  exact Pt.mk' hR (by decide) (x_pilotT g) (t_pilotB1 hE g2)
theorem f_pilotW {a1 a2 : Int32} (h : REL M m) (q0 : 0 ≤ a1 ∧ a1 < M 3 3) (g : ¬ ((0 ≤ a2 ∧ a2 ≤ 12))) : Pt mX9_pilot mX10_pilot [.int a1, .int a2] eIA 2 M m := by
  obtain ⟨n, no, nq, nr, nm, tp, w0, ki, hR⟩ := h
  have hE := hR.1.1
  have hRM := hR.1.2.1
  have q2 := q0
  rw [hRM.2] at q2
  exact Pt.mk' hR (by decide) (x_pilotW q0 g) (t_pilotB2 hE q2 g)
theorem f_trimT {a1 : Int32} (h : REL M m) (g : ¬ (0 ≤ a1 ∧ a1 < M 3 0)) : Pt mX9_trim mX10_trim [.int a1] eNS 1 M m := by
  obtain ⟨n, no, nq, nr, nm, tp, w0, ki, hR⟩ := h
  have hE := hR.1.1
  have hRM := hR.1.2.1
  have g2 := g
  rw [hE.1.2.1.1] at g2
  exact Pt.mk' hR (by decide) (x_trimT g) (t_trimB hE g2)
theorem f_stepsT {a1 : Int32} (h : REL M m) (g : ¬ (0 ≤ a1 ∧ a1 < M 3 3)) : Pt mX9_steps mX10_steps [.int a1] eNS 1 M m := by
  obtain ⟨n, no, nq, nr, nm, tp, w0, ki, hR⟩ := h
  have hE := hR.1.1
  have hRM := hR.1.2.1
  have g2 := g
  rw [hRM.2] at g2
  exact Pt.mk' hR (by decide) (x_stepsT g) (t_stepsB hE g2)
theorem f_keyT {a1 : Int32} (h : REL M m) (g : ¬ (0 ≤ a1 ∧ a1 < M 3 0)) : Pt mX9_key mX10_key [.int a1] eNS 1 M m := by
  obtain ⟨n, no, nq, nr, nm, tp, w0, ki, hR⟩ := h
  have hE := hR.1.1
  have hRM := hR.1.2.1
  have g2 := g
  rw [hE.1.2.1.1] at g2
  exact Pt.mk' hR (by decide) (x_keyT g) (t_keyB hE g2)
end T93
