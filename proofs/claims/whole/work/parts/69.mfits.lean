/-! the reference: the sets that fit, the hour to look at -/
section T69
variable {d : Nat} {m m1 ν M : bc_M} {n no nq nr nm : Nat} {A : Row}
abbrev trC (M : bc_M) (n no nq s : Nat) : Nat → Int32 := fun h => cel (trP M n no nq h s)
theorem lnS_mono {L C : Nat → Int32} {k : Nat} (h : lnS L C k = false) : ∀ j, lnS L C (k + j) = false := by
  intro j
  induction j with
  | zero => exact h
  | succ j ih => show (lnS L C (k + j) && _) = false; rw [ih]; rfl
/-- what laySets changes -/
def lyS (m ν : bc_M) : Prop := ∀ i, i ≠ 15 → i ≠ 16 → i ≠ 20 → i ≠ 26 → i ≠ 27 → ν i = m i
def lyI (M : bc_M) (n no nq k : Nat) (ν : bc_M) : Prop := (∀ s, s < k → ν 27 s = if fitS M n no nq s = true then 1 else 0) ∧ ∀ s, s < k → fitS M n no nq s = true → ∀ h, 1 ≤ h → h ≤ 12 → ν 26 (13 * s + h) = trC M n no nq s h
theorem nar01 {P : Prop} [Decidable P] : vp_nar .boolean (if P then 1 else 0) = if P then 1 else 0 := by
  by_cases h : P
  · rw [if_pos h]; rfl
  · rw [if_neg h]; rfl
theorem t_laySets (hE : mEnv M m n no nq nr nm) (hN : sR (row 31 M) (m 19)) (hA : okA no (row 31 M)) (hL : ∀ h, 1 ≤ h → h ≤ 12 → m 23 h = M 29 h) : bc_C (d + 7) LM mX10_laySets [.ref 0] m (fun r ν => r = none ∧ lyS m ν ∧ lyI M n no nq (2 ^ no) ν) := by
  refine bc_enter (by decide) (Nat.le_of_ble_eq_true rfl) rfl ?_
  have h8 := hE.o8
  have e2 := ovs no h8
  have hrow : rng (M 31 2, M 31 3) := hA.2.2.2
  have loop : ∀ (c s : Nat) (ν : bc_M) (v2 v3 : Value), v2.category = 1 → v3.category = 1 → s + c = 2 ^ no → lyS m ν → lyI M n no nq s ν → bc_W (d + 7) LM mX10_laySets 2 [.ref 0, .int (nI s), v2, v3] [] ν (fun r ν => r = none ∧ lyS m ν ∧ lyI M n no nq (2 ^ no) ν) := by
    intro c
    induction c with
    | zero =>
      intro s ν v2 v3 c2 c3 hs hf hI
      have hs : s = 2 ^ no := by omega
      have hno : ν 0 26 = nI no := by rw [hf 0 (by decide) (by decide) (by decide) (by decide) (by decide)]; exact hE.2.1.2.1
      refine bc_iload_n dX10_laySets_2 rfl ?_
      refine bc_iconst (v := 1) dX10_laySets_3 (by decide) ?_
      refine bc_aload_n dX10_laySets_4 rfl ?_
      refine bc_geti dX10_laySets_5 fX10_185 (rfl) rfl ?_
      rw [hno]
      refine bc_ishl dX10_laySets_8 ?_
      rw [e2.1]
      refine bc_icmp_ge (tgt := 118) dX10_laySets_9 (by decide) (fun h9 => ?_) (fun h9 => absurd h9 (fun q => q (bx_out rfl (by omega) (by omega))))
      exact bc_return dX10_laySets_118 rfl (⟨rfl, hf, by rw [← hs]; exact hI⟩)
    | succ c ih =>
      intro s ν v2 v3 c2 c3 hs hf hI
      have hs2 : s < 2 ^ no := by omega
      have e256 := e2.2
      have hno : ν 0 26 = nI no := by rw [hf 0 (by decide) (by decide) (by decide) (by decide) (by decide)]; exact hE.2.1.2.1
      have hNν : sR (row 31 M) (ν 19) := by rw [hf 19 (by decide) (by decide) (by decide) (by decide) (by decide)]; exact hN
      have hoff := off_la (M := M) hA h8 hs2
      have done : ∀ (ν' : bc_M) (v2 v3 : Value), v2.category = 1 → v3.category = 1 → lyS m ν' → lyI M n no nq s ν' → ν' 27 s = (if fitS M n no nq s = true then 1 else 0) → (fitS M n no nq s = true → ∀ h, 1 ≤ h → h ≤ 12 → ν' 26 (13 * s + h) = trC M n no nq s h) → bc_W (d + 7) LM mX10_laySets 112 [.ref 0, .int (nI s), v2, v3] [] ν' (fun r ν => r = none ∧ lyS m ν ∧ lyI M n no nq (2 ^ no) ν) := by
        intro ν' v2 v3 c2 c3 hf' hI' h27 h26
        have h2 := ih (s + 1) ν' v2 v3 c2 c3 (by omega) hf' ⟨fun z hz => by
          by_cases e : z = s
          · subst e; exact h27
          · exact hI'.1 z (by omega), fun z hz hF h a b => by
          by_cases e : z = s
          · subst e; exact h26 hF h a b
          · exact hI'.2 z (by omega) hF h a b⟩
        refine bc_iinc1 dX10_laySets_112 rfl (by decide) rfl ?_
        refine bc_goto (tgt := 2) dX10_laySets_115 (by decide) ?_
        rw [bn_add1]
        exact h2
      have hours : (laM (row 31 M) s no).1 = true → ∀ (c h : Nat) (ν' : bc_M) (v3 : Value), v3.category = 1 → h + c = 13 → 1 ≤ h → lyS m ν' → lyI M n no nq s ν' → ν' 27 s = (if lnS (M 29) (trC M n no nq s) (h - 1) = true then 1 else 0) → (lnS (M 29) (trC M n no nq s) (h - 1) = true → sR (itH (hourR M n no nq) (h - 1) (laR (row 31 M) s no)) (ν' 20)) → (∀ j, 1 ≤ j → j < h → lnS (M 29) (trC M n no nq s) (h - 1) = true → ν' 26 (13 * s + j) = trC M n no nq s j) → bc_W (d + 7) LM mX10_laySets 25 [.ref 0, .int (nI s), .int (nI h), v3] [] ν' (fun r ν => r = none ∧ lyS m ν ∧ lyI M n no nq (2 ^ no) ν) := by
        intro hl
        have hfit : fitS M n no nq s = lnS (M 29) (trC M n no nq s) 12 := by rw [fitS, ← hoff, hl, Bool.true_and]
        have hR := (la_ok (A := row 31 M) hA.2.2.1 s no h8).2 hl
        have hAR : okA no (laR (row 31 M) s no) := by rw [← hR]; exact okA_la hA h8 s no (Nat.le_refl _)
        intro c
        induction c with
        | zero =>
          intro h ν' v3 c3 hh h1 hf' hI' h27 hs' h26
          have hh : h = 13 := by omega
          subst hh
          refine bc_iload_n dX10_laySets_25 rfl ?_
          refine bc_bipush (v := 12) dX10_laySets_26 (by decide) ?_
          refine bc_icmp_gt (tgt := 112) dX10_laySets_28 (by decide) (fun h28 => ?_) (fun h28 => absurd h28 (by decide))
          exact done _ _ _ rfl c3 hf' hI' (by rw [h27, hfit]) (fun hF j a b => h26 j a (by omega) (by rw [← hfit]; exact hF))
        | succ c ic =>
          intro h ν' v3 c3 hh h1 hf' hI' h27 hs' h26
          by_cases hb : lnS (M 29) (trC M n no nq s) (h - 1) = true
          · rw [if_pos hb] at h27
            have hE' : mEnv M ν' n no nq nr nm := hE.mv (fun k _ _ => by rw [hf' 0 (by decide) (by decide) (by decide) (by decide) (by decide)]) (fun i a b => hf' i (by omega) (by omega) (by omega) (by omega) (by omega))
            have hstep : lnS (M 29) (trC M n no nq s) (h - 1 + 1) = (lnS (M 29) (trC M n no nq s) (h - 1) && (decide (M 29 (h - 1 + 1) = -1) || decide (M 29 (h - 1 + 1) = trC M n no nq s (h - 1 + 1)))) := rfl
            rw [show h - 1 + 1 = h by omega, hb, Bool.true_and] at hstep
            have next : ∀ (ν9 : bc_M) (b : Int32), lyS m ν9 → lyI M n no nq s ν9 → (∀ j, 1 ≤ j → j < h + 1 → ν9 26 (13 * s + j) = trC M n no nq s j) → b = (if lnS (M 29) (trC M n no nq s) h = true then 1 else 0) → sR (itH (hourR M n no nq) h (laR (row 31 M) s no)) (ν9 20) → bc_W (d + 7) LM mX10_laySets 105 [.ref 0, .int (nI s), .int (nI h), .int (trC M n no nq s h)] [.int b, .int (nI s), .ref 27] ν9 (fun r ν => r = none ∧ lyS m ν ∧ lyI M n no nq (2 ^ no) ν) := by
              intro ν9 b hf9 hI9 h269 hb9 hs9
              subst hb9
              have h2 := ic (h + 1) (bc_u ν9 27 s (if lnS (M 29) (trC M n no nq s) h = true then 1 else 0)) (.int (trC M n no nq s h)) rfl (by omega) (by omega) (fun i a b e f g => by rw [bc_u_ne _ _ _ g]; exact hf9 i a b e f g) ⟨fun z hz => by rw [bc_u_r, if_neg (by omega)]; exact hI9.1 z hz, fun z hz => by rw [bc_u_ne _ _ _ (by decide)]; exact hI9.2 z hz⟩ (by rw [bc_u_r, if_pos ⟨rfl, rfl⟩]; rfl) (fun _ => by rw [bc_u_ne _ _ _ (by decide)]; exact hs9) (fun j a b _ => by rw [bc_u_ne _ _ _ (by decide)]; exact h269 j a b)
              refine bc_zastE (k := s) dX10_laySets_105 (rfl) (rfl) (⟨by omega, by decide⟩) ?_
              rw [nar01]
              refine bc_iinc1 dX10_laySets_106 rfl (by decide) rfl ?_
              refine bc_goto (tgt := 25) dX10_laySets_109 (by decide) ?_
              rw [bn_add1]
              exact h2
            have ht := (trk_ok (n := n) (nq := nq) hE.1 hA hs2 hl h (by omega)).1
            have hcell : (31 : Int32) * (trP M n no nq h s).1 + (trP M n no nq h s).2 = trC M n no nq s h := by show _ = cel _; unfold cel; rw [Int32.mul_comm]
            have hbk : ν' 23 h = M 29 h := by rw [hf' 23 (by decide) (by decide) (by decide) (by decide) (by decide)]; exact hL h h1 (by omega)
            refine bc_iload_n dX10_laySets_25 rfl ?_
            refine bc_bipush (v := 12) dX10_laySets_26 (by decide) ?_
            refine bc_icmp_gt (tgt := 112) dX10_laySets_28 (by decide) (fun h28 => absurd h28 (by rw [show (12 : Int32) = nI 12 from rfl, bn_ltN (by omega) (by omega)]; omega)) (fun h28 => ?_)
            refine bc_aload_n dX10_laySets_31 rfl ?_
            refine bc_getr dX10_laySets_32 fX10_95 (rfl) rfl ?_
            refine bc_iload_n dX10_laySets_35 rfl ?_
            refine bc_zaldE (k := s) dX10_laySets_36 (rfl) (rfl) (⟨by omega, by decide⟩) ?_
            rw [h27]
            refine bc_if_eq (tgt := 112) dX10_laySets_37 (by decide) (fun h37 => absurd h37 (by decide)) (fun h37 => ?_)
            refine bc_aload_n dX10_laySets_40 rfl ?_
            refine bc_callV (z := mX10_passes) (ci := 10) dX10_laySets_41 lX10_381 qX10_passes (by rfl) (by rfl) (by rfl) (by rfl) (Nat.le_of_ble_eq_true rfl) (t_passes hE' (hs' hb) (okA_it hAR (h - 1))) (fun r41 μ41 e41 => ?_)
            obtain ⟨rfl, f41, s41⟩ := e41
            have s41' : sR (itH (hourR M n no nq) h (laR (row 31 M) s no)) (μ41 20) := by
              have q : hourR M n no nq (itH (hourR M n no nq) (h - 1) (laR (row 31 M) s no)) = itH (hourR M n no nq) (h - 1 + 1) (laR (row 31 M) s no) := rfl
              rw [q, show h - 1 + 1 = h by omega] at s41
              exact s41
            have t1 : μ41 20 28 = (trP M n no nq h s).1 := s41'.2.2.2.2.1.trans (congrArg Prod.fst ht)
            have t2 : μ41 20 29 = (trP M n no nq h s).2 := s41'.2.2.2.2.2.1.trans (congrArg Prod.snd ht)
            have b41 : μ41 23 h = M 29 h := by rw [f41 23 (by decide) (by decide) (by decide)]; exact hbk
            have hf41 : lyS m (bc_u μ41 26 (13 * s + h) (trC M n no nq s h)) := fun i a b e f g => by rw [bc_u_ne _ _ _ f, f41 i a b e]; exact hf' i a b e f g
            have hI41 : lyI M n no nq s (bc_u μ41 26 (13 * s + h) (trC M n no nq s h)) := ⟨fun z hz => by rw [bc_u_ne _ _ _ (by decide), f41 27 (by decide) (by decide) (by decide)]; exact hI'.1 z hz, fun z hz hF j a b => by rw [bc_u_r, if_neg (by omega), f41 26 (by decide) (by decide) (by decide)]; exact hI'.2 z hz hF j a b⟩
            have h2641 : ∀ j, 1 ≤ j → j < h + 1 → bc_u μ41 26 (13 * s + h) (trC M n no nq s h) 26 (13 * s + j) = trC M n no nq s j := fun j a b => by
              by_cases e : j = h
              · subst e; rw [bc_u_r, if_pos ⟨rfl, rfl⟩]
              · rw [bc_u_r, if_neg (by omega), f41 26 (by decide) (by decide) (by decide)]; exact h26 j a (by omega) hb
            have s20 : sR (itH (hourR M n no nq) h (laR (row 31 M) s no)) (bc_u μ41 26 (13 * s + h) (trC M n no nq s h) 20) := by rw [bc_u_ne _ _ _ (by decide)]; exact s41'
            refine bc_bipush (v := 31) dX10_laySets_44 (by decide) ?_
            refine bc_aload_n dX10_laySets_46 rfl ?_
            refine bc_getr dX10_laySets_47 fX10_74 (rfl) rfl ?_
            refine bc_bipush (v := 28) dX10_laySets_50 (by decide) ?_
            refine bc_ialdE (k := 28) dX10_laySets_52 (rfl) (rfl) (⟨by omega, by decide⟩) ?_
            refine bc_imul dX10_laySets_53 ?_
            refine bc_aload_n dX10_laySets_54 rfl ?_
            refine bc_getr dX10_laySets_55 fX10_74 (rfl) rfl ?_
            refine bc_bipush (v := 29) dX10_laySets_58 (by decide) ?_
            refine bc_ialdE (k := 29) dX10_laySets_60 (rfl) (rfl) (⟨by omega, by decide⟩) ?_
            refine bc_iadd dX10_laySets_61 ?_
            rw [t1, t2, hcell]
            refine bc_istore_n dX10_laySets_62 (by decide) rfl ?_
            refine bc_aload_n dX10_laySets_63 rfl ?_
            refine bc_getr dX10_laySets_64 fX10_92 (rfl) rfl ?_
            refine bc_bipush (v := 13) dX10_laySets_67 (by decide) ?_
            refine bc_iload_n dX10_laySets_69 rfl ?_
            refine bc_imul dX10_laySets_70 ?_
            refine bc_iload_n dX10_laySets_71 rfl ?_
            refine bc_iadd dX10_laySets_72 ?_
            refine bc_iload_n dX10_laySets_73 rfl ?_
            refine bc_iastE (k := (13 * s) + h) dX10_laySets_74 (rfl) (ixA (a := 13 * s) (b := h) (ixM (a := 13) (b := s) (rfl) (rfl)) (rfl)) (⟨by omega, by decide⟩) ?_
            refine bc_aload_n dX10_laySets_75 rfl ?_
            refine bc_getr dX10_laySets_76 fX10_95 (rfl) rfl ?_
            refine bc_iload_n dX10_laySets_79 rfl ?_
            refine bc_aload_n dX10_laySets_80 rfl ?_
            refine bc_getr dX10_laySets_81 fX10_83 (rfl) rfl ?_
            refine bc_iload_n dX10_laySets_84 rfl ?_
            refine bc_ialdE (k := h) dX10_laySets_85 (rfl) (rfl) (⟨by omega, by decide⟩) ?_
            rw [show bc_u μ41 26 (13 * s + h) (trC M n no nq s h) 23 h = M 29 h from b41]
            refine bc_iconst (v := (-1)) dX10_laySets_86 (by decide) ?_
            refine bc_icmp_eq (tgt := 100) dX10_laySets_87 (by decide) (fun h87 => ?_) (fun h87 => ?_)
            · refine bc_iconst (v := 1) dX10_laySets_100 (by decide) ?_
              refine bc_goto (tgt := 105) dX10_laySets_101 (by decide) ?_
              exact next _ 1 hf41 hI41 h2641 (by rw [hstep, decide_eq_true h87]; rfl) s20
            · refine bc_aload_n dX10_laySets_90 rfl ?_
              refine bc_getr dX10_laySets_91 fX10_83 (rfl) rfl ?_
              refine bc_iload_n dX10_laySets_94 rfl ?_
              refine bc_ialdE (k := h) dX10_laySets_95 (rfl) (rfl) (⟨by omega, by decide⟩) ?_
              rw [show bc_u μ41 26 (13 * s + h) (trC M n no nq s h) 23 h = M 29 h from b41]
              refine bc_iload_n dX10_laySets_96 rfl ?_
              refine bc_icmp_ne (tgt := 104) dX10_laySets_97 (by decide) (fun h97 => ?_) (fun h97 => ?_)
              · refine bc_iconst (v := 0) dX10_laySets_104 (by decide) ?_
                exact next _ 0 hf41 hI41 h2641 (by rw [hstep, decide_eq_false h87, decide_eq_false h97]; rfl) s20
              · refine bc_iconst (v := 1) dX10_laySets_100 (by decide) ?_
                refine bc_goto (tgt := 105) dX10_laySets_101 (by decide) ?_
                exact next _ 1 hf41 hI41 h2641 (by rw [hstep, decide_eq_true (p := M 29 h = trC M n no nq s h) h97, Bool.or_true]; rfl) s20
          · rw [if_neg hb] at h27
            have hF : fitS M n no nq s = false := by
              rw [hfit]
              have := lnS_mono (show lnS (M 29) (trC M n no nq s) (h - 1) = false by simpa using hb) (13 - h)
              rw [show h - 1 + (13 - h) = 12 by omega] at this
              exact this
            refine bc_iload_n dX10_laySets_25 rfl ?_
            refine bc_bipush (v := 12) dX10_laySets_26 (by decide) ?_
            refine bc_icmp_gt (tgt := 112) dX10_laySets_28 (by decide) (fun h28 => absurd h28 (by rw [show (12 : Int32) = nI 12 from rfl, bn_ltN (by omega) (by omega)]; omega)) (fun h28 => ?_)
            refine bc_aload_n dX10_laySets_31 rfl ?_
            refine bc_getr dX10_laySets_32 fX10_95 (rfl) rfl ?_
            refine bc_iload_n dX10_laySets_35 rfl ?_
            refine bc_zaldE (k := s) dX10_laySets_36 (rfl) (rfl) (⟨by omega, by decide⟩) ?_
            rw [h27]
            refine bc_if_eq (tgt := 112) dX10_laySets_37 (by decide) (fun h37 => ?_) (fun h37 => absurd h37 (fun q => q rfl))
            exact done _ _ _ rfl c3 hf' hI' (by rw [h27, hF]; rfl) (fun q => by rw [hF] at q; exact absurd q (by decide))
      have f9 : ∀ (μ9 : bc_M) (v : Int32), (∀ i, i ≠ 20 → μ9 i = ν i) → lyS m (bc_u μ9 27 s v) := fun μ9 v h i a b e f g => by rw [bc_u_ne _ _ _ g, h i e]; exact hf i a b e f g
      have i9 : ∀ (μ9 : bc_M) (v : Int32), (∀ i, i ≠ 20 → μ9 i = ν i) → lyI M n no nq s (bc_u μ9 27 s v) := fun μ9 v h => ⟨fun z hz => by rw [bc_u_r, if_neg (by omega), h 27 (by decide)]; exact hI.1 z hz, fun z hz => by rw [bc_u_ne _ _ _ (by decide), h 26 (by decide)]; exact hI.2 z hz⟩
      by_cases hl : (laM (row 31 M) s no).1 = true
      · have hR := (la_ok (A := row 31 M) hA.2.2.1 s no h8).2 hl
        refine bc_iload_n dX10_laySets_2 rfl ?_
        refine bc_iconst (v := 1) dX10_laySets_3 (by decide) ?_
        refine bc_aload_n dX10_laySets_4 rfl ?_
        refine bc_geti dX10_laySets_5 fX10_185 (rfl) rfl ?_
        rw [hno]
        refine bc_ishl dX10_laySets_8 ?_
        rw [e2.1]
        refine bc_icmp_ge (tgt := 118) dX10_laySets_9 (by decide) (fun h9 => absurd h9 (bx_in rfl (by omega) (by omega))) (fun h9 => ?_)
        refine bc_aload_n dX10_laySets_12 rfl ?_
        refine bc_getr dX10_laySets_13 fX10_95 (rfl) rfl ?_
        refine bc_iload_n dX10_laySets_16 rfl ?_
        refine bc_aload_n dX10_laySets_17 rfl ?_
        refine bc_iload_n dX10_laySets_18 rfl ?_
        refine bc_callV (z := mX10_lightsAll) (ci := 10) dX10_laySets_19 lX10_404 qX10_lightsAll (by rfl) (by rfl) (by rfl) (by rfl) (Nat.le_of_ble_eq_true rfl) (t_lightsAll (s := s) hno h8 hNν hA) (fun r19 μ19 e19 => ?_)
        obtain ⟨rfl, f19, s19⟩ := e19
        refine bc_zastE (k := s) dX10_laySets_22 (rfl) (rfl) (⟨by omega, by decide⟩) ?_
        rw [nar01, if_pos hl]
        refine bc_iconst (v := 1) dX10_laySets_23 (by decide) ?_
        refine bc_istore_n dX10_laySets_24 (by decide) rfl ?_
        exact hours hl 12 1 _ v3 c3 (by omega) (by omega) (f9 _ _ f19) (i9 _ _ f19) (by rw [bc_u_r, if_pos ⟨rfl, rfl⟩]; rfl) (fun _ => by rw [bc_u_ne _ _ _ (by decide)]; rw [hR] at s19; exact s19) (fun j a b => by omega)
      · have hF : fitS M n no nq s = false := by rw [fitS, ← hoff, show (laM (row 31 M) s no).1 = false by simpa using hl]; rfl
        refine bc_iload_n dX10_laySets_2 rfl ?_
        refine bc_iconst (v := 1) dX10_laySets_3 (by decide) ?_
        refine bc_aload_n dX10_laySets_4 rfl ?_
        refine bc_geti dX10_laySets_5 fX10_185 (rfl) rfl ?_
        rw [hno]
        refine bc_ishl dX10_laySets_8 ?_
        rw [e2.1]
        refine bc_icmp_ge (tgt := 118) dX10_laySets_9 (by decide) (fun h9 => absurd h9 (bx_in rfl (by omega) (by omega))) (fun h9 => ?_)
        refine bc_aload_n dX10_laySets_12 rfl ?_
        refine bc_getr dX10_laySets_13 fX10_95 (rfl) rfl ?_
        refine bc_iload_n dX10_laySets_16 rfl ?_
        refine bc_aload_n dX10_laySets_17 rfl ?_
        refine bc_iload_n dX10_laySets_18 rfl ?_
        refine bc_callV (z := mX10_lightsAll) (ci := 10) dX10_laySets_19 lX10_404 qX10_lightsAll (by rfl) (by rfl) (by rfl) (by rfl) (Nat.le_of_ble_eq_true rfl) (t_lightsAll (s := s) hno h8 hNν hA) (fun r19 μ19 e19 => ?_)
        obtain ⟨rfl, f19, s19⟩ := e19
        refine bc_zastE (k := s) dX10_laySets_22 (rfl) (rfl) (⟨by omega, by decide⟩) ?_
        rw [nar01, if_neg hl]
        refine bc_iconst (v := 1) dX10_laySets_23 (by decide) ?_
        refine bc_istore_n dX10_laySets_24 (by decide) rfl ?_
        refine bc_iload_n dX10_laySets_25 rfl ?_
        refine bc_bipush (v := 12) dX10_laySets_26 (by decide) ?_
        refine bc_icmp_gt (tgt := 112) dX10_laySets_28 (by decide) (fun h28 => absurd h28 (by decide)) (fun h28 => ?_)
        refine bc_aload_n dX10_laySets_31 rfl ?_
        refine bc_getr dX10_laySets_32 fX10_95 (rfl) rfl ?_
        refine bc_iload_n dX10_laySets_35 rfl ?_
        refine bc_zaldE (k := s) dX10_laySets_36 (rfl) (rfl) (⟨by omega, by decide⟩) ?_
        rw [show bc_u μ19 27 s 0 27 s = 0 by rw [bc_u_r, if_pos ⟨rfl, rfl⟩]]
        refine bc_if_eq (tgt := 112) dX10_laySets_37 (by decide) (fun h37 => ?_) (fun h37 => absurd h37 (fun q => q rfl))
        exact done _ _ _ rfl c3 (f9 _ _ f19) (i9 _ _ f19) (by rw [bc_u_r, if_pos ⟨rfl, rfl⟩, hF]; rfl) (fun q => by rw [hF] at q; exact absurd q (by decide))
  refine bc_iconst (v := 0) dX10_laySets_0 (by decide) ?_
  refine bc_istore_n dX10_laySets_1 (by decide) rfl ?_
  exact loop (2 ^ no) 0 m _ _ rfl rfl (by omega) (fun _ _ _ _ _ _ => rfl) ⟨fun z hz => by omega, fun z hz => by omega⟩
theorem qS_ly (h : lyS (bc_u m 0 0 0) ν) : qS m ν := ⟨fun i a b e f g => by rw [h i b e f (by omega) (by omega), bc_u_ne _ _ _ a], fun k h1 h2 => by rw [h 0 (by decide) (by decide) (by decide) (by decide) (by decide), bc_u_r, if_neg (by omega)], by rw [h 0 (by decide) (by decide) (by decide) (by decide) (by decide)]; rfl⟩
theorem t_fitsB {w : Int32} (h : ¬ (0 ≤ w ∧ w ≤ 2)) : bc_C (d + 2) LM mX10_fits [.ref 0, .int w] m (fun r ν => r = some (.int 0) ∧ ν = refM m 1 1) := by
  refine bc_enter (by decide) (Nat.le_of_ble_eq_true rfl) rfl ?_
  refine bc_aload_n dX10_fits_0 rfl ?_
  refine bc_iconst (v := 0) dX10_fits_1 (by decide) ?_
  refine bc_put dX10_fits_2 fX10_3 ftX10 fpX10_0 rfl rfl (rfl) rfl ?_
  refine bc_aload_n dX10_fits_5 rfl ?_
  refine bc_iload_n dX10_fits_6 rfl ?_
  refine bc_iconst (v := 0) dX10_fits_7 (by decide) ?_
  refine bc_iconst (v := 2) dX10_fits_8 (by decide) ?_
  refine bc_callS (z := mX10_within) dX10_fits_9 lX10_384 qX10_within (by rfl) (by rfl) (Nat.le_of_ble_eq_true rfl) (t_within _ _ _) (fun r9 μ9 e9 => ?_)
  obtain ⟨rfl, q9⟩ := e9
  obtain rfl := q9.symm
  refine bc_iconst (v := 1) dX10_fits_12 (by decide) ?_
  refine bc_iconst (v := 1) dX10_fits_13 (by decide) ?_
  refine bc_callV (z := mX10_may) (ci := 10) dX10_fits_14 lX10_236 qX10_may (by rfl) (by rfl) (by rfl) (by rfl) (Nat.le_of_ble_eq_true rfl) (t_mayN (k := 1) _ h _ (by decide) rfl (by decide)) (fun r14 μ14 e14 => ?_)
  obtain ⟨rfl, q14⟩ := e14
  obtain rfl := q14.symm
  refine bc_if_ne (tgt := 22) dX10_fits_17 (by decide) (fun h17 => absurd h17 (fun q => q rfl)) (fun h17 => ?_)
  refine bc_iconst (v := 0) dX10_fits_20 (by decide) ?_
  exact bc_ireturn dX10_fits_21 rfl rfl (⟨rfl, rfl⟩)
/-- what is in all, the reference's way: it begins with everything -/
def alM (F : Nat → Bool) (a : Int32) : Nat → Int32
  | 0 => a
  | k + 1 => if F k = true then alM F a k &&& nI k else alM F a k
theorem al_su {F : Nat → Bool} {b : Nat} (hb : b ≤ 8) : ∀ k, k ≤ 2 ^ b → alM F (1 <<< (nI b &&& 31) - 1) k = if ctM F k = 0 then 1 <<< (nI b &&& 31) - 1 else suM F k := by
  intro k
  induction k with
  | zero => intro _; rfl
  | succ k ih =>
    intro hk
    have i1 := ih (by omega)
    by_cases hF : F k = true
    · rw [alM, if_pos hF, ctM, if_pos hF, if_neg (by omega), suM, if_pos hF, i1]
      by_cases h0 : ctM F k = 0
      · rw [if_pos h0, if_pos h0]
        refine b_ext (fun i hi => ?_)
        rw [b_and, all_bt b hb i hi]
        by_cases hi2 : i < b
        · rw [decide_eq_true hi2, Bool.true_and]
        · rw [bt_hi b hb k (by omega) i hi (by omega), Bool.and_false]
      · rw [if_neg h0, if_neg h0]
    · rw [alM, if_neg hF, ctM, if_neg hF, suM, if_neg hF]
      exact i1
theorem fs_at {F : Nat → Bool} : ∀ k, k < 1000 → (ctM F k = 0 ↔ fsM F k = -1) := by
  intro k
  induction k with
  | zero => intro _; exact ⟨fun _ => rfl, fun _ => rfl⟩
  | succ k ih =>
    intro hk
    have i1 := ih (by omega)
    by_cases hF : F k = true
    · rw [ctM, if_pos hF, fsM, if_pos hF]
      by_cases h0 : ctM F k = 0
      · rw [if_pos h0]
        exact ⟨fun q => by omega, fun q => absurd q (nI_m1 (by omega))⟩
      · rw [if_neg h0]
        exact ⟨fun q => by omega, fun q => absurd (i1.mpr q) h0⟩
    · rw [ctM, if_neg hF, fsM, if_neg hF]
      exact i1
theorem su_0 {F : Nat → Bool} : ∀ k, ctM F k = 0 → suM F k = 0 := by
  intro k
  induction k with
  | zero => intro _; rfl
  | succ k ih =>
    intro h
    rw [ctM] at h
    by_cases hF : F k = true
    · rw [if_pos hF] at h; omega
    · rw [if_neg hF] at h; rw [suM, if_neg hF]; exact ih h
theorem t_fits {w : Nat} (hE : mEnv M m n no nq nr nm) (hN : sR (row 31 M) (m 19)) (hA : okA no (row 31 M)) (hL : ∀ h, 1 ≤ h → h ≤ 12 → m 23 h = M 29 h) (hw : w ≤ 2) : bc_C (d + 8) LM mX10_fits [.ref 0, .int (nI w)] m (fun r ν => r = some (.int (fisM (fitS M n no nq) (2 ^ no) w)) ∧ qS m ν) := by
  refine bc_enter (by decide) (Nat.le_of_ble_eq_true rfl) rfl ?_
  have h8 := hE.o8
  have e2 := ovs no h8
  have e256 := e2.2
  obtain ⟨F, hF⟩ : ∃ F, F = fitS M n no nq := ⟨_, rfl⟩
  obtain ⟨FU, hFU⟩ : ∃ FU, FU = (1 : Int32) <<< (nI no &&& 31) - 1 := ⟨_, rfl⟩
  rw [← hF]
  have loop : ∀ (ν : bc_M), lyS (bc_u m 0 0 0) ν → lyI M n no nq (2 ^ no) ν → ∀ (c s : Nat), s + c = 2 ^ no → bc_W (d + 8) LM mX10_fits 43 [.ref 0, .int (nI w), .int (nI (ctM F s)), .int (fsM F s), .int (alM F FU s), .int (nI s)] [] ν (fun r ν => r = some (.int (fisM F (2 ^ no) w)) ∧ qS m ν) := by
    intro ν hf hI c
    have hno : ν 0 26 = nI no := by rw [hf 0 (by decide) (by decide) (by decide) (by decide) (by decide)]; exact hE.2.1.2.1
    induction c with
    | zero =>
      intro s hs
      have hs : s = 2 ^ no := by omega
      have hct := ctM_le F s
      have hal := al_su (F := F) h8 s (by omega)
      rw [← hFU] at hal
      have c0 : nI (ctM F s) = 0 ↔ ctM F s = 0 := bn_eqN (b := 0) (by omega) (by omega)
      rw [← hs] at e2 ⊢
      have hc : w = 0 ∨ w = 1 ∨ w = 2 := by omega
      rcases hc with rfl | rfl | rfl
      · skip
        refine bc_iload dX10_fits_43 rfl ?_
        refine bc_iconst (v := 1) dX10_fits_45 (by decide) ?_
        refine bc_aload_n dX10_fits_46 rfl ?_
        refine bc_geti dX10_fits_47 fX10_185 (rfl) rfl ?_
        rw [hno]
        refine bc_ishl dX10_fits_50 ?_
        rw [e2.1]
        refine bc_icmp_ge (tgt := 95) dX10_fits_51 (by decide) (fun h51 => ?_) (fun h51 => absurd h51 (fun q => q (bx_out rfl (by omega) (by omega))))
        refine bc_iload_n dX10_fits_95 rfl ?_
        refine bc_if_ne (tgt := 103) dX10_fits_96 (by decide) (fun h96 => absurd h96 (fun q => q rfl)) (fun h96 => ?_)
        refine bc_iload_n dX10_fits_99 rfl ?_
        refine bc_goto (tgt := 122) dX10_fits_100 (by decide) ?_
        exact bc_ireturn dX10_fits_122 rfl rfl (⟨rfl, qS_ly hf⟩)
      · skip
        refine bc_iload dX10_fits_43 rfl ?_
        refine bc_iconst (v := 1) dX10_fits_45 (by decide) ?_
        refine bc_aload_n dX10_fits_46 rfl ?_
        refine bc_geti dX10_fits_47 fX10_185 (rfl) rfl ?_
        rw [hno]
        refine bc_ishl dX10_fits_50 ?_
        rw [e2.1]
        refine bc_icmp_ge (tgt := 95) dX10_fits_51 (by decide) (fun h51 => ?_) (fun h51 => absurd h51 (fun q => q (bx_out rfl (by omega) (by omega))))
        refine bc_iload_n dX10_fits_95 rfl ?_
        refine bc_if_ne (tgt := 103) dX10_fits_96 (by decide) (fun h96 => ?_) (fun h96 => absurd h96 (by decide))
        refine bc_iload_n dX10_fits_103 rfl ?_
        refine bc_iconst (v := 1) dX10_fits_104 (by decide) ?_
        refine bc_icmp_ne (tgt := 112) dX10_fits_105 (by decide) (fun h105 => absurd h105 (fun q => q rfl)) (fun h105 => ?_)
        refine bc_iload_n dX10_fits_108 rfl ?_
        refine bc_goto (tgt := 122) dX10_fits_109 (by decide) ?_
        exact bc_ireturn dX10_fits_122 rfl rfl (⟨rfl, qS_ly hf⟩)
      · skip
        refine bc_iload dX10_fits_43 rfl ?_
        refine bc_iconst (v := 1) dX10_fits_45 (by decide) ?_
        refine bc_aload_n dX10_fits_46 rfl ?_
        refine bc_geti dX10_fits_47 fX10_185 (rfl) rfl ?_
        rw [hno]
        refine bc_ishl dX10_fits_50 ?_
        rw [e2.1]
        refine bc_icmp_ge (tgt := 95) dX10_fits_51 (by decide) (fun h51 => ?_) (fun h51 => absurd h51 (fun q => q (bx_out rfl (by omega) (by omega))))
        refine bc_iload_n dX10_fits_95 rfl ?_
        refine bc_if_ne (tgt := 103) dX10_fits_96 (by decide) (fun h96 => ?_) (fun h96 => absurd h96 (by decide))
        refine bc_iload_n dX10_fits_103 rfl ?_
        refine bc_iconst (v := 1) dX10_fits_104 (by decide) ?_
        refine bc_icmp_ne (tgt := 112) dX10_fits_105 (by decide) (fun h105 => ?_) (fun h105 => absurd h105 (by decide))
        refine bc_iload_n dX10_fits_112 rfl ?_
        refine bc_if_ne (tgt := 120) dX10_fits_113 (by decide) (fun h113 => ?_) (fun h113 => ?_)
        · refine bc_iload dX10_fits_120 rfl ?_
          exact bc_ireturn dX10_fits_122 rfl rfl (⟨by show some (Value.int (alM F FU s)) = some (Value.int (suM F s)); rw [hal, if_neg (fun q => h113 (c0.mpr q))], qS_ly hf⟩)
        · refine bc_iconst (v := 0) dX10_fits_116 (by decide) ?_
          refine bc_goto (tgt := 122) dX10_fits_117 (by decide) ?_
          exact bc_ireturn dX10_fits_122 rfl rfl (⟨by show some (Value.int 0) = some (Value.int (suM F s)); rw [su_0 s (c0.mp h113)], qS_ly hf⟩)
    | succ c ih =>
      intro s hs
      have h2 := ih (s + 1) (by omega)
      have e27 := hI.1 s (by omega)
      rw [← hF] at e27
      have hfs := fs_at (F := F) s (by omega)
      refine bc_iload dX10_fits_43 rfl ?_
      refine bc_iconst (v := 1) dX10_fits_45 (by decide) ?_
      refine bc_aload_n dX10_fits_46 rfl ?_
      refine bc_geti dX10_fits_47 fX10_185 (rfl) rfl ?_
      rw [hno]
      refine bc_ishl dX10_fits_50 ?_
      rw [e2.1]
      refine bc_icmp_ge (tgt := 95) dX10_fits_51 (by decide) (fun h51 => absurd h51 (bx_in rfl (by omega) (by omega))) (fun h51 => ?_)
      refine bc_aload_n dX10_fits_54 rfl ?_
      refine bc_getr dX10_fits_55 fX10_95 (rfl) rfl ?_
      refine bc_iload dX10_fits_58 rfl ?_
      refine bc_zaldE (k := s) dX10_fits_60 (rfl) (rfl) (⟨by omega, by decide⟩) ?_
      rw [e27]
      refine bc_if_ne (tgt := 67) dX10_fits_61 (by decide) (fun h61 => ?_) (fun h61 => ?_)
      · refine bc_iinc1 dX10_fits_67 rfl (by decide) rfl ?_
        refine bc_iload_n dX10_fits_70 rfl ?_
        refine bc_iconst (v := (-1)) dX10_fits_71 (by decide) ?_
        refine bc_icmp_ne (tgt := 80) dX10_fits_72 (by decide) (fun h72 => ?_) (fun h72 => ?_)
        · refine bc_iload_n dX10_fits_80 rfl ?_
          refine bc_istore_n dX10_fits_81 (by decide) rfl ?_
          refine bc_iload dX10_fits_82 rfl ?_
          refine bc_iload dX10_fits_84 rfl ?_
          refine bc_iand dX10_fits_86 ?_
          refine bc_istore dX10_fits_87 (by decide) rfl ?_
          refine bc_iinc1 dX10_fits_89 rfl (by decide) rfl ?_
          refine bc_goto (tgt := 43) dX10_fits_92 (by decide) ?_
          have hy : F s = true := Decidable.not_not.mp (fun q => h61 (ite0.mpr q))
          rw [ctM, if_pos hy, fsM, if_pos hy, if_neg (fun q => h72 (hfs.mp q)), alM, if_pos hy] at h2
          rw [bn_add1, bn_add1]
          exact h2
        · refine bc_iload dX10_fits_75 rfl ?_
          refine bc_goto (tgt := 81) dX10_fits_77 (by decide) ?_
          refine bc_istore_n dX10_fits_81 (by decide) rfl ?_
          refine bc_iload dX10_fits_82 rfl ?_
          refine bc_iload dX10_fits_84 rfl ?_
          refine bc_iand dX10_fits_86 ?_
          refine bc_istore dX10_fits_87 (by decide) rfl ?_
          refine bc_iinc1 dX10_fits_89 rfl (by decide) rfl ?_
          refine bc_goto (tgt := 43) dX10_fits_92 (by decide) ?_
          have hy : F s = true := Decidable.not_not.mp (fun q => h61 (ite0.mpr q))
          rw [ctM, if_pos hy, fsM, if_pos hy, if_pos (hfs.mpr h72), alM, if_pos hy] at h2
          rw [bn_add1, bn_add1]
          exact h2
      · refine bc_goto (tgt := 89) dX10_fits_64 (by decide) ?_
        refine bc_iinc1 dX10_fits_89 rfl (by decide) rfl ?_
        refine bc_goto (tgt := 43) dX10_fits_92 (by decide) ?_
        have hn : ¬ F s = true := ite0.mp h61
        rw [ctM, if_neg hn, fsM, if_neg hn, alM, if_neg hn] at h2
        rw [bn_add1]
        exact h2
  refine bc_aload_n dX10_fits_0 rfl ?_
  refine bc_iconst (v := 0) dX10_fits_1 (by decide) ?_
  refine bc_put dX10_fits_2 fX10_3 ftX10 fpX10_0 rfl rfl (rfl) rfl ?_
  refine bc_aload_n dX10_fits_5 rfl ?_
  refine bc_iload_n dX10_fits_6 rfl ?_
  refine bc_iconst (v := 0) dX10_fits_7 (by decide) ?_
  refine bc_iconst (v := 2) dX10_fits_8 (by decide) ?_
  refine bc_callS (z := mX10_within) dX10_fits_9 lX10_384 qX10_within (by rfl) (by rfl) (Nat.le_of_ble_eq_true rfl) (t_within _ _ _) (fun r9 μ9 e9 => ?_)
  obtain ⟨rfl, q9⟩ := e9
  obtain rfl := q9.symm
  refine bc_iconst (v := 1) dX10_fits_12 (by decide) ?_
  refine bc_iconst (v := 1) dX10_fits_13 (by decide) ?_
  refine bc_callV (z := mX10_may) (ci := 10) dX10_fits_14 lX10_236 qX10_may (by rfl) (by rfl) (by rfl) (by rfl) (Nat.le_of_ble_eq_true rfl) (t_mayY (k := 1) _ (wN (b := 2) (by omega) (by omega)) _ (by decide) rfl (by decide)) (fun r14 μ14 e14 => ?_)
  obtain ⟨rfl, q14⟩ := e14
  obtain rfl := q14.symm
  refine bc_if_ne (tgt := 22) dX10_fits_17 (by decide) (fun h17 => ?_) (fun h17 => absurd h17 (by decide))
  refine bc_aload_n dX10_fits_22 rfl ?_
  refine bc_callV (z := mX10_laySets) (ci := 10) dX10_fits_23 lX10_416 qX10_laySets (by rfl) (by rfl) (by rfl) (by rfl) (Nat.le_of_ble_eq_true rfl) (t_laySets hE.t0 hN hA hL) (fun r23 μ23 e23 => ?_)
  obtain ⟨rfl, f23, i23⟩ := e23
  refine bc_iconst (v := 0) dX10_fits_26 (by decide) ?_
  refine bc_istore_n dX10_fits_27 (by decide) rfl ?_
  refine bc_iconst (v := (-1)) dX10_fits_28 (by decide) ?_
  refine bc_istore_n dX10_fits_29 (by decide) rfl ?_
  refine bc_iconst (v := 1) dX10_fits_30 (by decide) ?_
  refine bc_aload_n dX10_fits_31 rfl ?_
  refine bc_geti dX10_fits_32 fX10_185 (rfl) rfl ?_
  rw [show μ23 0 26 = nI no by rw [f23 0 (by decide) (by decide) (by decide) (by decide) (by decide)]; exact hE.2.1.2.1]
  refine bc_ishl dX10_fits_35 ?_
  refine bc_iconst (v := 1) dX10_fits_36 (by decide) ?_
  refine bc_isub dX10_fits_37 ?_
  rw [← hFU]
  refine bc_istore dX10_fits_38 (by decide) rfl ?_
  refine bc_iconst (v := 0) dX10_fits_40 (by decide) ?_
  refine bc_istore dX10_fits_41 (by decide) rfl ?_
  exact loop _ f23 i23 (2 ^ no) 0 (by omega)
theorem t_lookB {w : Int32} (h : ¬ (0 ≤ w ∧ w ≤ 1)) : bc_C (d + 2) LM mX10_look [.ref 0, .int w] m (fun r ν => r = some (.int 0) ∧ ν = refM m 1 1) := by
  refine bc_enter (by decide) (Nat.le_of_ble_eq_true rfl) rfl ?_
  refine bc_aload_n dX10_look_0 rfl ?_
  refine bc_iconst (v := 0) dX10_look_1 (by decide) ?_
  refine bc_put dX10_look_2 fX10_3 ftX10 fpX10_0 rfl rfl (rfl) rfl ?_
  refine bc_aload_n dX10_look_5 rfl ?_
  refine bc_iload_n dX10_look_6 rfl ?_
  refine bc_iconst (v := 0) dX10_look_7 (by decide) ?_
  refine bc_iconst (v := 1) dX10_look_8 (by decide) ?_
  refine bc_callS (z := mX10_within) dX10_look_9 lX10_384 qX10_within (by rfl) (by rfl) (Nat.le_of_ble_eq_true rfl) (t_within _ _ _) (fun r9 μ9 e9 => ?_)
  obtain ⟨rfl, q9⟩ := e9
  obtain rfl := q9.symm
  refine bc_iconst (v := 1) dX10_look_12 (by decide) ?_
  refine bc_iconst (v := 1) dX10_look_13 (by decide) ?_
  refine bc_callV (z := mX10_may) (ci := 10) dX10_look_14 lX10_236 qX10_may (by rfl) (by rfl) (by rfl) (by rfl) (Nat.le_of_ble_eq_true rfl) (t_mayN (k := 1) _ h _ (by decide) rfl (by decide)) (fun r14 μ14 e14 => ?_)
  obtain ⟨rfl, q14⟩ := e14
  obtain rfl := q14.symm
  refine bc_if_ne (tgt := 22) dX10_look_17 (by decide) (fun h17 => absurd h17 (fun q => q rfl)) (fun h17 => ?_)
  refine bc_iconst (v := 0) dX10_look_20 (by decide) ?_
  exact bc_ireturn dX10_look_21 rfl rfl (⟨rfl, rfl⟩)
theorem t_look {w : Nat} (hE : mEnv M m n no nq nr nm) (hN : sR (row 31 M) (m 19)) (hA : okA no (row 31 M)) (hL : ∀ h, 1 ≤ h → h ≤ 12 → m 23 h = M 29 h) (hw : w ≤ 1) : bc_C (d + 8) LM mX10_look [.ref 0, .int (nI w)] m (fun r ν => r = some (.int (if w = 0 then (lokM M n no nq).1 else (lokM M n no nq).2)) ∧ qS m ν) := by
  refine bc_enter (by decide) (Nat.le_of_ble_eq_true rfl) rfl ?_
  have h8 := hE.o8
  have e2 := ovs no h8
  have e256 := e2.2
  have hrow : rng (M 31 2, M 31 3) := hA.2.2.2
  have w0 : nI w = 0 ↔ w = 0 := bn_eqN (b := 0) (by omega) (by omega)
  obtain ⟨F, hF⟩ : ∃ F, F = fitS M n no nq := ⟨_, rfl⟩
  obtain ⟨Wf, hWf⟩ : ∃ Wf : Nat → Int32, Wf = fun h => woM F (fun s => cel (trP M n no nq h s)) (2 ^ no) := ⟨_, rfl⟩
  have hlok : lokM M n no nq = lkC (M 29) Wf 12 := by rw [hWf, hF]; rfl
  rw [hlok]
  have loop : ∀ (μ1 : bc_M), lyS (bc_u m 0 0 0) μ1 → lyI M n no nq (2 ^ no) μ1 → ∀ (c h : Nat) (ν : bc_M) (v5 v6 v7 : Value), v5.category = 1 → v6.category = 1 → v7.category = 1 → h + c = 12 → (∀ i, i ≠ 28 → ν i = μ1 i) → bc_W (d + 8) LM mX10_look 33 [.ref 0, .int (nI w), .int (lkC (M 29) Wf h).1, .int (lkC (M 29) Wf h).2, .int (nI (h + 1)), v5, v6, v7] [] ν (fun r ν => r = some (.int (if w = 0 then (lkC (M 29) Wf 12).1 else (lkC (M 29) Wf 12).2)) ∧ qS m ν) := by
    intro μ1 hf1 hI c
    have qs : ∀ ν : bc_M, (∀ i, i ≠ 28 → ν i = μ1 i) → qS m ν := fun ν h => ⟨fun i a b e f g => by rw [h i (by omega), hf1 i b e f (by omega) (by omega), bc_u_ne _ _ _ a], fun k a b => by rw [h 0 (by decide), hf1 0 (by decide) (by decide) (by decide) (by decide) (by decide), bc_u_r, if_neg (by omega)], by rw [h 0 (by decide), hf1 0 (by decide) (by decide) (by decide) (by decide) (by decide)]; rfl⟩
    have hno1 : μ1 0 26 = nI no := by rw [hf1 0 (by decide) (by decide) (by decide) (by decide) (by decide)]; exact hE.2.1.2.1
    have hbk1 : ∀ h, 1 ≤ h → h ≤ 12 → μ1 23 h = M 29 h := fun h a b => by rw [hf1 23 (by decide) (by decide) (by decide) (by decide) (by decide)]; exact hL h a b
    induction c with
    | zero =>
      intro h ν v5 v6 v7 c5 c6 c7 hh hf
      have hh : h = 12 := by omega
      subst hh
      refine bc_iload dX10_look_33 rfl ?_
      refine bc_bipush (v := 12) dX10_look_35 (by decide) ?_
      refine bc_icmp_gt (tgt := 193) dX10_look_37 (by decide) (fun h37 => ?_) (fun h37 => absurd h37 (by decide))
      refine bc_iload_n dX10_look_193 rfl ?_
      refine bc_if_ne (tgt := 201) dX10_look_194 (by decide) (fun h194 => ?_) (fun h194 => ?_)
      · refine bc_iload_n dX10_look_201 rfl ?_
        exact bc_ireturn dX10_look_202 rfl rfl (⟨by rw [if_neg (fun q => h194 (w0.mpr q))], qs _ hf⟩)
      · refine bc_iload_n dX10_look_197 rfl ?_
        refine bc_goto (tgt := 202) dX10_look_198 (by decide) ?_
        exact bc_ireturn dX10_look_202 rfl rfl (⟨by rw [if_pos (w0.mp h194)], qs _ hf⟩)
    | succ c ih =>
      intro h ν v5 v6 v7 c5 c6 c7 hh hf
      have hbk : ν 23 (h + 1) = M 29 (h + 1) := by rw [hf 23 (by decide)]; exact hbk1 (h + 1) (by omega) (by omega)
      have next : ∀ (ν' : bc_M) (b l : Int32) (v5 v6 v7 : Value), v5.category = 1 → v6.category = 1 → v7.category = 1 → (∀ i, i ≠ 28 → ν' i = μ1 i) → (b, l) = lkC (M 29) Wf (h + 1) → bc_W (d + 8) LM mX10_look 187 [.ref 0, .int (nI w), .int b, .int l, .int (nI (h + 1)), v5, v6, v7] [] ν' (fun r ν => r = some (.int (if w = 0 then (lkC (M 29) Wf 12).1 else (lkC (M 29) Wf 12).2)) ∧ qS m ν) := by
        intro ν' b l v5 v6 v7 c5 c6 c7 hf' hbl
        have h2 := ih (h + 1) ν' v5 v6 v7 c5 c6 c7 (by omega) hf'
        rw [← hbl] at h2
        refine bc_iinc1 dX10_look_187 rfl (by decide) rfl ?_
        refine bc_goto (tgt := 33) dX10_look_190 (by decide) ?_
        rw [bn_add1]
        exact h2
      by_cases hL1 : M 29 (h + 1) = -1
      · have cnt : ∀ (c s : Nat) (ν' : bc_M) (v7 : Value), v7.category = 1 → s + c = 2 ^ no → (∀ i, i ≠ 28 → ν' i = μ1 i) → (∀ j, j < 961 → ν' 28 j = crM F (fun s => cel (trP M n no nq (h + 1) s)) s j) → bc_W (d + 8) LM mX10_look 85 [.ref 0, .int (nI w), .int (lkC (M 29) Wf h).1, .int (lkC (M 29) Wf h).2, .int (nI (h + 1)), .int (woM F (fun s => cel (trP M n no nq (h + 1) s)) s), .int (nI s), v7] [] ν' (fun r ν => r = some (.int (if w = 0 then (lkC (M 29) Wf 12).1 else (lkC (M 29) Wf 12).2)) ∧ qS m ν) := by
          intro c
          induction c with
          | zero =>
            intro s ν' v7 c7 hs hf' hcr
            have hs : s = 2 ^ no := by omega
            have hno : ν' 0 26 = nI no := by rw [hf' 0 (by decide)]; exact hno1
            have eW : woM F (fun s => cel (trP M n no nq (h + 1) s)) s = Wf (h + 1) := by rw [hWf, hs]
            rw [eW]
            refine bc_iload dX10_look_85 rfl ?_
            refine bc_iconst (v := 1) dX10_look_87 (by decide) ?_
            refine bc_aload_n dX10_look_88 rfl ?_
            refine bc_geti dX10_look_89 fX10_185 (rfl) rfl ?_
            rw [hno]
            refine bc_ishl dX10_look_92 ?_
            rw [e2.1]
            refine bc_icmp_ge (tgt := 167) dX10_look_93 (by decide) (fun h93 => ?_) (fun h93 => absurd h93 (fun q => q (bx_out rfl (by omega) (by omega))))
            refine bc_iload_n dX10_look_167 rfl ?_
            refine bc_iconst (v := (-1)) dX10_look_168 (by decide) ?_
            refine bc_icmp_eq (tgt := 181) dX10_look_169 (by decide) (fun h169 => ?_) (fun h169 => ?_)
            · refine bc_iload dX10_look_181 rfl ?_
              refine bc_istore_n dX10_look_183 (by decide) rfl ?_
              refine bc_iload dX10_look_184 rfl ?_
              refine bc_istore_n dX10_look_186 (by decide) rfl ?_
              exact next _ _ _ _ _ _ rfl rfl c7 hf' (by rw [lkC, if_pos ⟨hL1, .inl h169⟩])
            · refine bc_iload dX10_look_172 rfl ?_
              refine bc_iload_n dX10_look_174 rfl ?_
              refine bc_icmp_lt (tgt := 181) dX10_look_175 (by decide) (fun h175 => ?_) (fun h175 => ?_)
              · refine bc_iload dX10_look_181 rfl ?_
                refine bc_istore_n dX10_look_183 (by decide) rfl ?_
                refine bc_iload dX10_look_184 rfl ?_
                refine bc_istore_n dX10_look_186 (by decide) rfl ?_
                exact next _ _ _ _ _ _ rfl rfl c7 hf' (by rw [lkC, if_pos ⟨hL1, .inr h175⟩])
              · refine bc_goto (tgt := 187) dX10_look_178 (by decide) ?_
                exact next _ _ _ _ _ _ rfl rfl c7 hf' (by rw [lkC, if_neg (fun q => q.2.elim h169 h175)])
          | succ c ic =>
            intro s ν' v7 c7 hs hf' hcr
            have hs2 : s < 2 ^ no := by omega
            have hno : ν' 0 26 = nI no := by rw [hf' 0 (by decide)]; exact hno1
            have e27 : ν' 27 s = if F s = true then 1 else 0 := by rw [hf' 27 (by decide), hF]; exact hI.1 s hs2
            obtain ⟨z, hz, ez⟩ := cel_lt (trP_rng (n := n) (no := no) (nq := nq) hrow s (h + 1))
            by_cases hFs : F s = true
            · have e26 : ν' 26 (13 * s + (h + 1)) = nI z := by rw [hf' 26 (by decide), hI.2 s hs2 (by rw [← hF]; exact hFs) (h + 1) (by omega) (by omega)]; exact ez
              obtain ⟨C, hC⟩ : ∃ C : Nat → Int32, C = fun s => cel (trP M n no nq (h + 1) s) := ⟨_, rfl⟩
              have eC : C s = nI z := by rw [hC]; exact ez
              rw [← hC] at hcr ic ⊢
              have ecr := hcr z hz
              have h2 := ic (s + 1) (bc_u ν' 28 z (ν' 28 z + 1)) (.int (nI z)) rfl (by omega) (fun i hi => by rw [bc_u_ne _ _ _ hi]; exact hf' i hi) (fun j hj => by
                rw [crM, if_pos hFs, eC, nI_clamp (by omega), bc_u_r, ecr]
                by_cases e : j = z
                · subst e; rw [if_pos ⟨rfl, rfl⟩]; simp [upd]
                · rw [if_neg (fun q => e q.2)]; simp only [upd, e, if_false]; exact hcr j hj)
              rw [woM, if_pos hFs, eC, nI_clamp (by omega), ← ecr] at h2
              refine bc_iload dX10_look_85 rfl ?_
              refine bc_iconst (v := 1) dX10_look_87 (by decide) ?_
              refine bc_aload_n dX10_look_88 rfl ?_
              refine bc_geti dX10_look_89 fX10_185 (rfl) rfl ?_
              rw [hno]
              refine bc_ishl dX10_look_92 ?_
              rw [e2.1]
              refine bc_icmp_ge (tgt := 167) dX10_look_93 (by decide) (fun h93 => absurd h93 (bx_in rfl (by omega) (by omega))) (fun h93 => ?_)
              refine bc_aload_n dX10_look_96 rfl ?_
              refine bc_getr dX10_look_97 fX10_95 (rfl) rfl ?_
              refine bc_iload dX10_look_100 rfl ?_
              refine bc_zaldE (k := s) dX10_look_102 (rfl) (rfl) (⟨by omega, by decide⟩) ?_
              rw [e27, if_pos hFs]
              refine bc_if_ne (tgt := 109) dX10_look_103 (by decide) (fun h103 => ?_) (fun h103 => absurd h103 (by decide))
              refine bc_aload_n dX10_look_109 rfl ?_
              refine bc_getr dX10_look_110 fX10_92 (rfl) rfl ?_
              refine bc_bipush (v := 13) dX10_look_113 (by decide) ?_
              refine bc_iload dX10_look_115 rfl ?_
              refine bc_imul dX10_look_117 ?_
              refine bc_iload dX10_look_118 rfl ?_
              refine bc_iadd dX10_look_120 ?_
              refine bc_ialdE (k := (13 * s) + ((h + 1))) dX10_look_121 (rfl) (ixA (a := 13 * s) (b := (h + 1)) (ixM (a := 13) (b := s) (rfl) (rfl)) (rfl)) (⟨by omega, by decide⟩) ?_
              rw [e26]
              refine bc_istore dX10_look_122 (by decide) rfl ?_
              refine bc_aload_n dX10_look_124 rfl ?_
              refine bc_getr dX10_look_125 fX10_99 (rfl) rfl ?_
              refine bc_iload dX10_look_128 rfl ?_
              refine bc_dup2 dX10_look_130 rfl rfl ?_
              refine bc_ialdE dX10_look_131 (rfl) (rfl) (⟨hz, by decide⟩) ?_
              refine bc_iconst (v := 1) dX10_look_132 (by decide) ?_
              refine bc_iadd dX10_look_133 ?_
              refine bc_iastE dX10_look_134 (rfl) (rfl) (⟨hz, by decide⟩) ?_
              refine bc_aload_n dX10_look_135 rfl ?_
              refine bc_getr dX10_look_136 fX10_99 (rfl) rfl ?_
              refine bc_iload dX10_look_139 rfl ?_
              refine bc_ialdE dX10_look_141 (rfl) (rfl) (⟨hz, by decide⟩) ?_
              rw [show bc_u ν' 28 z (ν' 28 z + 1) 28 z = ν' 28 z + 1 by rw [bc_u_r, if_pos ⟨rfl, rfl⟩]]
              refine bc_iload dX10_look_142 rfl ?_
              refine bc_icmp_le (tgt := 157) dX10_look_144 (by decide) (fun h144 => ?_) (fun h144 => ?_)
              · refine bc_iload dX10_look_157 rfl ?_
                refine bc_istore dX10_look_159 (by decide) rfl ?_
                refine bc_iinc1 dX10_look_161 rfl (by decide) rfl ?_
                refine bc_goto (tgt := 85) dX10_look_164 (by decide) ?_
                rw [if_neg (Int32.not_lt.mpr h144)] at h2
                rw [bn_add1]
                exact h2
              · refine bc_aload_n dX10_look_147 rfl ?_
                refine bc_getr dX10_look_148 fX10_99 (rfl) rfl ?_
                refine bc_iload dX10_look_151 rfl ?_
                refine bc_ialdE dX10_look_153 (rfl) (rfl) (⟨hz, by decide⟩) ?_
                rw [show bc_u ν' 28 z (ν' 28 z + 1) 28 z = ν' 28 z + 1 by rw [bc_u_r, if_pos ⟨rfl, rfl⟩]]
                refine bc_goto (tgt := 159) dX10_look_154 (by decide) ?_
                refine bc_istore dX10_look_159 (by decide) rfl ?_
                refine bc_iinc1 dX10_look_161 rfl (by decide) rfl ?_
                refine bc_goto (tgt := 85) dX10_look_164 (by decide) ?_
                rw [if_pos (Int32.not_le.mp h144)] at h2
                rw [bn_add1]
                exact h2
            · have h2 := ic (s + 1) ν' v7 c7 (by omega) hf' (fun j hj => by rw [crM, if_neg hFs]; exact hcr j hj)
              rw [woM, if_neg hFs] at h2
              refine bc_iload dX10_look_85 rfl ?_
              refine bc_iconst (v := 1) dX10_look_87 (by decide) ?_
              refine bc_aload_n dX10_look_88 rfl ?_
              refine bc_geti dX10_look_89 fX10_185 (rfl) rfl ?_
              rw [hno]
              refine bc_ishl dX10_look_92 ?_
              rw [e2.1]
              refine bc_icmp_ge (tgt := 167) dX10_look_93 (by decide) (fun h93 => absurd h93 (bx_in rfl (by omega) (by omega))) (fun h93 => ?_)
              refine bc_aload_n dX10_look_96 rfl ?_
              refine bc_getr dX10_look_97 fX10_95 (rfl) rfl ?_
              refine bc_iload dX10_look_100 rfl ?_
              refine bc_zaldE (k := s) dX10_look_102 (rfl) (rfl) (⟨by omega, by decide⟩) ?_
              rw [e27, if_neg hFs]
              refine bc_if_ne (tgt := 109) dX10_look_103 (by decide) (fun h103 => absurd h103 (fun q => q rfl)) (fun h103 => ?_)
              refine bc_goto (tgt := 161) dX10_look_106 (by decide) ?_
              refine bc_iinc1 dX10_look_161 rfl (by decide) rfl ?_
              refine bc_goto (tgt := 85) dX10_look_164 (by decide) ?_
              rw [bn_add1]
              exact h2
        have clear : ∀ (c j : Nat) (ν' : bc_M) (v6 v7 : Value), v6.category = 1 → v7.category = 1 → j + c = 961 → (∀ i, i ≠ 28 → ν' i = μ1 i) → (∀ i, i < j → ν' 28 i = 0) → bc_W (d + 8) LM mX10_look 57 [.ref 0, .int (nI w), .int (lkC (M 29) Wf h).1, .int (lkC (M 29) Wf h).2, .int (nI (h + 1)), .int (nI j), v6, v7] [] ν' (fun r ν => r = some (.int (if w = 0 then (lkC (M 29) Wf 12).1 else (lkC (M 29) Wf 12).2)) ∧ qS m ν) := by
          intro c
          induction c with
          | zero =>
            intro j ν' v6 v7 c6 c7 hj hf' h0
            have hj : j = 961 := by omega
            subst hj
            refine bc_iload dX10_look_57 rfl ?_
            refine bc_sipush (v := 961) dX10_look_59 (by decide) ?_
            refine bc_icmp_ge (tgt := 79) dX10_look_62 (by decide) (fun h62 => ?_) (fun h62 => absurd h62 (fun q => q (by decide)))
            refine bc_iconst (v := 0) dX10_look_79 (by decide) ?_
            refine bc_istore dX10_look_80 (by decide) rfl ?_
            refine bc_iconst (v := 0) dX10_look_82 (by decide) ?_
            refine bc_istore dX10_look_83 (by decide) rfl ?_
            exact cnt (2 ^ no) 0 ν' v7 c7 (by omega) hf' (fun j hj => h0 j hj)
          | succ c ic =>
            intro j ν' v6 v7 c6 c7 hj hf' h0
            have h2 := ic (j + 1) (bc_u ν' 28 j 0) v6 v7 c6 c7 (by omega) (fun i hi => by rw [bc_u_ne _ _ _ hi]; exact hf' i hi) (fun i hi => by
              rw [bc_u_r]
              by_cases e : i = j
              · rw [if_pos ⟨rfl, e⟩]
              · rw [if_neg (fun q => e q.2)]; exact h0 i (by omega))
            refine bc_iload dX10_look_57 rfl ?_
            refine bc_sipush (v := 961) dX10_look_59 (by decide) ?_
            refine bc_icmp_ge (tgt := 79) dX10_look_62 (by decide) (fun h62 => absurd h62 (by rw [show (961 : Int32) = nI 961 from rfl, bn_leN (by omega) (by omega)]; omega)) (fun h62 => ?_)
            refine bc_aload_n dX10_look_65 rfl ?_
            refine bc_getr dX10_look_66 fX10_99 (rfl) rfl ?_
            refine bc_iload dX10_look_69 rfl ?_
            refine bc_iconst (v := 0) dX10_look_71 (by decide) ?_
            refine bc_iastE (k := j) dX10_look_72 (rfl) (rfl) (⟨by omega, by decide⟩) ?_
            refine bc_iinc1 dX10_look_73 rfl (by decide) rfl ?_
            refine bc_goto (tgt := 57) dX10_look_76 (by decide) ?_
            rw [bn_add1]
            exact h2
        refine bc_iload dX10_look_33 rfl ?_
        refine bc_bipush (v := 12) dX10_look_35 (by decide) ?_
        refine bc_icmp_gt (tgt := 193) dX10_look_37 (by decide) (fun h37 => absurd h37 (by rw [show (12 : Int32) = nI 12 from rfl, bn_ltN (by omega) (by omega)]; omega)) (fun h37 => ?_)
        refine bc_aload_n dX10_look_40 rfl ?_
        refine bc_getr dX10_look_41 fX10_83 (rfl) rfl ?_
        refine bc_iload dX10_look_44 rfl ?_
        refine bc_ialdE (k := (h + 1)) dX10_look_46 (rfl) (rfl) (⟨by omega, by decide⟩) ?_
        rw [hbk]
        refine bc_iconst (v := (-1)) dX10_look_47 (by decide) ?_
        refine bc_icmp_eq (tgt := 54) dX10_look_48 (by decide) (fun h48 => ?_) (fun h48 => absurd h48 (fun q => q hL1))
        refine bc_iconst (v := 0) dX10_look_54 (by decide) ?_
        refine bc_istore dX10_look_55 (by decide) rfl ?_
        exact clear 961 0 ν _ _ c6 c7 (by omega) hf (fun i hi => by omega)
      · skip
        refine bc_iload dX10_look_33 rfl ?_
        refine bc_bipush (v := 12) dX10_look_35 (by decide) ?_
        refine bc_icmp_gt (tgt := 193) dX10_look_37 (by decide) (fun h37 => absurd h37 (by rw [show (12 : Int32) = nI 12 from rfl, bn_ltN (by omega) (by omega)]; omega)) (fun h37 => ?_)
        refine bc_aload_n dX10_look_40 rfl ?_
        refine bc_getr dX10_look_41 fX10_83 (rfl) rfl ?_
        refine bc_iload dX10_look_44 rfl ?_
        refine bc_ialdE (k := (h + 1)) dX10_look_46 (rfl) (rfl) (⟨by omega, by decide⟩) ?_
        rw [hbk]
        refine bc_iconst (v := (-1)) dX10_look_47 (by decide) ?_
        refine bc_icmp_eq (tgt := 54) dX10_look_48 (by decide) (fun h48 => absurd h48 (hL1)) (fun h48 => ?_)
        refine bc_goto (tgt := 187) dX10_look_51 (by decide) ?_
        exact next _ _ _ _ _ _ c5 c6 c7 hf (by rw [lkC, if_neg (fun q => hL1 q.1)])
  refine bc_aload_n dX10_look_0 rfl ?_
  refine bc_iconst (v := 0) dX10_look_1 (by decide) ?_
  refine bc_put dX10_look_2 fX10_3 ftX10 fpX10_0 rfl rfl (rfl) rfl ?_
  refine bc_aload_n dX10_look_5 rfl ?_
  refine bc_iload_n dX10_look_6 rfl ?_
  refine bc_iconst (v := 0) dX10_look_7 (by decide) ?_
  refine bc_iconst (v := 1) dX10_look_8 (by decide) ?_
  refine bc_callS (z := mX10_within) dX10_look_9 lX10_384 qX10_within (by rfl) (by rfl) (Nat.le_of_ble_eq_true rfl) (t_within _ _ _) (fun r9 μ9 e9 => ?_)
  obtain ⟨rfl, q9⟩ := e9
  obtain rfl := q9.symm
  refine bc_iconst (v := 1) dX10_look_12 (by decide) ?_
  refine bc_iconst (v := 1) dX10_look_13 (by decide) ?_
  refine bc_callV (z := mX10_may) (ci := 10) dX10_look_14 lX10_236 qX10_may (by rfl) (by rfl) (by rfl) (by rfl) (Nat.le_of_ble_eq_true rfl) (t_mayY (k := 1) _ (wN (b := 1) (by omega) (by omega)) _ (by decide) rfl (by decide)) (fun r14 μ14 e14 => ?_)
  obtain ⟨rfl, q14⟩ := e14
  obtain rfl := q14.symm
  refine bc_if_ne (tgt := 22) dX10_look_17 (by decide) (fun h17 => ?_) (fun h17 => absurd h17 (by decide))
  refine bc_aload_n dX10_look_22 rfl ?_
  refine bc_callV (z := mX10_laySets) (ci := 10) dX10_look_23 lX10_416 qX10_laySets (by rfl) (by rfl) (by rfl) (by rfl) (Nat.le_of_ble_eq_true rfl) (t_laySets hE.t0 hN hA hL) (fun r23 μ23 e23 => ?_)
  obtain ⟨rfl, f23, i23⟩ := e23
  refine bc_iconst (v := (-1)) dX10_look_26 (by decide) ?_
  refine bc_istore_n dX10_look_27 (by decide) rfl ?_
  refine bc_iconst (v := (-1)) dX10_look_28 (by decide) ?_
  refine bc_istore_n dX10_look_29 (by decide) rfl ?_
  refine bc_iconst (v := 1) dX10_look_30 (by decide) ?_
  refine bc_istore dX10_look_31 (by decide) rfl ?_
  exact loop _ f23 i23 12 0 _ _ _ _ rfl rfl rfl (by omega) (fun _ _ => rfl)
end T69
