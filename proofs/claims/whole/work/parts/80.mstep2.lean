/-! the reference: readStep -/
section T80
variable {d : Nat} {m μ ν M : bc_M} {n p op no nq : Nat} {t : Nat → Int32}
theorem t_step {nest : Option (PSt → PSt)} {E dep : Nat} (hn : n ≤ 150) (hno : no ≤ 8) (hnq : nq ≤ 6) (hO : (nest = none ∧ op = 6) ∨ ∃ u, nest = some (pSs t n (ovB t n) u 150) ∧ op < 6 ∧ goodP n no nq dep 1 u ∧ gd3 n u ∧ WMok t n no nq (E + 5) (op + 1) u) : WMok t n no nq (E + 6) op (pSt t n no nq nest) := by
  intro μ p l h hl
  refine bc_enter (by decide) (Nat.le_of_ble_eq_true rfl) rfl ?_
  have hpn := h.1.le
  have hat := h.at'
  obtain ⟨μ1, hμ1⟩ : ∃ μ1, μ1 = bc_u μ 0 4 (nI p) := ⟨_, rfl⟩
  rw [← hμ1] at hat
  have hf1 : rF μ μ1 := by rw [hμ1]; exact rF.u0 (by omega)
  have q4 : μ1 0 4 = nI p := by rw [hμ1, bc_u_r, if_pos ⟨rfl, rfl⟩]
  have w17 := wc_iff (t := t) (K := 17) (by decide) (by decide) hpn
  have w19 := wc_iff (t := t) (K := 19) (by decide) (by decide) hpn
  have w20 := wc_iff (t := t) (K := 20) (by decide) (by decide) hpn
  have w21 := wc_iff (t := t) (K := 21) (by decide) (by decide) hpn
  have w22 := wc_iff (t := t) (K := 22) (by decide) (by decide) hpn
  have w23 := wc_iff (t := t) (K := 23) (by decide) (by decide) hpn
  have e26 : μ1 0 26 = nI no := hat.2.2.1.2
  have e25 : μ1 0 25 = nI nq := hat.2.2.1.1
  show bc_W _ _ _ _ _ _ _ (fun r ν => r = none ∧ rF μ ν ∧ wm t n no nq (sNeed t n (nI 59) (pStW t n no nq nest p (sWrd t n (bw 3) (.inr p)).2 (sWrd t n (bw 3) (.inr p)).1 l).1) (pStW t n no nq nest p (sWrd t n (bw 3) (.inr p)).2 (sWrd t n (bw 3) (.inr p)).1 l).2 op ν)
  by_cases hf : (bw 3).idxOf (wd t n p) < (bw 3).length
  · rcases idx3 hf with hw | hw | hw | hw | hw | hw
    · obtain ⟨e, e4, e5, e6⟩ := sW3 (i := 0) hpn hw (by decide) (by decide) (by decide) (by decide) (by decide)
      rw [e]
      have hgo := hat.go e5
      refine bc_aload_n dX10_readStep_0 rfl ?_
      refine bc_callV (z := mX10_word) (ci := 10) dX10_readStep_1 lX10_219 qX10_word (by rfl) (by rfl) (by rfl) (by rfl) (Nat.le_of_ble_eq_true rfl) (t_word h.1) (fun r1 μ1 e1 => ?_)
      obtain ⟨rfl, q1⟩ := e1
      obtain rfl := q1.symm
      rw [← hμ1]
      refine bc_istore_n dX10_readStep_4 (by decide) rfl ?_
      refine bc_iload_n dX10_readStep_5 rfl ?_
      refine bc_ldcSw (tx := "hour") (k := 19) dX10_readStep_6 (by decide) ?_
      refine bc_callS (z := mX10_of) dX10_readStep_9 lX10_223 qX10_of (by rfl) (by rfl) (Nat.le_of_ble_eq_true rfl) (t_of (K := 19) (by decide) (by decide)) (fun r9 μ9 e9 => ?_)
      obtain ⟨rfl, q9⟩ := e9
      obtain rfl := q9.symm
      refine bc_icmp_ne (tgt := 29) dX10_readStep_12 (by decide) (fun h12 => ?_) (fun h12 => absurd h12 (fun q => absurd (hw.symm.trans (w19.mp q)) (by decide)))
      refine bc_iload_n dX10_readStep_29 rfl ?_
      refine bc_ldcSw (tx := "light") (k := 20) dX10_readStep_30 (by decide) ?_
      refine bc_callS (z := mX10_of) dX10_readStep_33 lX10_223 qX10_of (by rfl) (by rfl) (Nat.le_of_ble_eq_true rfl) (t_of (K := 20) (by decide) (by decide)) (fun r33 μ33 e33 => ?_)
      obtain ⟨rfl, q33⟩ := e33
      obtain rfl := q33.symm
      refine bc_icmp_eq (tgt := 49) dX10_readStep_36 (by decide) (fun h36 => ?_) (fun h36 => absurd h36 (fun q => q (w20.mpr hw)))
      refine bc_aload_n dX10_readStep_49 rfl ?_
      refine bc_callV (z := mX10_pass) (ci := 10) dX10_readStep_50 lX10_253 qX10_pass (by rfl) (by rfl) (by rfl) (by rfl) (Nat.le_of_ble_eq_true rfl) (t_pass' hat.1.1 hpn q4) (fun r50 μ50 e50 => ?_)
      obtain ⟨rfl, q50⟩ := e50
      obtain rfl := q50.symm
      refine bc_aload_n dX10_readStep_53 rfl ?_
      refine bc_iload_n dX10_readStep_54 rfl ?_
      refine bc_ldcSw (tx := "light") (k := 20) dX10_readStep_55 (by decide) ?_
      refine bc_callS (z := mX10_of) dX10_readStep_58 lX10_223 qX10_of (by rfl) (by rfl) (Nat.le_of_ble_eq_true rfl) (t_of (K := 20) (by decide) (by decide)) (fun r58 μ58 e58 => ?_)
      obtain ⟨rfl, q58⟩ := e58
      obtain rfl := q58.symm
      refine bc_icmp_ne (tgt := 68) dX10_readStep_61 (by decide) (fun h61 => absurd h61 (fun q => q (w20.mpr hw))) (fun h61 => ?_)
      refine bc_iconst (v := 0) dX10_readStep_64 (by decide) ?_
      refine bc_goto (tgt := 69) dX10_readStep_65 (by decide) ?_
      refine bc_aload_n dX10_readStep_69 rfl ?_
      refine bc_iconst (v := 0) dX10_readStep_70 (by decide) ?_
      refine bc_aload_n dX10_readStep_71 rfl ?_
      refine bc_geti dX10_readStep_72 fX10_185 (rfl) rfl ?_
      rw [show bc_u μ1 0 4 (nI (ltE t n p)) 0 26 = nI no from e26]
      refine bc_iconst (v := 1) dX10_readStep_75 (by decide) ?_
      refine bc_isub dX10_readStep_76 ?_
      refine bc_callV (z := mX10_readNumber) (ci := 10) dX10_readStep_77 lX10_232 qX10_readNumber (by rfl) (by rfl) (by rfl) (by rfl) (Nat.le_of_ble_eq_true rfl) (t_readNumber (lo := 0) (hi := no) (hv := nI no - 1) hgo.1 (by omega) (by omega) (nIm1 hno)) (fun r77 μ77 e77 => ?_)
      obtain ⟨rfl, f77, s77⟩ := e77
      have g77 := hgo.num f77 s77
      refine bc_iconst (v := 0) dX10_readStep_80 (by decide) ?_
      refine bc_callV (z := mX10_tellsStep) (ci := 10) dX10_readStep_81 lX10_318 qX10_tellsStep (by rfl) (by rfl) (by rfl) (by rfl) (Nat.le_of_ble_eq_true rfl) (t_tells (z := (0, (sNum t n 0 no (.inr (skp t n (ltE t n p)))).2, 0)) g77 (fun p' hp' => by have := (sNum_ok hp').1; obtain ⟨p0, k0, k1, k2⟩ := this; cases k0; omega) rfl rfl rfl) (fun r81 μ81 e81 => ?_)
      obtain ⟨rfl, f81, s81⟩ := e81
      refine bc_goto (tgt := 274) dX10_readStep_84 (by decide) ?_
      refine bc_aload_n dX10_readStep_274 rfl ?_
      refine bc_bipush (v := 59) dX10_readStep_275 (by decide) ?_
      refine bc_callV (z := mX10_sign) (ci := 10) dX10_readStep_277 lX10_259 qX10_sign (by rfl) (by rfl) (by rfl) (by rfl) (Nat.le_of_ble_eq_true rfl) (t_sign (c := 59) s81.1 (by omega) (by omega)) (fun r277 μ277 e277 => ?_)
      obtain ⟨rfl, f277, s277⟩ := e277
      exact bc_return dX10_readStep_280 rfl (⟨rfl, (((hf1.tr (rF.u0 (by omega))).tr f77.rF).tr f81).tr f277.rF, s81.sgn f277 s277⟩)
    · obtain ⟨e, e4, e5, e6⟩ := sW3 (i := 1) hpn hw (by decide) (by decide) (by decide) (by decide) (by decide)
      rw [e]
      have hgo := hat.go e5
      refine bc_aload_n dX10_readStep_0 rfl ?_
      refine bc_callV (z := mX10_word) (ci := 10) dX10_readStep_1 lX10_219 qX10_word (by rfl) (by rfl) (by rfl) (by rfl) (Nat.le_of_ble_eq_true rfl) (t_word h.1) (fun r1 μ1 e1 => ?_)
      obtain ⟨rfl, q1⟩ := e1
      obtain rfl := q1.symm
      rw [← hμ1]
      refine bc_istore_n dX10_readStep_4 (by decide) rfl ?_
      refine bc_iload_n dX10_readStep_5 rfl ?_
      refine bc_ldcSw (tx := "hour") (k := 19) dX10_readStep_6 (by decide) ?_
      refine bc_callS (z := mX10_of) dX10_readStep_9 lX10_223 qX10_of (by rfl) (by rfl) (Nat.le_of_ble_eq_true rfl) (t_of (K := 19) (by decide) (by decide)) (fun r9 μ9 e9 => ?_)
      obtain ⟨rfl, q9⟩ := e9
      obtain rfl := q9.symm
      refine bc_icmp_ne (tgt := 29) dX10_readStep_12 (by decide) (fun h12 => ?_) (fun h12 => absurd h12 (fun q => absurd (hw.symm.trans (w19.mp q)) (by decide)))
      refine bc_iload_n dX10_readStep_29 rfl ?_
      refine bc_ldcSw (tx := "light") (k := 20) dX10_readStep_30 (by decide) ?_
      refine bc_callS (z := mX10_of) dX10_readStep_33 lX10_223 qX10_of (by rfl) (by rfl) (Nat.le_of_ble_eq_true rfl) (t_of (K := 20) (by decide) (by decide)) (fun r33 μ33 e33 => ?_)
      obtain ⟨rfl, q33⟩ := e33
      obtain rfl := q33.symm
      refine bc_icmp_eq (tgt := 49) dX10_readStep_36 (by decide) (fun h36 => absurd h36 (fun q => absurd (hw.symm.trans (w20.mp q)) (by decide))) (fun h36 => ?_)
      refine bc_iload_n dX10_readStep_39 rfl ?_
      refine bc_ldcSw (tx := "quench") (k := 21) dX10_readStep_40 (by decide) ?_
      refine bc_callS (z := mX10_of) dX10_readStep_43 lX10_223 qX10_of (by rfl) (by rfl) (Nat.le_of_ble_eq_true rfl) (t_of (K := 21) (by decide) (by decide)) (fun r43 μ43 e43 => ?_)
      obtain ⟨rfl, q43⟩ := e43
      obtain rfl := q43.symm
      refine bc_icmp_ne (tgt := 87) dX10_readStep_46 (by decide) (fun h46 => absurd h46 (fun q => q (w21.mpr hw))) (fun h46 => ?_)
      refine bc_aload_n dX10_readStep_49 rfl ?_
      refine bc_callV (z := mX10_pass) (ci := 10) dX10_readStep_50 lX10_253 qX10_pass (by rfl) (by rfl) (by rfl) (by rfl) (Nat.le_of_ble_eq_true rfl) (t_pass' hat.1.1 hpn q4) (fun r50 μ50 e50 => ?_)
      obtain ⟨rfl, q50⟩ := e50
      obtain rfl := q50.symm
      refine bc_aload_n dX10_readStep_53 rfl ?_
      refine bc_iload_n dX10_readStep_54 rfl ?_
      refine bc_ldcSw (tx := "light") (k := 20) dX10_readStep_55 (by decide) ?_
      refine bc_callS (z := mX10_of) dX10_readStep_58 lX10_223 qX10_of (by rfl) (by rfl) (Nat.le_of_ble_eq_true rfl) (t_of (K := 20) (by decide) (by decide)) (fun r58 μ58 e58 => ?_)
      obtain ⟨rfl, q58⟩ := e58
      obtain rfl := q58.symm
      refine bc_icmp_ne (tgt := 68) dX10_readStep_61 (by decide) (fun h61 => ?_) (fun h61 => absurd h61 (fun q => absurd (hw.symm.trans (w20.mp q)) (by decide)))
      refine bc_iconst (v := 1) dX10_readStep_68 (by decide) ?_
      refine bc_aload_n dX10_readStep_69 rfl ?_
      refine bc_iconst (v := 0) dX10_readStep_70 (by decide) ?_
      refine bc_aload_n dX10_readStep_71 rfl ?_
      refine bc_geti dX10_readStep_72 fX10_185 (rfl) rfl ?_
      rw [show bc_u μ1 0 4 (nI (ltE t n p)) 0 26 = nI no from e26]
      refine bc_iconst (v := 1) dX10_readStep_75 (by decide) ?_
      refine bc_isub dX10_readStep_76 ?_
      refine bc_callV (z := mX10_readNumber) (ci := 10) dX10_readStep_77 lX10_232 qX10_readNumber (by rfl) (by rfl) (by rfl) (by rfl) (Nat.le_of_ble_eq_true rfl) (t_readNumber (lo := 0) (hi := no) (hv := nI no - 1) hgo.1 (by omega) (by omega) (nIm1 hno)) (fun r77 μ77 e77 => ?_)
      obtain ⟨rfl, f77, s77⟩ := e77
      have g77 := hgo.num f77 s77
      refine bc_iconst (v := 0) dX10_readStep_80 (by decide) ?_
      refine bc_callV (z := mX10_tellsStep) (ci := 10) dX10_readStep_81 lX10_318 qX10_tellsStep (by rfl) (by rfl) (by rfl) (by rfl) (Nat.le_of_ble_eq_true rfl) (t_tells (z := (1, (sNum t n 0 no (.inr (skp t n (ltE t n p)))).2, 0)) g77 (fun p' hp' => by have := (sNum_ok hp').1; obtain ⟨p0, k0, k1, k2⟩ := this; cases k0; omega) rfl rfl rfl) (fun r81 μ81 e81 => ?_)
      obtain ⟨rfl, f81, s81⟩ := e81
      refine bc_goto (tgt := 274) dX10_readStep_84 (by decide) ?_
      refine bc_aload_n dX10_readStep_274 rfl ?_
      refine bc_bipush (v := 59) dX10_readStep_275 (by decide) ?_
      refine bc_callV (z := mX10_sign) (ci := 10) dX10_readStep_277 lX10_259 qX10_sign (by rfl) (by rfl) (by rfl) (by rfl) (Nat.le_of_ble_eq_true rfl) (t_sign (c := 59) s81.1 (by omega) (by omega)) (fun r277 μ277 e277 => ?_)
      obtain ⟨rfl, f277, s277⟩ := e277
      exact bc_return dX10_readStep_280 rfl (⟨rfl, (((hf1.tr (rF.u0 (by omega))).tr f77.rF).tr f81).tr f277.rF, s81.sgn f277 s277⟩)
    · obtain ⟨e, e4, e5, e6⟩ := sW3 (i := 2) hpn hw (by decide) (by decide) (by decide) (by decide) (by decide)
      rw [e]
      have hgo := hat.go e5
      refine bc_aload_n dX10_readStep_0 rfl ?_
      refine bc_callV (z := mX10_word) (ci := 10) dX10_readStep_1 lX10_219 qX10_word (by rfl) (by rfl) (by rfl) (by rfl) (Nat.le_of_ble_eq_true rfl) (t_word h.1) (fun r1 μ1 e1 => ?_)
      obtain ⟨rfl, q1⟩ := e1
      obtain rfl := q1.symm
      rw [← hμ1]
      refine bc_istore_n dX10_readStep_4 (by decide) rfl ?_
      refine bc_iload_n dX10_readStep_5 rfl ?_
      refine bc_ldcSw (tx := "hour") (k := 19) dX10_readStep_6 (by decide) ?_
      refine bc_callS (z := mX10_of) dX10_readStep_9 lX10_223 qX10_of (by rfl) (by rfl) (Nat.le_of_ble_eq_true rfl) (t_of (K := 19) (by decide) (by decide)) (fun r9 μ9 e9 => ?_)
      obtain ⟨rfl, q9⟩ := e9
      obtain rfl := q9.symm
      refine bc_icmp_ne (tgt := 29) dX10_readStep_12 (by decide) (fun h12 => ?_) (fun h12 => absurd h12 (fun q => absurd (hw.symm.trans (w19.mp q)) (by decide)))
      refine bc_iload_n dX10_readStep_29 rfl ?_
      refine bc_ldcSw (tx := "light") (k := 20) dX10_readStep_30 (by decide) ?_
      refine bc_callS (z := mX10_of) dX10_readStep_33 lX10_223 qX10_of (by rfl) (by rfl) (Nat.le_of_ble_eq_true rfl) (t_of (K := 20) (by decide) (by decide)) (fun r33 μ33 e33 => ?_)
      obtain ⟨rfl, q33⟩ := e33
      obtain rfl := q33.symm
      refine bc_icmp_eq (tgt := 49) dX10_readStep_36 (by decide) (fun h36 => absurd h36 (fun q => absurd (hw.symm.trans (w20.mp q)) (by decide))) (fun h36 => ?_)
      refine bc_iload_n dX10_readStep_39 rfl ?_
      refine bc_ldcSw (tx := "quench") (k := 21) dX10_readStep_40 (by decide) ?_
      refine bc_callS (z := mX10_of) dX10_readStep_43 lX10_223 qX10_of (by rfl) (by rfl) (Nat.le_of_ble_eq_true rfl) (t_of (K := 21) (by decide) (by decide)) (fun r43 μ43 e43 => ?_)
      obtain ⟨rfl, q43⟩ := e43
      obtain rfl := q43.symm
      refine bc_icmp_ne (tgt := 87) dX10_readStep_46 (by decide) (fun h46 => ?_) (fun h46 => absurd h46 (fun q => absurd (hw.symm.trans (w21.mp q)) (by decide)))
      refine bc_iload_n dX10_readStep_87 rfl ?_
      refine bc_ldcSw (tx := "onions") (k := 17) dX10_readStep_88 (by decide) ?_
      refine bc_callS (z := mX10_of) dX10_readStep_91 lX10_223 qX10_of (by rfl) (by rfl) (Nat.le_of_ble_eq_true rfl) (t_of (K := 17) (by decide) (by decide)) (fun r91 μ91 e91 => ?_)
      obtain ⟨rfl, q91⟩ := e91
      obtain rfl := q91.symm
      refine bc_icmp_ne (tgt := 129) dX10_readStep_94 (by decide) (fun h94 => absurd h94 (fun q => q (w17.mpr hw))) (fun h94 => ?_)
      refine bc_aload_n dX10_readStep_97 rfl ?_
      refine bc_callV (z := mX10_pass) (ci := 10) dX10_readStep_98 lX10_253 qX10_pass (by rfl) (by rfl) (by rfl) (by rfl) (Nat.le_of_ble_eq_true rfl) (t_pass' hat.1.1 hpn q4) (fun r98 μ98 e98 => ?_)
      obtain ⟨rfl, q98⟩ := e98
      obtain rfl := q98.symm
      refine bc_aload_n dX10_readStep_101 rfl ?_
      refine bc_iconst (v := 0) dX10_readStep_102 (by decide) ?_
      refine bc_aload_n dX10_readStep_103 rfl ?_
      refine bc_geti dX10_readStep_104 fX10_182 (rfl) rfl ?_
      rw [show bc_u μ1 0 4 (nI (ltE t n p)) 0 25 = nI nq from e25]
      refine bc_iconst (v := 1) dX10_readStep_107 (by decide) ?_
      refine bc_isub dX10_readStep_108 ?_
      refine bc_callV (z := mX10_readNumber) (ci := 10) dX10_readStep_109 lX10_232 qX10_readNumber (by rfl) (by rfl) (by rfl) (by rfl) (Nat.le_of_ble_eq_true rfl) (t_readNumber (lo := 0) (hi := nq) (hv := nI nq - 1) hgo.1 (by omega) (by omega) (nIm1 (by omega))) (fun r109 μ109 e109 => ?_)
      obtain ⟨rfl, f109, s109⟩ := e109
      have g109 := hgo.num f109 s109
      refine bc_istore_n dX10_readStep_112 (by decide) rfl ?_
      refine bc_aload_n dX10_readStep_113 rfl ?_
      refine bc_iconst (v := 2) dX10_readStep_114 (by decide) ?_
      refine bc_iload_n dX10_readStep_115 rfl ?_
      refine bc_aload_n dX10_readStep_116 rfl ?_
      refine bc_iconst (v := 0) dX10_readStep_117 (by decide) ?_
      refine bc_bipush (v := 99) dX10_readStep_118 (by decide) ?_
      refine bc_callV (z := mX10_readNumber) (ci := 10) dX10_readStep_120 lX10_232 qX10_readNumber (by rfl) (by rfl) (by rfl) (by rfl) (Nat.le_of_ble_eq_true rfl) (t_readNumber (lo := 0) (hi := 100) (hv := 99) g109.1 (by omega) (by omega) rfl) (fun r120 μ120 e120 => ?_)
      obtain ⟨rfl, f120, s120⟩ := e120
      have g120 := g109.num f120 s120
      refine bc_callV (z := mX10_tellsStep) (ci := 10) dX10_readStep_123 lX10_318 qX10_tellsStep (by rfl) (by rfl) (by rfl) (by rfl) (Nat.le_of_ble_eq_true rfl) (t_tells (z := (2, (sNum t n 0 nq (.inr (skp t n (ltE t n p)))).2, (sNum t n 0 100 (sNum t n 0 nq (.inr (skp t n (ltE t n p)))).1).2)) g120 (fun p' hp' => by obtain ⟨p1, j0, j1, j2⟩ := (sNum_ok hp').1; obtain ⟨p0, k0, k1, k2⟩ := (sNum_ok j0).1; cases k0; omega) rfl rfl rfl) (fun r123 μ123 e123 => ?_)
      obtain ⟨rfl, f123, s123⟩ := e123
      refine bc_goto (tgt := 274) dX10_readStep_126 (by decide) ?_
      refine bc_aload_n dX10_readStep_274 rfl ?_
      refine bc_bipush (v := 59) dX10_readStep_275 (by decide) ?_
      refine bc_callV (z := mX10_sign) (ci := 10) dX10_readStep_277 lX10_259 qX10_sign (by rfl) (by rfl) (by rfl) (by rfl) (Nat.le_of_ble_eq_true rfl) (t_sign (c := 59) s123.1 (by omega) (by omega)) (fun r277 μ277 e277 => ?_)
      obtain ⟨rfl, f277, s277⟩ := e277
      exact bc_return dX10_readStep_280 rfl (⟨rfl, ((((hf1.tr (rF.u0 (by omega))).tr f109.rF).tr f120.rF).tr f123).tr f277.rF, s123.sgn f277 s277⟩)
    · obtain ⟨e, e4, e5, e6⟩ := sW3 (i := 3) hpn hw (by decide) (by decide) (by decide) (by decide) (by decide)
      rw [e]
      have hgo := hat.go e5
      refine bc_aload_n dX10_readStep_0 rfl ?_
      refine bc_callV (z := mX10_word) (ci := 10) dX10_readStep_1 lX10_219 qX10_word (by rfl) (by rfl) (by rfl) (by rfl) (Nat.le_of_ble_eq_true rfl) (t_word h.1) (fun r1 μ1 e1 => ?_)
      obtain ⟨rfl, q1⟩ := e1
      obtain rfl := q1.symm
      rw [← hμ1]
      refine bc_istore_n dX10_readStep_4 (by decide) rfl ?_
      refine bc_iload_n dX10_readStep_5 rfl ?_
      refine bc_ldcSw (tx := "hour") (k := 19) dX10_readStep_6 (by decide) ?_
      refine bc_callS (z := mX10_of) dX10_readStep_9 lX10_223 qX10_of (by rfl) (by rfl) (Nat.le_of_ble_eq_true rfl) (t_of (K := 19) (by decide) (by decide)) (fun r9 μ9 e9 => ?_)
      obtain ⟨rfl, q9⟩ := e9
      obtain rfl := q9.symm
      refine bc_icmp_ne (tgt := 29) dX10_readStep_12 (by decide) (fun h12 => ?_) (fun h12 => absurd h12 (fun q => absurd (hw.symm.trans (w19.mp q)) (by decide)))
      refine bc_iload_n dX10_readStep_29 rfl ?_
      refine bc_ldcSw (tx := "light") (k := 20) dX10_readStep_30 (by decide) ?_
      refine bc_callS (z := mX10_of) dX10_readStep_33 lX10_223 qX10_of (by rfl) (by rfl) (Nat.le_of_ble_eq_true rfl) (t_of (K := 20) (by decide) (by decide)) (fun r33 μ33 e33 => ?_)
      obtain ⟨rfl, q33⟩ := e33
      obtain rfl := q33.symm
      refine bc_icmp_eq (tgt := 49) dX10_readStep_36 (by decide) (fun h36 => absurd h36 (fun q => absurd (hw.symm.trans (w20.mp q)) (by decide))) (fun h36 => ?_)
      refine bc_iload_n dX10_readStep_39 rfl ?_
      refine bc_ldcSw (tx := "quench") (k := 21) dX10_readStep_40 (by decide) ?_
      refine bc_callS (z := mX10_of) dX10_readStep_43 lX10_223 qX10_of (by rfl) (by rfl) (Nat.le_of_ble_eq_true rfl) (t_of (K := 21) (by decide) (by decide)) (fun r43 μ43 e43 => ?_)
      obtain ⟨rfl, q43⟩ := e43
      obtain rfl := q43.symm
      refine bc_icmp_ne (tgt := 87) dX10_readStep_46 (by decide) (fun h46 => ?_) (fun h46 => absurd h46 (fun q => absurd (hw.symm.trans (w21.mp q)) (by decide)))
      refine bc_iload_n dX10_readStep_87 rfl ?_
      refine bc_ldcSw (tx := "onions") (k := 17) dX10_readStep_88 (by decide) ?_
      refine bc_callS (z := mX10_of) dX10_readStep_91 lX10_223 qX10_of (by rfl) (by rfl) (Nat.le_of_ble_eq_true rfl) (t_of (K := 17) (by decide) (by decide)) (fun r91 μ91 e91 => ?_)
      obtain ⟨rfl, q91⟩ := e91
      obtain rfl := q91.symm
      refine bc_icmp_ne (tgt := 129) dX10_readStep_94 (by decide) (fun h94 => ?_) (fun h94 => absurd h94 (fun q => absurd (hw.symm.trans (w17.mp q)) (by decide)))
      refine bc_iload_n dX10_readStep_129 rfl ?_
      refine bc_ldcSw (tx := "cold") (k := 22) dX10_readStep_130 (by decide) ?_
      refine bc_callS (z := mX10_of) dX10_readStep_133 lX10_223 qX10_of (by rfl) (by rfl) (Nat.le_of_ble_eq_true rfl) (t_of (K := 22) (by decide) (by decide)) (fun r133 μ133 e133 => ?_)
      obtain ⟨rfl, q133⟩ := e133
      obtain rfl := q133.symm
      refine bc_icmp_ne (tgt := 163) dX10_readStep_136 (by decide) (fun h136 => absurd h136 (fun q => q (w22.mpr hw))) (fun h136 => ?_)
      refine bc_aload_n dX10_readStep_139 rfl ?_
      refine bc_callV (z := mX10_pass) (ci := 10) dX10_readStep_140 lX10_253 qX10_pass (by rfl) (by rfl) (by rfl) (by rfl) (Nat.le_of_ble_eq_true rfl) (t_pass' hat.1.1 hpn q4) (fun r140 μ140 e140 => ?_)
      obtain ⟨rfl, q140⟩ := e140
      obtain rfl := q140.symm
      refine bc_aload_n dX10_readStep_143 rfl ?_
      refine bc_iconst (v := 3) dX10_readStep_144 (by decide) ?_
      refine bc_aload_n dX10_readStep_145 rfl ?_
      refine bc_iconst (v := 0) dX10_readStep_146 (by decide) ?_
      refine bc_aload_n dX10_readStep_147 rfl ?_
      refine bc_geti dX10_readStep_148 fX10_182 (rfl) rfl ?_
      rw [show bc_u μ1 0 4 (nI (ltE t n p)) 0 25 = nI nq from e25]
      refine bc_iconst (v := 1) dX10_readStep_151 (by decide) ?_
      refine bc_isub dX10_readStep_152 ?_
      refine bc_callV (z := mX10_readNumber) (ci := 10) dX10_readStep_153 lX10_232 qX10_readNumber (by rfl) (by rfl) (by rfl) (by rfl) (Nat.le_of_ble_eq_true rfl) (t_readNumber (lo := 0) (hi := nq) (hv := nI nq - 1) hgo.1 (by omega) (by omega) (nIm1 (by omega))) (fun r153 μ153 e153 => ?_)
      obtain ⟨rfl, f153, s153⟩ := e153
      have g153 := hgo.num f153 s153
      refine bc_iconst (v := 0) dX10_readStep_156 (by decide) ?_
      refine bc_callV (z := mX10_tellsStep) (ci := 10) dX10_readStep_157 lX10_318 qX10_tellsStep (by rfl) (by rfl) (by rfl) (by rfl) (Nat.le_of_ble_eq_true rfl) (t_tells (z := (3, (sNum t n 0 nq (.inr (skp t n (ltE t n p)))).2, 0)) g153 (fun p' hp' => by obtain ⟨p0, k0, k1, k2⟩ := (sNum_ok hp').1; cases k0; omega) rfl rfl rfl) (fun r157 μ157 e157 => ?_)
      obtain ⟨rfl, f157, s157⟩ := e157
      refine bc_goto (tgt := 274) dX10_readStep_160 (by decide) ?_
      refine bc_aload_n dX10_readStep_274 rfl ?_
      refine bc_bipush (v := 59) dX10_readStep_275 (by decide) ?_
      refine bc_callV (z := mX10_sign) (ci := 10) dX10_readStep_277 lX10_259 qX10_sign (by rfl) (by rfl) (by rfl) (by rfl) (Nat.le_of_ble_eq_true rfl) (t_sign (c := 59) s157.1 (by omega) (by omega)) (fun r277 μ277 e277 => ?_)
      obtain ⟨rfl, f277, s277⟩ := e277
      exact bc_return dX10_readStep_280 rfl (⟨rfl, (((hf1.tr (rF.u0 (by omega))).tr f153.rF).tr f157).tr f277.rF, s157.sgn f277 s277⟩)
    · obtain ⟨e, e4, e5, e6⟩ := sW3 (i := 4) hpn hw (by decide) (by decide) (by decide) (by decide) (by decide)
      rw [e]
      have hgo := hat.go e5
      refine bc_aload_n dX10_readStep_0 rfl ?_
      refine bc_callV (z := mX10_word) (ci := 10) dX10_readStep_1 lX10_219 qX10_word (by rfl) (by rfl) (by rfl) (by rfl) (Nat.le_of_ble_eq_true rfl) (t_word h.1) (fun r1 μ1 e1 => ?_)
      obtain ⟨rfl, q1⟩ := e1
      obtain rfl := q1.symm
      rw [← hμ1]
      refine bc_istore_n dX10_readStep_4 (by decide) rfl ?_
      refine bc_iload_n dX10_readStep_5 rfl ?_
      refine bc_ldcSw (tx := "hour") (k := 19) dX10_readStep_6 (by decide) ?_
      refine bc_callS (z := mX10_of) dX10_readStep_9 lX10_223 qX10_of (by rfl) (by rfl) (Nat.le_of_ble_eq_true rfl) (t_of (K := 19) (by decide) (by decide)) (fun r9 μ9 e9 => ?_)
      obtain ⟨rfl, q9⟩ := e9
      obtain rfl := q9.symm
      refine bc_icmp_ne (tgt := 29) dX10_readStep_12 (by decide) (fun h12 => absurd h12 (fun q => q (w19.mpr hw))) (fun h12 => ?_)
      refine bc_aload_n dX10_readStep_15 rfl ?_
      refine bc_callV (z := mX10_pass) (ci := 10) dX10_readStep_16 lX10_253 qX10_pass (by rfl) (by rfl) (by rfl) (by rfl) (Nat.le_of_ble_eq_true rfl) (t_pass' hat.1.1 hpn q4) (fun r16 μ16 e16 => ?_)
      obtain ⟨rfl, q16⟩ := e16
      obtain rfl := q16.symm
      refine bc_aload_n dX10_readStep_19 rfl ?_
      refine bc_iconst (v := 4) dX10_readStep_20 (by decide) ?_
      refine bc_iconst (v := 0) dX10_readStep_21 (by decide) ?_
      refine bc_iconst (v := 0) dX10_readStep_22 (by decide) ?_
      refine bc_callV (z := mX10_tellsStep) (ci := 10) dX10_readStep_23 lX10_318 qX10_tellsStep (by rfl) (by rfl) (by rfl) (by rfl) (Nat.le_of_ble_eq_true rfl) (t_tells (z := (4, 0, 0)) hgo (fun p' hp' => by omega) rfl rfl rfl) (fun r23 μ23 e23 => ?_)
      obtain ⟨rfl, f23, s23⟩ := e23
      refine bc_goto (tgt := 274) dX10_readStep_26 (by decide) ?_
      refine bc_aload_n dX10_readStep_274 rfl ?_
      refine bc_bipush (v := 59) dX10_readStep_275 (by decide) ?_
      refine bc_callV (z := mX10_sign) (ci := 10) dX10_readStep_277 lX10_259 qX10_sign (by rfl) (by rfl) (by rfl) (by rfl) (Nat.le_of_ble_eq_true rfl) (t_sign (c := 59) s23.1 (by omega) (by omega)) (fun r277 μ277 e277 => ?_)
      obtain ⟨rfl, f277, s277⟩ := e277
      exact bc_return dX10_readStep_280 rfl (⟨rfl, ((hf1.tr (rF.u0 (by omega))).tr f23).tr f277.rF, s23.sgn f277 s277⟩)
    · obtain ⟨e, e4, e5, e6⟩ := sW3 (i := 5) hpn hw (by decide) (by decide) (by decide) (by decide) (by decide)
      rw [e]
      have hgo := hat.go e5
      have e5' := wd_len (K := 23) (by decide) (by decide) hpn hw
      have e5' : ltE t n p = p + 5 := e5'
      rcases hO with ⟨rfl, rfl⟩ | ⟨u, rfl, hop, hu, hu3, hU⟩
      · skip
        refine bc_aload_n dX10_readStep_0 rfl ?_
        refine bc_callV (z := mX10_word) (ci := 10) dX10_readStep_1 lX10_219 qX10_word (by rfl) (by rfl) (by rfl) (by rfl) (Nat.le_of_ble_eq_true rfl) (t_word h.1) (fun r1 μ1 e1 => ?_)
        obtain ⟨rfl, q1⟩ := e1
        obtain rfl := q1.symm
        rw [← hμ1]
        refine bc_istore_n dX10_readStep_4 (by decide) rfl ?_
        refine bc_iload_n dX10_readStep_5 rfl ?_
        refine bc_ldcSw (tx := "hour") (k := 19) dX10_readStep_6 (by decide) ?_
        refine bc_callS (z := mX10_of) dX10_readStep_9 lX10_223 qX10_of (by rfl) (by rfl) (Nat.le_of_ble_eq_true rfl) (t_of (K := 19) (by decide) (by decide)) (fun r9 μ9 e9 => ?_)
        obtain ⟨rfl, q9⟩ := e9
        obtain rfl := q9.symm
        refine bc_icmp_ne (tgt := 29) dX10_readStep_12 (by decide) (fun h12 => ?_) (fun h12 => absurd h12 (fun q => absurd (hw.symm.trans (w19.mp q)) (by decide)))
        refine bc_iload_n dX10_readStep_29 rfl ?_
        refine bc_ldcSw (tx := "light") (k := 20) dX10_readStep_30 (by decide) ?_
        refine bc_callS (z := mX10_of) dX10_readStep_33 lX10_223 qX10_of (by rfl) (by rfl) (Nat.le_of_ble_eq_true rfl) (t_of (K := 20) (by decide) (by decide)) (fun r33 μ33 e33 => ?_)
        obtain ⟨rfl, q33⟩ := e33
        obtain rfl := q33.symm
        refine bc_icmp_eq (tgt := 49) dX10_readStep_36 (by decide) (fun h36 => absurd h36 (fun q => absurd (hw.symm.trans (w20.mp q)) (by decide))) (fun h36 => ?_)
        refine bc_iload_n dX10_readStep_39 rfl ?_
        refine bc_ldcSw (tx := "quench") (k := 21) dX10_readStep_40 (by decide) ?_
        refine bc_callS (z := mX10_of) dX10_readStep_43 lX10_223 qX10_of (by rfl) (by rfl) (Nat.le_of_ble_eq_true rfl) (t_of (K := 21) (by decide) (by decide)) (fun r43 μ43 e43 => ?_)
        obtain ⟨rfl, q43⟩ := e43
        obtain rfl := q43.symm
        refine bc_icmp_ne (tgt := 87) dX10_readStep_46 (by decide) (fun h46 => ?_) (fun h46 => absurd h46 (fun q => absurd (hw.symm.trans (w21.mp q)) (by decide)))
        refine bc_iload_n dX10_readStep_87 rfl ?_
        refine bc_ldcSw (tx := "onions") (k := 17) dX10_readStep_88 (by decide) ?_
        refine bc_callS (z := mX10_of) dX10_readStep_91 lX10_223 qX10_of (by rfl) (by rfl) (Nat.le_of_ble_eq_true rfl) (t_of (K := 17) (by decide) (by decide)) (fun r91 μ91 e91 => ?_)
        obtain ⟨rfl, q91⟩ := e91
        obtain rfl := q91.symm
        refine bc_icmp_ne (tgt := 129) dX10_readStep_94 (by decide) (fun h94 => ?_) (fun h94 => absurd h94 (fun q => absurd (hw.symm.trans (w17.mp q)) (by decide)))
        refine bc_iload_n dX10_readStep_129 rfl ?_
        refine bc_ldcSw (tx := "cold") (k := 22) dX10_readStep_130 (by decide) ?_
        refine bc_callS (z := mX10_of) dX10_readStep_133 lX10_223 qX10_of (by rfl) (by rfl) (Nat.le_of_ble_eq_true rfl) (t_of (K := 22) (by decide) (by decide)) (fun r133 μ133 e133 => ?_)
        obtain ⟨rfl, q133⟩ := e133
        obtain rfl := q133.symm
        refine bc_icmp_ne (tgt := 163) dX10_readStep_136 (by decide) (fun h136 => ?_) (fun h136 => absurd h136 (fun q => absurd (hw.symm.trans (w22.mp q)) (by decide)))
        refine bc_iload_n dX10_readStep_163 rfl ?_
        refine bc_ldcSw (tx := "again") (k := 23) dX10_readStep_164 (by decide) ?_
        refine bc_callS (z := mX10_of) dX10_readStep_167 lX10_223 qX10_of (by rfl) (by rfl) (Nat.le_of_ble_eq_true rfl) (t_of (K := 23) (by decide) (by decide)) (fun r167 μ167 e167 => ?_)
        obtain ⟨rfl, q167⟩ := e167
        obtain rfl := q167.symm
        refine bc_icmp_ne (tgt := 265) dX10_readStep_170 (by decide) (fun h170 => absurd h170 (fun q => q (w23.mpr hw))) (fun h170 => ?_)
        refine bc_aload_n dX10_readStep_173 rfl ?_
        refine bc_iconst (v := 5) dX10_readStep_174 (by decide) ?_
        refine bc_callV (z := mX10_opensOne) (ci := 10) dX10_readStep_175 lX10_278 qX10_opensOne (by rfl) (by rfl) (by rfl) (by rfl) (Nat.le_of_ble_eq_true rfl) (w_opensF hat q4) (fun r175 μ175 e175 => ?_)
        obtain ⟨rfl, f175, s175⟩ := e175
        refine bc_aload_n dX10_readStep_178 rfl ?_
        refine bc_iconst (v := 0) dX10_readStep_179 (by decide) ?_
        refine bc_bipush (v := 30) dX10_readStep_180 (by decide) ?_
        refine bc_callV (z := mX10_readNumber) (ci := 10) dX10_readStep_182 lX10_232 qX10_readNumber (by rfl) (by rfl) (by rfl) (by rfl) (Nat.le_of_ble_eq_true rfl) (t_readNumber (lo := 0) (hi := 31) (hv := 30) s175.1 (by omega) (by omega) rfl) (fun r182 μ182 e182 => ?_)
        obtain ⟨rfl, f182, s182⟩ := e182
        have g182 := s175.num f182 s182
        refine bc_istore_n dX10_readStep_185 (by decide) rfl ?_
        refine bc_aload_n dX10_readStep_186 rfl ?_
        refine bc_bipush (v := 91) dX10_readStep_187 (by decide) ?_
        refine bc_callV (z := mX10_sign) (ci := 10) dX10_readStep_189 lX10_259 qX10_sign (by rfl) (by rfl) (by rfl) (by rfl) (Nat.le_of_ble_eq_true rfl) (t_sign (c := 91) g182.1 (by omega) (by omega)) (fun r189 μ189 e189 => ?_)
        obtain ⟨rfl, f189, s189⟩ := e189
        have g189 : wm t n no nq (.inl (3, p)) l 7 μ189 := g182.sgn f189 s189
        refine bc_aload_n dX10_readStep_192 rfl ?_
        refine bc_geti dX10_readStep_193 fX10_315 (rfl) rfl ?_
        refine bc_istore_n dX10_readStep_196 (by decide) rfl ?_
        refine bc_aload_n dX10_readStep_197 rfl ?_
        refine bc_iconst (v := 5) dX10_readStep_198 (by decide) ?_
        refine bc_iload_n dX10_readStep_199 rfl ?_
        refine bc_iconst (v := 0) dX10_readStep_200 (by decide) ?_
        refine bc_callV (z := mX10_tellsStep) (ci := 10) dX10_readStep_201 lX10_318 qX10_tellsStep (by rfl) (by rfl) (by rfl) (by rfl) (Nat.le_of_ble_eq_true rfl) (t_tells (z := (5, 0, 0)) g189 (fun p' hp' => by cases hp') rfl rfl rfl) (fun r201 μ201 e201 => ?_)
        obtain ⟨rfl, f201, s201⟩ := e201
        refine bc_aload_n dX10_readStep_204 rfl ?_
        refine bc_callV (z := mX10_fine) (ci := 10) dX10_readStep_205 lX10_147 qX10_fine (by rfl) (by rfl) (by rfl) (by rfl) (Nat.le_of_ble_eq_true rfl) (t_fineN s201.1) (fun r205 μ205 e205 => ?_)
        obtain ⟨rfl, q205⟩ := e205
        obtain rfl := q205.symm
        refine bc_if_eq (tgt := 227) dX10_readStep_208 (by decide) (fun h208 => ?_) (fun h208 => absurd h208 (fun q => q rfl))
        refine bc_aload_n dX10_readStep_227 rfl ?_
        refine bc_bipush (v := 93) dX10_readStep_228 (by decide) ?_
        refine bc_callV (z := mX10_sign) (ci := 10) dX10_readStep_230 lX10_259 qX10_sign (by rfl) (by rfl) (by rfl) (by rfl) (Nat.le_of_ble_eq_true rfl) (t_sign (c := 93) s201.1 (by omega) (by omega)) (fun r230 μ230 e230 => ?_)
        obtain ⟨rfl, f230, s230⟩ := e230
        have g230 : wm t n no nq (.inl (3, p)) (l ++ [(5, 0, 0)]) 7 μ230 := s201.sgn f230 s230
        refine bc_aload_n dX10_readStep_233 rfl ?_
        refine bc_dup dX10_readStep_234 rfl ?_
        refine bc_geti dX10_readStep_235 fX10_158 (rfl) rfl ?_
        rw [g230.2.1]
        refine bc_iconst (v := 1) dX10_readStep_238 (by decide) ?_
        refine bc_isub dX10_readStep_239 ?_
        refine bc_put dX10_readStep_240 fX10_158 ftX10 fpX10_7 rfl rfl (rfl) rfl ?_
        have g240 := g230.o1 (op := 6)
        refine bc_aload_n dX10_readStep_243 rfl ?_
        refine bc_callV (z := mX10_fine) (ci := 10) dX10_readStep_244 lX10_147 qX10_fine (by rfl) (by rfl) (by rfl) (by rfl) (Nat.le_of_ble_eq_true rfl) (t_fineN g240.1) (fun r244 μ244 e244 => ?_)
        obtain ⟨rfl, q244⟩ := e244
        obtain rfl := q244.symm
        refine bc_if_eq (tgt := 262) dX10_readStep_247 (by decide) (fun h247 => ?_) (fun h247 => absurd h247 (fun q => q rfl))
        refine bc_goto (tgt := 274) dX10_readStep_262 (by decide) ?_
        refine bc_aload_n dX10_readStep_274 rfl ?_
        refine bc_bipush (v := 59) dX10_readStep_275 (by decide) ?_
        refine bc_callV (z := mX10_sign) (ci := 10) dX10_readStep_277 lX10_259 qX10_sign (by rfl) (by rfl) (by rfl) (by rfl) (Nat.le_of_ble_eq_true rfl) (t_sign (c := 59) g240.1 (by omega) (by omega)) (fun r277 μ277 e277 => ?_)
        obtain ⟨rfl, f277, s277⟩ := e277
        exact bc_return dX10_readStep_280 rfl (⟨rfl, ((((((hf1.tr f175).tr f182.rF).tr f189.rF).tr f201).tr f230.rF).tr (rF.u0 (by omega))).tr f277.rF, (g240.sgn f277 s277).inl⟩)
      · show bc_W _ _ _ _ _ _ _ (fun r ν => r = none ∧ rF μ ν ∧ wm t n no nq (sNeed t n (nI 59) (pAgn t n (pSs t n (ovB t n) u 150) (.inr (skp t n (ltE t n p))) l).1) (pAgn t n (pSs t n (ovB t n) u 150) (.inr (skp t n (ltE t n p))) l).2 op ν)
        rw [e5'] at e4 e6 ⊢
        obtain ⟨z2, hz2⟩ : ∃ z2, z2 = (sNum t n 0 31 (.inr (skp t n (p + 5)))).2 := ⟨_, rfl⟩
        have hP : ∀ G, G = pSs t n (ovB t n) u 150 (sNeed t n (nI 91) (sNum t n 0 31 (.inr (skp t n (p + 5)))).1, l ++ [(5, z2, 0)]) → pAgn t n (pSs t n (ovB t n) u 150) (.inr (skp t n (p + 5))) l = (sNeed t n (nI 93) G.1, G.2.set l.length (5, z2, G.2.length)) := fun G hG => by rw [hG, hz2]; rfl
        rw [hP _ rfl]
        have after : ∀ (G : PSt) (ν : bc_M) (v1 v2 : Value), v1.category = 1 → v2.category = 1 → wm t n no nq G.1 G.2 (op + 1) ν → rF μ ν → (∀ q, G.1 = .inr q → 3 * G.2.length ≤ q ∧ q ≤ n ∧ G.2[l.length]? = some (5, z2, 0)) → bc_W (E + 6) LM mX10_readStep 227 [.ref 0, v1, v2, .int (nI (3 * l.length))] [] ν (fun r ν => r = none ∧ rF μ ν ∧ wm t n no nq (sNeed t n (nI 59) (sNeed t n (nI 93) G.1)) (G.2.set l.length (5, z2, G.2.length)) op ν) := by
          intro G ν v1 v2 c1 c2 hs hr hG
          obtain ⟨G1, G2⟩ := G
          have hs : wm t n no nq G1 G2 (op + 1) ν := hs
          have hG : ∀ q, G1 = .inr q → 3 * G2.length ≤ q ∧ q ≤ n ∧ G2[l.length]? = some (5, z2, 0) := hG
          show bc_W _ _ _ _ _ _ _ (fun r ν => r = none ∧ rF μ ν ∧ wm t n no nq (sNeed t n (nI 59) (sNeed t n (nI 93) G1)) (G2.set l.length (5, z2, G2.length)) op ν)
          cases hS : sNeed t n (nI 93) G1 with
          | inl f =>
            refine bc_aload_n dX10_readStep_227 rfl ?_
            refine bc_bipush (v := 93) dX10_readStep_228 (by decide) ?_
            refine bc_callV (z := mX10_sign) (ci := 10) dX10_readStep_230 lX10_259 qX10_sign (by rfl) (by rfl) (by rfl) (by rfl) (Nat.le_of_ble_eq_true rfl) (t_sign (c := 93) hs.1 (by omega) (by omega)) (fun r230 μ230 e230 => ?_)
            obtain ⟨rfl, f230, s230⟩ := e230
            have g230 := hs.sgn f230 s230
            rw [hS] at g230
            refine bc_aload_n dX10_readStep_233 rfl ?_
            refine bc_dup dX10_readStep_234 rfl ?_
            refine bc_geti dX10_readStep_235 fX10_158 (rfl) rfl ?_
            rw [g230.2.1]
            refine bc_iconst (v := 1) dX10_readStep_238 (by decide) ?_
            refine bc_isub dX10_readStep_239 ?_
            refine bc_put dX10_readStep_240 fX10_158 ftX10 fpX10_7 rfl rfl (rfl) rfl ?_
            have g240 := g230.o1
            refine bc_aload_n dX10_readStep_243 rfl ?_
            refine bc_callV (z := mX10_fine) (ci := 10) dX10_readStep_244 lX10_147 qX10_fine (by rfl) (by rfl) (by rfl) (by rfl) (Nat.le_of_ble_eq_true rfl) (t_fineN g240.1) (fun r244 μ244 e244 => ?_)
            obtain ⟨rfl, q244⟩ := e244
            obtain rfl := q244.symm
            refine bc_if_eq (tgt := 262) dX10_readStep_247 (by decide) (fun h247 => ?_) (fun h247 => absurd h247 (fun q => q rfl))
            refine bc_goto (tgt := 274) dX10_readStep_262 (by decide) ?_
            refine bc_aload_n dX10_readStep_274 rfl ?_
            refine bc_bipush (v := 59) dX10_readStep_275 (by decide) ?_
            refine bc_callV (z := mX10_sign) (ci := 10) dX10_readStep_277 lX10_259 qX10_sign (by rfl) (by rfl) (by rfl) (by rfl) (Nat.le_of_ble_eq_true rfl) (t_sign (c := 59) g240.1 (by omega) (by omega)) (fun r277 μ277 e277 => ?_)
            obtain ⟨rfl, f277, s277⟩ := e277
            exact bc_return dX10_readStep_280 rfl (⟨rfl, ((hr.tr f230.rF).tr (rF.u0 (by omega))).tr f277.rF, (g240.sgn f277 s277).inl⟩)
          | inr x =>
            obtain ⟨x0, k0, k1, k2⟩ := sNeed_ok hS
            obtain ⟨j1, j2, j3⟩ := hG x0 k0
            have hlt : l.length < G2.length := (List.getElem?_eq_some_iff.mp j3).1
            refine bc_aload_n dX10_readStep_227 rfl ?_
            refine bc_bipush (v := 93) dX10_readStep_228 (by decide) ?_
            refine bc_callV (z := mX10_sign) (ci := 10) dX10_readStep_230 lX10_259 qX10_sign (by rfl) (by rfl) (by rfl) (by rfl) (Nat.le_of_ble_eq_true rfl) (t_sign (c := 93) hs.1 (by omega) (by omega)) (fun r230 μ230 e230 => ?_)
            obtain ⟨rfl, f230, s230⟩ := e230
            have g230 := hs.sgn f230 s230
            rw [hS] at g230
            refine bc_aload_n dX10_readStep_233 rfl ?_
            refine bc_dup dX10_readStep_234 rfl ?_
            refine bc_geti dX10_readStep_235 fX10_158 (rfl) rfl ?_
            rw [g230.2.1]
            refine bc_iconst (v := 1) dX10_readStep_238 (by decide) ?_
            refine bc_isub dX10_readStep_239 ?_
            refine bc_put dX10_readStep_240 fX10_158 ftX10 fpX10_7 rfl rfl (rfl) rfl ?_
            have g240 := g230.o1
            refine bc_aload_n dX10_readStep_243 rfl ?_
            refine bc_callV (z := mX10_fine) (ci := 10) dX10_readStep_244 lX10_147 qX10_fine (by rfl) (by rfl) (by rfl) (by rfl) (Nat.le_of_ble_eq_true rfl) (t_fineY rfl g240.1) (fun r244 μ244 e244 => ?_)
            obtain ⟨rfl, q244⟩ := e244
            obtain rfl := q244.symm
            refine bc_if_eq (tgt := 262) dX10_readStep_247 (by decide) (fun h247 => absurd h247 (by decide)) (fun h247 => ?_)
            refine bc_aload_n dX10_readStep_250 rfl ?_
            refine bc_getr dX10_readStep_251 fX10_65 (rfl) rfl ?_
            refine bc_iload_n dX10_readStep_254 rfl ?_
            refine bc_iconst (v := 2) dX10_readStep_255 (by decide) ?_
            refine bc_iadd dX10_readStep_256 ?_
            rw [show (2 : Int32) = nI 2 from rfl, bn_add]
            refine bc_aload_n dX10_readStep_257 rfl ?_
            refine bc_geti dX10_readStep_258 fX10_315 (rfl) rfl ?_
            rw [(g240.2.2.2 x rfl).1]
            refine bc_iastE dX10_readStep_261 (rfl) (rfl) (⟨by omega, by decide⟩) ?_
            refine bc_goto (tgt := 274) dX10_readStep_262 (by decide) ?_
            have g261 : wm t n no nq (.inr x) (G2.set l.length (5, z2, G2.length)) op (bc_u (bc_u μ230 0 7 (nI (op + 1) - 1)) 17 (3 * l.length + 2) (nI (3 * G2.length))) := ⟨g240.1.ua (by decide) (by decide), g240.2.1, g240.2.2.1, fun q hq => ⟨by rw [List.length_set]; exact (g240.2.2.2 x rfl).1, by rw [bc_u_at]; exact (g240.2.2.2 x rfl).2.set j3 _⟩⟩
            refine bc_aload_n dX10_readStep_274 rfl ?_
            refine bc_bipush (v := 59) dX10_readStep_275 (by decide) ?_
            refine bc_callV (z := mX10_sign) (ci := 10) dX10_readStep_277 lX10_259 qX10_sign (by rfl) (by rfl) (by rfl) (by rfl) (Nat.le_of_ble_eq_true rfl) (t_sign (c := 59) g261.1 (by omega) (by omega)) (fun r277 μ277 e277 => ?_)
            obtain ⟨rfl, f277, s277⟩ := e277
            exact bc_return dX10_readStep_280 rfl (⟨rfl, (((hr.tr f230.rF).tr (rF.u0 (by omega))).tr (rF.ui (by omega))).tr f277.rF, g261.sgn f277 s277⟩)
        have loop : ∀ (k : Nat) (S : TS) (l' : List PE) (ν : bc_M) (v1 v2 : Value), v1.category = 1 → v2.category = 1 → wm t n no nq S l' (op + 1) ν → rF μ ν → (∀ q, S = .inr q → 3 * l'.length ≤ q ∧ q ≤ n ∧ n < q + k ∧ l'[l.length]? = some (5, z2, 0)) → bc_W (E + 6) LM mX10_readStep 204 [.ref 0, v1, v2, .int (nI (3 * l.length))] [] ν (fun r ν => r = none ∧ rF μ ν ∧ wm t n no nq (sNeed t n (nI 59) (sNeed t n (nI 93) (pSs t n (ovB t n) u k (S, l')).1)) ((pSs t n (ovB t n) u k (S, l')).2.set l.length (5, z2, (pSs t n (ovB t n) u k (S, l')).2.length)) op ν) := by
          intro k
          induction k with
          | zero =>
            intro S l' ν v1 v2 c1 c2 hs hr hG
            cases S with
            | inl f =>
              refine bc_aload_n dX10_readStep_204 rfl ?_
              refine bc_callV (z := mX10_fine) (ci := 10) dX10_readStep_205 lX10_147 qX10_fine (by rfl) (by rfl) (by rfl) (by rfl) (Nat.le_of_ble_eq_true rfl) (t_fineN hs.1) (fun r205 μ205 e205 => ?_)
              obtain ⟨rfl, q205⟩ := e205
              obtain rfl := q205.symm
              refine bc_if_eq (tgt := 227) dX10_readStep_208 (by decide) (fun h208 => ?_) (fun h208 => absurd h208 (fun q => q rfl))
              exact after (.inl f, l') ν _ _ c1 c2 hs hr (fun q hq => by cases hq)
            | inr q => have := hG q rfl; omega
          | succ k ih =>
            intro S l' ν v1 v2 c1 c2 hs hr hG
            cases S with
            | inl f =>
              refine bc_aload_n dX10_readStep_204 rfl ?_
              refine bc_callV (z := mX10_fine) (ci := 10) dX10_readStep_205 lX10_147 qX10_fine (by rfl) (by rfl) (by rfl) (by rfl) (Nat.le_of_ble_eq_true rfl) (t_fineN hs.1) (fun r205 μ205 e205 => ?_)
              obtain ⟨rfl, q205⟩ := e205
              obtain rfl := q205.symm
              refine bc_if_eq (tgt := 227) dX10_readStep_208 (by decide) (fun h208 => ?_) (fun h208 => absurd h208 (fun q => q rfl))
              exact after (.inl f, l') ν _ _ c1 c2 hs hr (fun q hq => by cases hq)
            | inr q =>
              obtain ⟨j1, j2, j3, j4⟩ := hG q rfl
              have x93 := hx_eq (p := q) hs.1.1.2.2 (c := 93) (by omega) (by omega)
              by_cases h93 : q < n ∧ t q = nI 93
              · have hE : pSs t n (ovB t n) u (k + 1) (.inr q, l') = (.inr q, l') := by rw [pSs, if_pos (show ovB t n q = true from decide_eq_true h93)]
                rw [hE]
                refine bc_aload_n dX10_readStep_204 rfl ?_
                refine bc_callV (z := mX10_fine) (ci := 10) dX10_readStep_205 lX10_147 qX10_fine (by rfl) (by rfl) (by rfl) (by rfl) (Nat.le_of_ble_eq_true rfl) (t_fineY rfl hs.1) (fun r205 μ205 e205 => ?_)
                obtain ⟨rfl, q205⟩ := e205
                obtain rfl := q205.symm
                refine bc_if_eq (tgt := 227) dX10_readStep_208 (by decide) (fun h208 => absurd h208 (by decide)) (fun h208 => ?_)
                refine bc_aload_n dX10_readStep_211 rfl ?_
                refine bc_callV (z := mX10_here) (ci := 10) dX10_readStep_212 lX10_130 qX10_here (by rfl) (by rfl) (by rfl) (by rfl) (Nat.le_of_ble_eq_true rfl) (t_here hs.1) (fun r212 μ212 e212 => ?_)
                obtain ⟨rfl, q212⟩ := e212
                obtain rfl := q212.symm
                rw [x93.mpr h93]
                refine bc_bipush (v := 93) dX10_readStep_215 (by decide) ?_
                refine bc_icmp_eq (tgt := 227) dX10_readStep_217 (by decide) (fun h217 => ?_) (fun h217 => absurd h217 (fun q => q rfl))
                exact after (.inr q, l') _ _ _ c1 c2 hs.at' (hr.tr (rF.u0 (by omega))) (fun q' hq' => by cases hq'; exact ⟨j1, j2, j4⟩)
              · have hE : pSs t n (ovB t n) u (k + 1) (.inr q, l') = pSs t n (ovB t n) u k (sNeed t n (nI 59) (u (.inr q, l')).1, (u (.inr q, l')).2) := by
                  rw [pSs, if_neg (show ¬ ovB t n q = true from fun z => h93 (of_decide_eq_true z))]
                  rfl
                rw [hE]
                refine bc_aload_n dX10_readStep_204 rfl ?_
                refine bc_callV (z := mX10_fine) (ci := 10) dX10_readStep_205 lX10_147 qX10_fine (by rfl) (by rfl) (by rfl) (by rfl) (Nat.le_of_ble_eq_true rfl) (t_fineY rfl hs.1) (fun r205 μ205 e205 => ?_)
                obtain ⟨rfl, q205⟩ := e205
                obtain rfl := q205.symm
                refine bc_if_eq (tgt := 227) dX10_readStep_208 (by decide) (fun h208 => absurd h208 (by decide)) (fun h208 => ?_)
                refine bc_aload_n dX10_readStep_211 rfl ?_
                refine bc_callV (z := mX10_here) (ci := 10) dX10_readStep_212 lX10_130 qX10_here (by rfl) (by rfl) (by rfl) (by rfl) (Nat.le_of_ble_eq_true rfl) (t_here hs.1) (fun r212 μ212 e212 => ?_)
                obtain ⟨rfl, q212⟩ := e212
                obtain rfl := q212.symm
                refine bc_bipush (v := 93) dX10_readStep_215 (by decide) ?_
                refine bc_icmp_eq (tgt := 227) dX10_readStep_217 (by decide) (fun h217 => absurd h217 (fun z => h93 (x93.mp z))) (fun h217 => ?_)
                refine bc_aload_n dX10_readStep_220 rfl ?_
                refine bc_callV (z := mX10_readStep) (ci := 10) dX10_readStep_221 lX10_330 qX10_readStep (by rfl) (by rfl) (by rfl) (by rfl) (Nat.le_of_ble_eq_true rfl) (hU _ q l' hs.at' j1) (fun r221 μ221 e221 => ?_)
                obtain ⟨rfl, f221, s221⟩ := e221
                refine bc_goto (tgt := 204) dX10_readStep_224 (by decide) ?_
                refine ih _ _ _ _ _ c1 c2 s221 ((hr.tr (rF.u0 (by omega))).tr f221) (fun q' hq' => ?_)
                obtain ⟨q0, k0, k1, k2⟩ := sNeed_ok hq'
                obtain ⟨q1, ex, m1, m2, m3, m4, m5, -⟩ := hu.2 (.inr q) l' q0 (fun z hz => by cases hz; exact j2) k0
                cases m1
                have m6 := hu3 q l' q0 j2 j1 k0
                refine ⟨by omega, k2, by omega, ?_⟩
                rw [m2, List.getElem?_append_left (List.getElem?_eq_some_iff.mp j4).1]
                exact j4
        have fin : ∀ (Z : TS) (ν : bc_M) (v1 v3 : Value), v1.category = 1 → v3.category = 1 → Z = sNeed t n (nI 91) (sNum t n 0 31 (.inr (skp t n (p + 5)))).1 → wm t n no nq Z l (op + 1) ν → rF μ ν → bc_W (E + 6) LM mX10_readStep 192 [.ref 0, v1, .int (nI z2), v3] [] ν (fun r ν => r = none ∧ rF μ ν ∧ wm t n no nq (sNeed t n (nI 59) (sNeed t n (nI 93) (pSs t n (ovB t n) u 150 (Z, l ++ [(5, z2, 0)])).1)) ((pSs t n (ovB t n) u 150 (Z, l ++ [(5, z2, 0)])).2.set l.length (5, z2, (pSs t n (ovB t n) u 150 (Z, l ++ [(5, z2, 0)])).2.length)) op ν) := by
          intro Z ν v1 v3 c1 c3 hZ hs hr
          cases Z with
          | inl f =>
            rw [pSs_inl]
            refine bc_aload_n dX10_readStep_192 rfl ?_
            refine bc_geti dX10_readStep_193 fX10_315 (rfl) rfl ?_
            refine bc_istore_n dX10_readStep_196 (by decide) rfl ?_
            refine bc_aload_n dX10_readStep_197 rfl ?_
            refine bc_iconst (v := 5) dX10_readStep_198 (by decide) ?_
            refine bc_iload_n dX10_readStep_199 rfl ?_
            refine bc_iconst (v := 0) dX10_readStep_200 (by decide) ?_
            refine bc_callV (z := mX10_tellsStep) (ci := 10) dX10_readStep_201 lX10_318 qX10_tellsStep (by rfl) (by rfl) (by rfl) (by rfl) (Nat.le_of_ble_eq_true rfl) (t_tells (z := (5, z2, 0)) hs (fun p' hp' => by cases hp') rfl rfl rfl) (fun r201 μ201 e201 => ?_)
            obtain ⟨rfl, f201, s201⟩ := e201
            refine bc_aload_n dX10_readStep_204 rfl ?_
            refine bc_callV (z := mX10_fine) (ci := 10) dX10_readStep_205 lX10_147 qX10_fine (by rfl) (by rfl) (by rfl) (by rfl) (Nat.le_of_ble_eq_true rfl) (t_fineN s201.1) (fun r205 μ205 e205 => ?_)
            obtain ⟨rfl, q205⟩ := e205
            obtain rfl := q205.symm
            refine bc_if_eq (tgt := 227) dX10_readStep_208 (by decide) (fun h208 => ?_) (fun h208 => absurd h208 (fun q => q rfl))
            refine bc_aload_n dX10_readStep_227 rfl ?_
            refine bc_bipush (v := 93) dX10_readStep_228 (by decide) ?_
            refine bc_callV (z := mX10_sign) (ci := 10) dX10_readStep_230 lX10_259 qX10_sign (by rfl) (by rfl) (by rfl) (by rfl) (Nat.le_of_ble_eq_true rfl) (t_sign (c := 93) s201.1 (by omega) (by omega)) (fun r230 μ230 e230 => ?_)
            obtain ⟨rfl, f230, s230⟩ := e230
            have g230 : wm t n no nq (.inl f) (l ++ [(5, z2, 0)]) (op + 1) μ230 := s201.sgn f230 s230
            refine bc_aload_n dX10_readStep_233 rfl ?_
            refine bc_dup dX10_readStep_234 rfl ?_
            refine bc_geti dX10_readStep_235 fX10_158 (rfl) rfl ?_
            rw [g230.2.1]
            refine bc_iconst (v := 1) dX10_readStep_238 (by decide) ?_
            refine bc_isub dX10_readStep_239 ?_
            refine bc_put dX10_readStep_240 fX10_158 ftX10 fpX10_7 rfl rfl (rfl) rfl ?_
            have g240 := g230.o1
            refine bc_aload_n dX10_readStep_243 rfl ?_
            refine bc_callV (z := mX10_fine) (ci := 10) dX10_readStep_244 lX10_147 qX10_fine (by rfl) (by rfl) (by rfl) (by rfl) (Nat.le_of_ble_eq_true rfl) (t_fineN g240.1) (fun r244 μ244 e244 => ?_)
            obtain ⟨rfl, q244⟩ := e244
            obtain rfl := q244.symm
            refine bc_if_eq (tgt := 262) dX10_readStep_247 (by decide) (fun h247 => ?_) (fun h247 => absurd h247 (fun q => q rfl))
            refine bc_goto (tgt := 274) dX10_readStep_262 (by decide) ?_
            refine bc_aload_n dX10_readStep_274 rfl ?_
            refine bc_bipush (v := 59) dX10_readStep_275 (by decide) ?_
            refine bc_callV (z := mX10_sign) (ci := 10) dX10_readStep_277 lX10_259 qX10_sign (by rfl) (by rfl) (by rfl) (by rfl) (Nat.le_of_ble_eq_true rfl) (t_sign (c := 59) g240.1 (by omega) (by omega)) (fun r277 μ277 e277 => ?_)
            obtain ⟨rfl, f277, s277⟩ := e277
            exact bc_return dX10_readStep_280 rfl (⟨rfl, (((hr.tr f201).tr f230.rF).tr (rF.u0 (by omega))).tr f277.rF, (g240.sgn f277 s277).inl⟩)
          | inr x =>
            obtain ⟨x0, k0, k1, k2⟩ := sNeed_ok hZ.symm
            obtain ⟨⟨x1, y1, k3, k4⟩, -⟩ := sNum_ok k0
            cases y1
            refine bc_aload_n dX10_readStep_192 rfl ?_
            refine bc_geti dX10_readStep_193 fX10_315 (rfl) rfl ?_
            rw [(hs.2.2.2 x rfl).1]
            refine bc_istore_n dX10_readStep_196 (by decide) rfl ?_
            refine bc_aload_n dX10_readStep_197 rfl ?_
            refine bc_iconst (v := 5) dX10_readStep_198 (by decide) ?_
            refine bc_iload_n dX10_readStep_199 rfl ?_
            refine bc_iconst (v := 0) dX10_readStep_200 (by decide) ?_
            refine bc_callV (z := mX10_tellsStep) (ci := 10) dX10_readStep_201 lX10_318 qX10_tellsStep (by rfl) (by rfl) (by rfl) (by rfl) (Nat.le_of_ble_eq_true rfl) (t_tells (z := (5, z2, 0)) hs (fun p' hp' => by omega) rfl rfl rfl) (fun r201 μ201 e201 => ?_)
            obtain ⟨rfl, f201, s201⟩ := e201
            exact loop 150 (.inr x) _ _ _ _ c1 rfl s201 (hr.tr f201) (fun q hq => by cases hq; rw [List.length_append, List.length_singleton]; exact ⟨by omega, by omega, by omega, by rw [List.getElem?_append_right (Nat.le_refl _)]; simp⟩)
        refine bc_aload_n dX10_readStep_0 rfl ?_
        refine bc_callV (z := mX10_word) (ci := 10) dX10_readStep_1 lX10_219 qX10_word (by rfl) (by rfl) (by rfl) (by rfl) (Nat.le_of_ble_eq_true rfl) (t_word h.1) (fun r1 μ1 e1 => ?_)
        obtain ⟨rfl, q1⟩ := e1
        obtain rfl := q1.symm
        rw [← hμ1]
        refine bc_istore_n dX10_readStep_4 (by decide) rfl ?_
        refine bc_iload_n dX10_readStep_5 rfl ?_
        refine bc_ldcSw (tx := "hour") (k := 19) dX10_readStep_6 (by decide) ?_
        refine bc_callS (z := mX10_of) dX10_readStep_9 lX10_223 qX10_of (by rfl) (by rfl) (Nat.le_of_ble_eq_true rfl) (t_of (K := 19) (by decide) (by decide)) (fun r9 μ9 e9 => ?_)
        obtain ⟨rfl, q9⟩ := e9
        obtain rfl := q9.symm
        refine bc_icmp_ne (tgt := 29) dX10_readStep_12 (by decide) (fun h12 => ?_) (fun h12 => absurd h12 (fun q => absurd (hw.symm.trans (w19.mp q)) (by decide)))
        refine bc_iload_n dX10_readStep_29 rfl ?_
        refine bc_ldcSw (tx := "light") (k := 20) dX10_readStep_30 (by decide) ?_
        refine bc_callS (z := mX10_of) dX10_readStep_33 lX10_223 qX10_of (by rfl) (by rfl) (Nat.le_of_ble_eq_true rfl) (t_of (K := 20) (by decide) (by decide)) (fun r33 μ33 e33 => ?_)
        obtain ⟨rfl, q33⟩ := e33
        obtain rfl := q33.symm
        refine bc_icmp_eq (tgt := 49) dX10_readStep_36 (by decide) (fun h36 => absurd h36 (fun q => absurd (hw.symm.trans (w20.mp q)) (by decide))) (fun h36 => ?_)
        refine bc_iload_n dX10_readStep_39 rfl ?_
        refine bc_ldcSw (tx := "quench") (k := 21) dX10_readStep_40 (by decide) ?_
        refine bc_callS (z := mX10_of) dX10_readStep_43 lX10_223 qX10_of (by rfl) (by rfl) (Nat.le_of_ble_eq_true rfl) (t_of (K := 21) (by decide) (by decide)) (fun r43 μ43 e43 => ?_)
        obtain ⟨rfl, q43⟩ := e43
        obtain rfl := q43.symm
        refine bc_icmp_ne (tgt := 87) dX10_readStep_46 (by decide) (fun h46 => ?_) (fun h46 => absurd h46 (fun q => absurd (hw.symm.trans (w21.mp q)) (by decide)))
        refine bc_iload_n dX10_readStep_87 rfl ?_
        refine bc_ldcSw (tx := "onions") (k := 17) dX10_readStep_88 (by decide) ?_
        refine bc_callS (z := mX10_of) dX10_readStep_91 lX10_223 qX10_of (by rfl) (by rfl) (Nat.le_of_ble_eq_true rfl) (t_of (K := 17) (by decide) (by decide)) (fun r91 μ91 e91 => ?_)
        obtain ⟨rfl, q91⟩ := e91
        obtain rfl := q91.symm
        refine bc_icmp_ne (tgt := 129) dX10_readStep_94 (by decide) (fun h94 => ?_) (fun h94 => absurd h94 (fun q => absurd (hw.symm.trans (w17.mp q)) (by decide)))
        refine bc_iload_n dX10_readStep_129 rfl ?_
        refine bc_ldcSw (tx := "cold") (k := 22) dX10_readStep_130 (by decide) ?_
        refine bc_callS (z := mX10_of) dX10_readStep_133 lX10_223 qX10_of (by rfl) (by rfl) (Nat.le_of_ble_eq_true rfl) (t_of (K := 22) (by decide) (by decide)) (fun r133 μ133 e133 => ?_)
        obtain ⟨rfl, q133⟩ := e133
        obtain rfl := q133.symm
        refine bc_icmp_ne (tgt := 163) dX10_readStep_136 (by decide) (fun h136 => ?_) (fun h136 => absurd h136 (fun q => absurd (hw.symm.trans (w22.mp q)) (by decide)))
        refine bc_iload_n dX10_readStep_163 rfl ?_
        refine bc_ldcSw (tx := "again") (k := 23) dX10_readStep_164 (by decide) ?_
        refine bc_callS (z := mX10_of) dX10_readStep_167 lX10_223 qX10_of (by rfl) (by rfl) (Nat.le_of_ble_eq_true rfl) (t_of (K := 23) (by decide) (by decide)) (fun r167 μ167 e167 => ?_)
        obtain ⟨rfl, q167⟩ := e167
        obtain rfl := q167.symm
        refine bc_icmp_ne (tgt := 265) dX10_readStep_170 (by decide) (fun h170 => absurd h170 (fun q => q (w23.mpr hw))) (fun h170 => ?_)
        refine bc_aload_n dX10_readStep_173 rfl ?_
        refine bc_iconst (v := 5) dX10_readStep_174 (by decide) ?_
        refine bc_callV (z := mX10_opensOne) (ci := 10) dX10_readStep_175 lX10_278 qX10_opensOne (by rfl) (by rfl) (by rfl) (by rfl) (Nat.le_of_ble_eq_true rfl) (w_opensY (b := 5) hop hat q4 (by omega)) (fun r175 μ175 e175 => ?_)
        obtain ⟨rfl, f175, s175⟩ := e175
        refine bc_aload_n dX10_readStep_178 rfl ?_
        refine bc_iconst (v := 0) dX10_readStep_179 (by decide) ?_
        refine bc_bipush (v := 30) dX10_readStep_180 (by decide) ?_
        refine bc_callV (z := mX10_readNumber) (ci := 10) dX10_readStep_182 lX10_232 qX10_readNumber (by rfl) (by rfl) (by rfl) (by rfl) (Nat.le_of_ble_eq_true rfl) (t_readNumber (lo := 0) (hi := 31) (hv := 30) s175.1 (by omega) (by omega) rfl) (fun r182 μ182 e182 => ?_)
        obtain ⟨rfl, f182, s182⟩ := e182
        have g182 := s175.num f182 s182
        rw [← hz2]
        refine bc_istore_n dX10_readStep_185 (by decide) rfl ?_
        refine bc_aload_n dX10_readStep_186 rfl ?_
        refine bc_bipush (v := 91) dX10_readStep_187 (by decide) ?_
        refine bc_callV (z := mX10_sign) (ci := 10) dX10_readStep_189 lX10_259 qX10_sign (by rfl) (by rfl) (by rfl) (by rfl) (Nat.le_of_ble_eq_true rfl) (t_sign (c := 91) g182.1 (by omega) (by omega)) (fun r189 μ189 e189 => ?_)
        obtain ⟨rfl, f189, s189⟩ := e189
        exact fin _ _ _ _ rfl rfl rfl (g182.sgn f189 s189) (((hf1.tr f175).tr f182.rF).tr f189.rF)
  · rw [sW3n hf]
    have nw : ∀ K, (bw 3).idxOf (bc_byt.getD K []) < (bw 3).length → ¬ wd t n p = bc_byt.getD K [] := fun K a b => hf (by rw [b]; exact a)
    refine bc_aload_n dX10_readStep_0 rfl ?_
    refine bc_callV (z := mX10_word) (ci := 10) dX10_readStep_1 lX10_219 qX10_word (by rfl) (by rfl) (by rfl) (by rfl) (Nat.le_of_ble_eq_true rfl) (t_word h.1) (fun r1 μ1 e1 => ?_)
    obtain ⟨rfl, q1⟩ := e1
    obtain rfl := q1.symm
    rw [← hμ1]
    refine bc_istore_n dX10_readStep_4 (by decide) rfl ?_
    refine bc_iload_n dX10_readStep_5 rfl ?_
    refine bc_ldcSw (tx := "hour") (k := 19) dX10_readStep_6 (by decide) ?_
    refine bc_callS (z := mX10_of) dX10_readStep_9 lX10_223 qX10_of (by rfl) (by rfl) (Nat.le_of_ble_eq_true rfl) (t_of (K := 19) (by decide) (by decide)) (fun r9 μ9 e9 => ?_)
    obtain ⟨rfl, q9⟩ := e9
    obtain rfl := q9.symm
    refine bc_icmp_ne (tgt := 29) dX10_readStep_12 (by decide) (fun h12 => ?_) (fun h12 => absurd h12 (fun q => nw 19 (by decide) (w19.mp q)))
    refine bc_iload_n dX10_readStep_29 rfl ?_
    refine bc_ldcSw (tx := "light") (k := 20) dX10_readStep_30 (by decide) ?_
    refine bc_callS (z := mX10_of) dX10_readStep_33 lX10_223 qX10_of (by rfl) (by rfl) (Nat.le_of_ble_eq_true rfl) (t_of (K := 20) (by decide) (by decide)) (fun r33 μ33 e33 => ?_)
    obtain ⟨rfl, q33⟩ := e33
    obtain rfl := q33.symm
    refine bc_icmp_eq (tgt := 49) dX10_readStep_36 (by decide) (fun h36 => absurd h36 (fun q => nw 20 (by decide) (w20.mp q))) (fun h36 => ?_)
    refine bc_iload_n dX10_readStep_39 rfl ?_
    refine bc_ldcSw (tx := "quench") (k := 21) dX10_readStep_40 (by decide) ?_
    refine bc_callS (z := mX10_of) dX10_readStep_43 lX10_223 qX10_of (by rfl) (by rfl) (Nat.le_of_ble_eq_true rfl) (t_of (K := 21) (by decide) (by decide)) (fun r43 μ43 e43 => ?_)
    obtain ⟨rfl, q43⟩ := e43
    obtain rfl := q43.symm
    refine bc_icmp_ne (tgt := 87) dX10_readStep_46 (by decide) (fun h46 => ?_) (fun h46 => absurd h46 (fun q => nw 21 (by decide) (w21.mp q)))
    refine bc_iload_n dX10_readStep_87 rfl ?_
    refine bc_ldcSw (tx := "onions") (k := 17) dX10_readStep_88 (by decide) ?_
    refine bc_callS (z := mX10_of) dX10_readStep_91 lX10_223 qX10_of (by rfl) (by rfl) (Nat.le_of_ble_eq_true rfl) (t_of (K := 17) (by decide) (by decide)) (fun r91 μ91 e91 => ?_)
    obtain ⟨rfl, q91⟩ := e91
    obtain rfl := q91.symm
    refine bc_icmp_ne (tgt := 129) dX10_readStep_94 (by decide) (fun h94 => ?_) (fun h94 => absurd h94 (fun q => nw 17 (by decide) (w17.mp q)))
    refine bc_iload_n dX10_readStep_129 rfl ?_
    refine bc_ldcSw (tx := "cold") (k := 22) dX10_readStep_130 (by decide) ?_
    refine bc_callS (z := mX10_of) dX10_readStep_133 lX10_223 qX10_of (by rfl) (by rfl) (Nat.le_of_ble_eq_true rfl) (t_of (K := 22) (by decide) (by decide)) (fun r133 μ133 e133 => ?_)
    obtain ⟨rfl, q133⟩ := e133
    obtain rfl := q133.symm
    refine bc_icmp_ne (tgt := 163) dX10_readStep_136 (by decide) (fun h136 => ?_) (fun h136 => absurd h136 (fun q => nw 22 (by decide) (w22.mp q)))
    refine bc_iload_n dX10_readStep_163 rfl ?_
    refine bc_ldcSw (tx := "again") (k := 23) dX10_readStep_164 (by decide) ?_
    refine bc_callS (z := mX10_of) dX10_readStep_167 lX10_223 qX10_of (by rfl) (by rfl) (Nat.le_of_ble_eq_true rfl) (t_of (K := 23) (by decide) (by decide)) (fun r167 μ167 e167 => ?_)
    obtain ⟨rfl, q167⟩ := e167
    obtain rfl := q167.symm
    refine bc_icmp_ne (tgt := 265) dX10_readStep_170 (by decide) (fun h170 => ?_) (fun h170 => absurd h170 (fun q => nw 23 (by decide) (w23.mp q)))
    refine bc_aload_n dX10_readStep_265 rfl ?_
    refine bc_iconst (v := 1) dX10_readStep_266 (by decide) ?_
    refine bc_aload_n dX10_readStep_267 rfl ?_
    refine bc_geti dX10_readStep_268 fX10_124 (rfl) rfl ?_
    rw [q4]
    refine bc_callV (z := mX10_wrong) (ci := 10) dX10_readStep_271 lX10_154 qX10_wrong (by rfl) (by rfl) (by rfl) (by rfl) (Nat.le_of_ble_eq_true rfl) (t_wrongY (k := 1) hat.1 hpn) (fun r271 μ271 e271 => ?_)
    obtain ⟨rfl, f271, s271, -⟩ := e271
    have g271 := hat.mv f271 s271 (fun p' hp' => by cases hp')
    refine bc_aload_n dX10_readStep_274 rfl ?_
    refine bc_bipush (v := 59) dX10_readStep_275 (by decide) ?_
    refine bc_callV (z := mX10_sign) (ci := 10) dX10_readStep_277 lX10_259 qX10_sign (by rfl) (by rfl) (by rfl) (by rfl) (Nat.le_of_ble_eq_true rfl) (t_sign (c := 59) g271.1 (by omega) (by omega)) (fun r277 μ277 e277 => ?_)
    obtain ⟨rfl, f277, s277⟩ := e277
    exact bc_return dX10_readStep_280 rfl (⟨rfl, (hf1.tr f271.rF).tr f277.rF, (g271.sgn f277 s277).inl⟩)
end T80
