/-! BreadCity$Plan reads a step, steps, all -/
section RDP
variable {d : Nat} {μ μ0 : bc_M} {n a k no nq : Nat} {f q : Int32}
theorem sWrd3 {t : Nat → Int32} {p : Nat} : ((sWrd t n (bw 3) (.inr p)).2 < 6 ∧ wV (bw 3) (wd t n p) = nI (sWrd t n (bw 3) (.inr p)).2 ∧ (sWrd t n (bw 3) (.inr p)).1 = .inr (skp t n (ltE t n p))) ∨ ((sWrd t n (bw 3) (.inr p)).2 = 99 ∧ wV (bw 3) (wd t n p) = -1) := by
  unfold sWrd wV
  by_cases h : (bw 3).idxOf (wd t n p) < (bw 3).length
  · simp only [if_pos h]
    exact .inl ⟨h, trivial, trivial⟩
  · simp only [if_neg h]
    exact .inr ⟨trivial, trivial⟩
theorem s_readStep {o dep : Nat} {nest : Option (PSt → PSt)} (hn : n ≤ 150) (h2 : μ0 1 2 = nI n) (hno : μ0 3 1 = nI no) (hno8 : no ≤ 8) (hnq : μ0 3 0 = nI nq) (hnq6 : nq ≤ 6) (hO : (nest = none ∧ o = 6) ∨ (∃ g, nest = some g ∧ o < 6 ∧ goodP n no nq dep 0 g ∧ Wok n μ0 (d + 7) mX5_readSteps [.ref 24, .ref 1, .ref 3, .int (nI (o + 1))] g)) : Wok1 n μ0 (d + 9) mX5_readStep [.ref 24, .ref 1, .ref 3, .int (nI o)] (pSt (μ0 2) n no nq nest) := by
  intro μ p l h0 hlp hpn
  obtain ⟨μ', a', k', f', q', rfl, e1, e2, e3, e4, e5⟩ := wS_n h0 h2
  have ha := tq_le e2
  obtain ⟨rfl, b1, b2, b3⟩ := id e2
  have hR := e3 a' rfl
  refine bc_enter (by decide) (Nat.le_of_ble_eq_true rfl) rfl ?_
  simp only [pSt]
  rcases sWrd3 (n := n) (t := μ0 2) (p := a') with ⟨hw6, hwv, hw1⟩ | ⟨hw99, hwv⟩
  · obtain ⟨hx1, hx2, -, -, -⟩ := sWrd_ok bw3_ne hw1 ha
    have hcs : (sWrd (μ0 2) n (bw 3) (.inr a')).2 = 0 ∨ (sWrd (μ0 2) n (bw 3) (.inr a')).2 = 1 ∨ (sWrd (μ0 2) n (bw 3) (.inr a')).2 = 2 ∨ (sWrd (μ0 2) n (bw 3) (.inr a')).2 = 3 ∨ (sWrd (μ0 2) n (bw 3) (.inr a')).2 = 4 ∨ (sWrd (μ0 2) n (bw 3) (.inr a')).2 = 5 := by omega
    have hw : ∀ (a1 : Nat) (f1 q1 : Int32), tq n (.inr (skp (μ0 2) n (ltE (μ0 2) n a'))) a1 f1 q1 → wS n μ0 (.inr (skp (μ0 2) n (ltE (μ0 2) n a'))) l (tx μ' a1 a' f1 q1) := fun a1 f1 q1 t => ⟨μ', a1, a', f1, q1, rfl, e1, t, fun _ _ => hR⟩
    have go : ∀ (a1 : Nat) (f1 q1 : Int32), tq n (.inr (skp (μ0 2) n (ltE (μ0 2) n a'))) a1 f1 q1 → bc_W (d + 9) LC mX5_readStep 8 [.ref 24, .ref 1, .ref 3, .int (nI o), .int (nI (sWrd (μ0 2) n (bw 3) (.inr a')).2)] [] (tx μ' a1 a' f1 q1) (fun r ν => r = none ∧ wS n μ0 (pStW (μ0 2) n no nq nest a' (sWrd (μ0 2) n (bw 3) (.inr a')).2 (.inr (skp (μ0 2) n (ltE (μ0 2) n a'))) l).1 (pStW (μ0 2) n no nq nest a' (sWrd (μ0 2) n (bw 3) (.inr a')).2 (.inr (skp (μ0 2) n (ltE (μ0 2) n a'))) l).2 ν) := by
      intro a1 f1 q1 t1
      have hb1 : (tx μ' a1 a' f1 q1) 3 1 = nI no := by rw [tx_i _ _ _ _ _ (by decide), e1.1 3 (by decide) (by decide) (by decide) (by decide)]; exact hno
      have hb0 : (tx μ' a1 a' f1 q1) 3 0 = nI nq := by rw [tx_i _ _ _ _ _ (by decide), e1.1 3 (by decide) (by decide) (by decide) (by decide)]; exact hnq
      rcases hcs with e | e | e | e | e | e
      · rw [e]
        refine bc_iload dX5_readStep_8 rfl ?_
        refine bc_tableIn (off := 38) (tgt := 48) dX5_readStep_10 (by decide) (by decide) (by decide) (by decide) ?_
        refine bc_aload_n dX5_readStep_48 rfl ?_
        refine bc_iload dX5_readStep_49 rfl ?_
        refine bc_aload_n dX5_readStep_51 rfl ?_
        refine bc_iconst (v := 0) dX5_readStep_52 (by decide) ?_
        refine bc_aload_n dX5_readStep_53 rfl ?_
        refine bc_geti dX5_readStep_54 fX5_55 (rfl) rfl ?_
        refine bc_iconst (v := 1) dX5_readStep_57 (by decide) ?_
        refine bc_isub dX5_readStep_58 ?_
        refine bc_callV (z := mX7_number) (ci := 7) dX5_readStep_59 lX5_60 qX7_number (by rfl) (by rfl) (by rfl) (by rfl) (Nat.le_of_ble_eq_true rfl) (s_wnum (d := d + 6) (LO := 0) (HI := no) (by omega) h2 (hw _ _ _ t1) (by decide) (by rw [hb1]) (by omega) (by omega)) (fun r59 μ59 e59 => ?_)
        obtain ⟨v, rfl, h59, w59⟩ := e59
        refine bc_iconst (v := 0) dX5_readStep_62 (by decide) ?_
        refine bc_callV (z := mX5_put) (ci := 5) dX5_readStep_63 lX5_64 qX5_put (by rfl) (by rfl) (by rfl) (by rfl) (Nat.le_of_ble_eq_true rfl) (s_pput (z := (0, (sNum (μ0 2) n 0 no (.inr (skp (μ0 2) n (ltE (μ0 2) n a')))).2, 0)) h59 (fun p hp => ⟨rfl, w59 p hp, rfl, by omega⟩)) (fun r63 μ63 e63 => ?_)
        obtain ⟨rfl, h63⟩ := e63
        refine bc_goto (tgt := 138) dX5_readStep_66 (by decide) ?_
        exact bc_return dX5_readStep_138 rfl (⟨rfl, h63⟩)
      · rw [e]
        refine bc_iload dX5_readStep_8 rfl ?_
        refine bc_tableIn (off := 38) (tgt := 48) dX5_readStep_10 (by decide) (by decide) (by decide) (by decide) ?_
        refine bc_aload_n dX5_readStep_48 rfl ?_
        refine bc_iload dX5_readStep_49 rfl ?_
        refine bc_aload_n dX5_readStep_51 rfl ?_
        refine bc_iconst (v := 0) dX5_readStep_52 (by decide) ?_
        refine bc_aload_n dX5_readStep_53 rfl ?_
        refine bc_geti dX5_readStep_54 fX5_55 (rfl) rfl ?_
        refine bc_iconst (v := 1) dX5_readStep_57 (by decide) ?_
        refine bc_isub dX5_readStep_58 ?_
        refine bc_callV (z := mX7_number) (ci := 7) dX5_readStep_59 lX5_60 qX7_number (by rfl) (by rfl) (by rfl) (by rfl) (Nat.le_of_ble_eq_true rfl) (s_wnum (d := d + 6) (LO := 0) (HI := no) (by omega) h2 (hw _ _ _ t1) (by decide) (by rw [hb1]) (by omega) (by omega)) (fun r59 μ59 e59 => ?_)
        obtain ⟨v, rfl, h59, w59⟩ := e59
        refine bc_iconst (v := 0) dX5_readStep_62 (by decide) ?_
        refine bc_callV (z := mX5_put) (ci := 5) dX5_readStep_63 lX5_64 qX5_put (by rfl) (by rfl) (by rfl) (by rfl) (Nat.le_of_ble_eq_true rfl) (s_pput (z := (1, (sNum (μ0 2) n 0 no (.inr (skp (μ0 2) n (ltE (μ0 2) n a')))).2, 0)) h59 (fun p hp => ⟨rfl, w59 p hp, rfl, by omega⟩)) (fun r63 μ63 e63 => ?_)
        obtain ⟨rfl, h63⟩ := e63
        refine bc_goto (tgt := 138) dX5_readStep_66 (by decide) ?_
        exact bc_return dX5_readStep_138 rfl (⟨rfl, h63⟩)
      · rw [e]
        refine bc_iload dX5_readStep_8 rfl ?_
        refine bc_tableIn (off := 59) (tgt := 69) dX5_readStep_10 (by decide) (by decide) (by decide) (by decide) ?_
        refine bc_aload_n dX5_readStep_69 rfl ?_
        refine bc_iload dX5_readStep_70 rfl ?_
        refine bc_aload_n dX5_readStep_72 rfl ?_
        refine bc_iconst (v := 0) dX5_readStep_73 (by decide) ?_
        refine bc_aload_n dX5_readStep_74 rfl ?_
        refine bc_geti dX5_readStep_75 fX5_68 (rfl) rfl ?_
        refine bc_iconst (v := 1) dX5_readStep_78 (by decide) ?_
        refine bc_isub dX5_readStep_79 ?_
        refine bc_callV (z := mX7_number) (ci := 7) dX5_readStep_80 lX5_60 qX7_number (by rfl) (by rfl) (by rfl) (by rfl) (Nat.le_of_ble_eq_true rfl) (s_wnum (d := d + 6) (LO := 0) (HI := nq) (by omega) h2 (hw _ _ _ t1) (by decide) (by rw [hb0]) (by omega) (by omega)) (fun r80 μ80 e80 => ?_)
        obtain ⟨v, rfl, h80, w80⟩ := e80
        refine bc_aload_n dX5_readStep_83 rfl ?_
        refine bc_iconst (v := 0) dX5_readStep_84 (by decide) ?_
        refine bc_bipush (v := 99) dX5_readStep_85 (by decide) ?_
        refine bc_callV (z := mX7_number) (ci := 7) dX5_readStep_87 lX5_60 qX7_number (by rfl) (by rfl) (by rfl) (by rfl) (Nat.le_of_ble_eq_true rfl) (s_wnum (d := d + 6) (LO := 0) (HI := 100) (by omega) h2 h80 (by decide) (by decide) (by omega) (by omega)) (fun r87 μ87 e87 => ?_)
        obtain ⟨v2, rfl, h87, w87⟩ := e87
        refine bc_callV (z := mX5_put) (ci := 5) dX5_readStep_90 lX5_64 qX5_put (by rfl) (by rfl) (by rfl) (by rfl) (Nat.le_of_ble_eq_true rfl) (s_pput (z := (2, (sTwo (μ0 2) n 0 nq 0 100 (.inr (skp (μ0 2) n (ltE (μ0 2) n a')))).2.1, (sTwo (μ0 2) n 0 nq 0 100 (.inr (skp (μ0 2) n (ltE (μ0 2) n a')))).2.2)) h87 (fun p hp => by obtain ⟨⟨p0, hp0, -⟩, -⟩ := sNum_ok hp; exact ⟨rfl, w80 p0 hp0, w87 p hp, by omega⟩)) (fun r90 μ90 e90 => ?_)
        obtain ⟨rfl, h90⟩ := e90
        refine bc_goto (tgt := 138) dX5_readStep_93 (by decide) ?_
        exact bc_return dX5_readStep_138 rfl (⟨rfl, h90⟩)
      · rw [e]
        refine bc_iload dX5_readStep_8 rfl ?_
        refine bc_tableIn (off := 86) (tgt := 96) dX5_readStep_10 (by decide) (by decide) (by decide) (by decide) ?_
        refine bc_aload_n dX5_readStep_96 rfl ?_
        refine bc_iload dX5_readStep_97 rfl ?_
        refine bc_aload_n dX5_readStep_99 rfl ?_
        refine bc_iconst (v := 0) dX5_readStep_100 (by decide) ?_
        refine bc_aload_n dX5_readStep_101 rfl ?_
        refine bc_geti dX5_readStep_102 fX5_68 (rfl) rfl ?_
        refine bc_iconst (v := 1) dX5_readStep_105 (by decide) ?_
        refine bc_isub dX5_readStep_106 ?_
        refine bc_callV (z := mX7_number) (ci := 7) dX5_readStep_107 lX5_60 qX7_number (by rfl) (by rfl) (by rfl) (by rfl) (Nat.le_of_ble_eq_true rfl) (s_wnum (d := d + 6) (LO := 0) (HI := nq) (by omega) h2 (hw _ _ _ t1) (by decide) (by rw [hb0]) (by omega) (by omega)) (fun r107 μ107 e107 => ?_)
        obtain ⟨v, rfl, h107, w107⟩ := e107
        refine bc_iconst (v := 0) dX5_readStep_110 (by decide) ?_
        refine bc_callV (z := mX5_put) (ci := 5) dX5_readStep_111 lX5_64 qX5_put (by rfl) (by rfl) (by rfl) (by rfl) (Nat.le_of_ble_eq_true rfl) (s_pput (z := (3, (sNum (μ0 2) n 0 nq (.inr (skp (μ0 2) n (ltE (μ0 2) n a')))).2, 0)) h107 (fun p hp => ⟨rfl, w107 p hp, rfl, by omega⟩)) (fun r111 μ111 e111 => ?_)
        obtain ⟨rfl, h111⟩ := e111
        refine bc_goto (tgt := 138) dX5_readStep_114 (by decide) ?_
        exact bc_return dX5_readStep_138 rfl (⟨rfl, h111⟩)
      · rw [e]
        refine bc_iload dX5_readStep_8 rfl ?_
        refine bc_tableIn (off := 107) (tgt := 117) dX5_readStep_10 (by decide) (by decide) (by decide) (by decide) ?_
        refine bc_aload_n dX5_readStep_117 rfl ?_
        refine bc_iload dX5_readStep_118 rfl ?_
        refine bc_iconst (v := 0) dX5_readStep_120 (by decide) ?_
        refine bc_iconst (v := 0) dX5_readStep_121 (by decide) ?_
        refine bc_callV (z := mX5_put) (ci := 5) dX5_readStep_122 lX5_64 qX5_put (by rfl) (by rfl) (by rfl) (by rfl) (Nat.le_of_ble_eq_true rfl) (s_pput (z := (4, 0, 0)) (hw _ _ _ t1) (fun p hp => ⟨rfl, rfl, rfl, by omega⟩)) (fun r122 μ122 e122 => ?_)
        obtain ⟨rfl, h122⟩ := e122
        refine bc_goto (tgt := 138) dX5_readStep_125 (by decide) ?_
        exact bc_return dX5_readStep_138 rfl (⟨rfl, h122⟩)
      · rw [e]
        refine bc_iload dX5_readStep_8 rfl ?_
        refine bc_tableIn (off := 118) (tgt := 128) dX5_readStep_10 (by decide) (by decide) (by decide) (by decide) ?_
        refine bc_aload_n dX5_readStep_128 rfl ?_
        refine bc_aload_n dX5_readStep_129 rfl ?_
        refine bc_aload_n dX5_readStep_130 rfl ?_
        refine bc_iload_n dX5_readStep_131 rfl ?_
        refine bc_callV (z := mX5_readAgain) (ci := 5) dX5_readStep_132 lX5_71 qX5_readAgain (by rfl) (by rfl) (by rfl) (by rfl) (Nat.le_of_ble_eq_true rfl) (s_readAgain (d := d) (no := no) (nq := nq) hn h2 hO e1 t1 ha hR (by omega)) (fun r132 μ132 e132 => ?_)
        obtain ⟨rfl, h132⟩ := e132
        refine bc_goto (tgt := 138) dX5_readStep_135 (by decide) ?_
        exact bc_return dX5_readStep_138 rfl (⟨rfl, h132⟩)
    rw [hw1]
    refine bc_aload_n dX5_readStep_0 rfl ?_
    refine bc_ldcS (tx := "light quench onions cold hour again ") (k := 3) dX5_readStep_1 (by decide) ?_
    refine bc_callV (z := mX7_word) (ci := 7) dX5_readStep_3 lX5_51 qX7_word (by rfl) (by rfl) (by rfl) (by rfl) (Nat.le_of_ble_eq_true rfl) (s_word (d := d + 3) (K := 3) (by decide) (by decide) (by omega) e4 e2) (fun r3 μ3 e3 => ?_)
    obtain ⟨a1, f1, q1, rfl, rfl, t1⟩ := e3
    rw [e5, hw1] at t1
    rw [e5, hwv]
    refine bc_istore dX5_readStep_6 (by decide) rfl ?_
    exact go _ _ _ t1
  · have hdef : ∀ S, pStW (μ0 2) n no nq nest a' (sWrd (μ0 2) n (bw 3) (.inr a')).2 S l = (S, l) := by intro S; rw [hw99]; rfl
    rw [hdef]
    refine bc_aload_n dX5_readStep_0 rfl ?_
    refine bc_ldcS (tx := "light quench onions cold hour again ") (k := 3) dX5_readStep_1 (by decide) ?_
    refine bc_callV (z := mX7_word) (ci := 7) dX5_readStep_3 lX5_51 qX7_word (by rfl) (by rfl) (by rfl) (by rfl) (Nat.le_of_ble_eq_true rfl) (s_word (d := d + 3) (K := 3) (by decide) (by decide) (by omega) e4 e2) (fun r3 μ3 e3 => ?_)
    obtain ⟨a1, f1, q1, rfl, rfl, t1⟩ := e3
    rw [e5] at t1
    rw [e5, hwv]
    refine bc_istore dX5_readStep_6 (by decide) rfl ?_
    refine bc_iload dX5_readStep_8 rfl ?_
    refine bc_tableOut (tgt := 138) dX5_readStep_10 (by decide) (by decide) ?_
    exact bc_return dX5_readStep_138 rfl ⟨rfl, μ', a1, a', f1, q1, rfl, e1, t1, fun _ _ => hR⟩
theorem s_readSteps {o dep : Nat} {u : PSt → PSt} {over : Nat → Bool} (hn : n ≤ 150) (h2 : μ0 1 2 = nI n) (ho : o ≤ 6) (hov : over = if o = 0 then ovT n else ovB (μ0 2) n) (hu : goodP n no nq dep 1 u) (hU : Wok1 n μ0 (d + 9) mX5_readStep [.ref 24, .ref 1, .ref 3, .int (nI o)] u) : Wok n μ0 (d + 10) mX5_readSteps [.ref 24, .ref 1, .ref 3, .int (nI o)] (pSs (μ0 2) n over u 150) := by
  intro μ S l h0 hinv
  refine bc_enter (by decide) (Nat.le_of_ble_eq_true rfl) rfl ?_
  have loop : ∀ (m i : Nat) (v : Value) (μ : bc_M) (S : TS) (l : List PE), i + m = 150 → v.category = 1 → wS n μ0 S l μ → (∀ p, S = .inr p → l.length ≤ p ∧ p ≤ n) → bc_W (d + 10) LC mX5_readSteps 3 [.ref 24, .ref 1, .ref 3, .int (nI o), .int (nI i), v] [] μ (fun r ν => r = none ∧ wS n μ0 (pSs (μ0 2) n over u m (S, l)).1 (pSs (μ0 2) n over u m (S, l)).2 ν) := by
    intro m
    induction m with
    | zero =>
      intro i v μ S l hi hv h hl
      have hi : i = 150 := by omega
      subst hi
      refine bc_iload dX5_readSteps_3 rfl ?_
      refine bc_sipush (v := 150) dX5_readSteps_5 (by decide) ?_
      refine bc_icmp_ge (tgt := 70) dX5_readSteps_8 (by decide) (fun h8 => ?_) (fun h8 => absurd h8 (fun x => x (by decide)))
      exact bc_return dX5_readSteps_70 rfl (⟨rfl, h⟩)
    | succ m ih =>
      intro i v μ S l hi hv h hl
      cases S with
      | inl g =>
        refine bc_iload dX5_readSteps_3 rfl ?_
        refine bc_sipush (v := 150) dX5_readSteps_5 (by decide) ?_
        refine bc_icmp_ge (tgt := 70) dX5_readSteps_8 (by decide) (fun h8 => absurd h8 (by rw [show (150 : Int32) = nI 150 from rfl, bn_leN (by omega) (by omega)]; omega)) (fun h8 => ?_)
        refine bc_aload_n dX5_readSteps_11 rfl ?_
        refine bc_callV (z := mX7_isSound) (ci := 7) dX5_readSteps_12 lX5_29 qX7_isSound (by rfl) (by rfl) (by rfl) (by rfl) (Nat.le_of_ble_eq_true rfl) (s_wsound h) (fun r12 μ12 e12 => ?_)
        obtain ⟨rfl, q12⟩ := e12
        obtain rfl := q12.symm
        refine bc_if_eq (tgt := 70) dX5_readSteps_15 (by decide) (fun h15 => ?_) (fun h15 => absurd h15 (fun x => x rfl))
        exact bc_return dX5_readSteps_70 rfl (⟨rfl, h⟩)
      | inr p =>
        obtain ⟨hlp, hpn⟩ := hl p rfl
        have stp : ∀ (b : Int32), b = (if over p = true then 1 else 0) → ∀ v : Value, v.category = 1 → bc_W (d + 10) LC mX5_readSteps 43 [.ref 24, .ref 1, .ref 3, .int (nI o), .int (nI i), v] [.int b] μ (fun r ν => r = none ∧ wS n μ0 (pSs (μ0 2) n over u (m + 1) (.inr p, l)).1 (pSs (μ0 2) n over u (m + 1) (.inr p, l)).2 ν) := by
          intro b hb v hv
          subst hb
          by_cases hov : over p = true
          · simp only [pSs, if_pos hov]
            refine bc_istore dX5_readSteps_43 (by decide) rfl ?_
            refine bc_iload dX5_readSteps_45 rfl ?_
            refine bc_if_eq (tgt := 51) dX5_readSteps_47 (by decide) (fun h47 => absurd h47 (by decide)) (fun h47 => ?_)
            exact bc_return dX5_readSteps_50 rfl (⟨rfl, h⟩)
          · simp only [pSs, if_neg hov]
            have hcall : bc_C (d + 9) LC mX5_readStep [.ref 24, .ref 1, .ref 3, .int (nI o)] μ (fun r ν => r = none ∧ wS n μ0 (u (.inr p, l)).1 (u (.inr p, l)).2 ν) := by
              exact hU μ p l h hlp hpn
            refine bc_istore dX5_readSteps_43 (by decide) rfl ?_
            refine bc_iload dX5_readSteps_45 rfl ?_
            refine bc_if_eq (tgt := 51) dX5_readSteps_47 (by decide) (fun h47 => ?_) (fun h47 => absurd h47 (fun x => x rfl))
            refine bc_aload_n dX5_readSteps_51 rfl ?_
            refine bc_aload_n dX5_readSteps_52 rfl ?_
            refine bc_aload_n dX5_readSteps_53 rfl ?_
            refine bc_iload_n dX5_readSteps_54 rfl ?_
            refine bc_callV (z := mX5_readStep) (ci := 5) dX5_readSteps_55 lX5_42 qX5_readStep (by rfl) (by rfl) (by rfl) (by rfl) (Nat.le_of_ble_eq_true rfl) (hcall) (fun r55 μ55 e55 => ?_)
            obtain ⟨rfl, h55⟩ := e55
            refine bc_aload_n dX5_readSteps_58 rfl ?_
            refine bc_bipush (v := 59) dX5_readSteps_59 (by decide) ?_
            refine bc_callV (z := mX7_need) (ci := 7) dX5_readSteps_61 lX5_45 qX7_need (by rfl) (by rfl) (by rfl) (by rfl) (Nat.le_of_ble_eq_true rfl) (s_wneed (d := d + 8) (by omega) h2 h55 (by decide)) (fun r61 μ61 e61 => ?_)
            obtain ⟨rfl, h61⟩ := e61
            refine bc_iinc1 dX5_readSteps_64 rfl (by decide) rfl ?_
            refine bc_goto (tgt := 3) dX5_readSteps_67 (by decide) ?_
            rw [bn_add1]
            refine ih (i + 1) _ _ _ _ (by omega) rfl h61 (fun x hx => ?_)
            obtain ⟨x1, y1, z1, u1⟩ := sNeed_ok hx
            obtain ⟨p0, e, c1, c2, c3, c4, c5, c6⟩ := hu.2 _ _ _ (fun y hy => by have hy := Sum.inr.inj hy; omega) y1
            have c1 := Sum.inr.inj c1
            rw [c2, List.length_append]
            omega
        obtain ⟨μ', a', k', f', q', rfl, e1, e2, e3, e4, e5⟩ := wS_n h h2
        obtain ⟨rfl, b1, b2, b3⟩ := id e2
        by_cases h00 : o = 0
        · subst h00
          have hov0 : over = ovT n := by rw [hov]; rfl
          by_cases hl9 : a' < n
          · skip
            refine bc_iload dX5_readSteps_3 rfl ?_
            refine bc_sipush (v := 150) dX5_readSteps_5 (by decide) ?_
            refine bc_icmp_ge (tgt := 70) dX5_readSteps_8 (by decide) (fun h8 => absurd h8 (by rw [show (150 : Int32) = nI 150 from rfl, bn_leN (by omega) (by omega)]; omega)) (fun h8 => ?_)
            refine bc_aload_n dX5_readSteps_11 rfl ?_
            refine bc_callV (z := mX7_isSound) (ci := 7) dX5_readSteps_12 lX5_29 qX7_isSound (by rfl) (by rfl) (by rfl) (by rfl) (Nat.le_of_ble_eq_true rfl) (s_wsound h) (fun r12 μ12 e12 => ?_)
            obtain ⟨rfl, q12⟩ := e12
            obtain rfl := q12.symm
            refine bc_if_eq (tgt := 70) dX5_readSteps_15 (by decide) (fun h15 => absurd h15 (fun x => absurd (show (1 : Int32) = 0 from x) (by decide))) (fun h15 => ?_)
            refine bc_iload_n dX5_readSteps_18 rfl ?_
            refine bc_if_ne (tgt := 37) dX5_readSteps_19 (by decide) (fun h19 => absurd h19 (fun x => x rfl)) (fun h19 => ?_)
            refine bc_aload_n dX5_readSteps_22 rfl ?_
            refine bc_callV (z := mX7_goesOn) (ci := 7) dX5_readSteps_23 lX5_35 qX7_goesOn (by rfl) (by rfl) (by rfl) (by rfl) (Nat.le_of_ble_eq_true rfl) (s_goesOn (d := d + 8) (by omega) e4 b1) (fun r23 μ23 e23 => ?_)
            obtain ⟨rfl, q23⟩ := e23
            obtain rfl := q23.symm
            refine bc_if_ne (tgt := 33) dX5_readSteps_26 (by decide) (fun h26 => ?_) (fun h26 => absurd h26 (by rw [if_pos ⟨b2, hl9⟩]; decide))
            refine bc_iconst (v := 0) dX5_readSteps_33 (by decide) ?_
            refine bc_goto (tgt := 43) dX5_readSteps_34 (by decide) ?_
            exact stp 0 (by rw [hov0, if_neg]; simp [ovT]; omega) _ hv
          · skip
            refine bc_iload dX5_readSteps_3 rfl ?_
            refine bc_sipush (v := 150) dX5_readSteps_5 (by decide) ?_
            refine bc_icmp_ge (tgt := 70) dX5_readSteps_8 (by decide) (fun h8 => absurd h8 (by rw [show (150 : Int32) = nI 150 from rfl, bn_leN (by omega) (by omega)]; omega)) (fun h8 => ?_)
            refine bc_aload_n dX5_readSteps_11 rfl ?_
            refine bc_callV (z := mX7_isSound) (ci := 7) dX5_readSteps_12 lX5_29 qX7_isSound (by rfl) (by rfl) (by rfl) (by rfl) (Nat.le_of_ble_eq_true rfl) (s_wsound h) (fun r12 μ12 e12 => ?_)
            obtain ⟨rfl, q12⟩ := e12
            obtain rfl := q12.symm
            refine bc_if_eq (tgt := 70) dX5_readSteps_15 (by decide) (fun h15 => absurd h15 (fun x => absurd (show (1 : Int32) = 0 from x) (by decide))) (fun h15 => ?_)
            refine bc_iload_n dX5_readSteps_18 rfl ?_
            refine bc_if_ne (tgt := 37) dX5_readSteps_19 (by decide) (fun h19 => absurd h19 (fun x => x rfl)) (fun h19 => ?_)
            refine bc_aload_n dX5_readSteps_22 rfl ?_
            refine bc_callV (z := mX7_goesOn) (ci := 7) dX5_readSteps_23 lX5_35 qX7_goesOn (by rfl) (by rfl) (by rfl) (by rfl) (Nat.le_of_ble_eq_true rfl) (s_goesOn (d := d + 8) (by omega) e4 b1) (fun r23 μ23 e23 => ?_)
            obtain ⟨rfl, q23⟩ := e23
            obtain rfl := q23.symm
            refine bc_if_ne (tgt := 33) dX5_readSteps_26 (by decide) (fun h26 => absurd h26 (by rw [if_neg (fun x => hl9 x.2)]; exact fun x => x rfl)) (fun h26 => ?_)
            refine bc_iconst (v := 1) dX5_readSteps_29 (by decide) ?_
            refine bc_goto (tgt := 43) dX5_readSteps_30 (by decide) ?_
            exact stp 1 (by rw [hov0, if_pos]; simp [ovT]; omega) _ hv
        · have hov1 : over = ovB (μ0 2) n := by rw [hov, if_neg h00]
          refine bc_iload dX5_readSteps_3 rfl ?_
          refine bc_sipush (v := 150) dX5_readSteps_5 (by decide) ?_
          refine bc_icmp_ge (tgt := 70) dX5_readSteps_8 (by decide) (fun h8 => absurd h8 (by rw [show (150 : Int32) = nI 150 from rfl, bn_leN (by omega) (by omega)]; omega)) (fun h8 => ?_)
          refine bc_aload_n dX5_readSteps_11 rfl ?_
          refine bc_callV (z := mX7_isSound) (ci := 7) dX5_readSteps_12 lX5_29 qX7_isSound (by rfl) (by rfl) (by rfl) (by rfl) (Nat.le_of_ble_eq_true rfl) (s_wsound h) (fun r12 μ12 e12 => ?_)
          obtain ⟨rfl, q12⟩ := e12
          obtain rfl := q12.symm
          refine bc_if_eq (tgt := 70) dX5_readSteps_15 (by decide) (fun h15 => absurd h15 (fun x => absurd (show (1 : Int32) = 0 from x) (by decide))) (fun h15 => ?_)
          refine bc_iload_n dX5_readSteps_18 rfl ?_
          refine bc_if_ne (tgt := 37) dX5_readSteps_19 (by decide) (fun h19 => ?_) (fun h19 => absurd h19 (nI_ne0 (by omega) (by omega)))
          refine bc_aload_n dX5_readSteps_37 rfl ?_
          refine bc_bipush (v := 93) dX5_readSteps_38 (by decide) ?_
          refine bc_callV (z := mX7_nextIs) (ci := 7) dX5_readSteps_40 lX5_38 qX7_nextIs (by rfl) (by rfl) (by rfl) (by rfl) (Nat.le_of_ble_eq_true rfl) (s_nextIs (d := d + 8) (by omega) e4 b1 93) (fun r40 μ40 e40 => ?_)
          obtain ⟨rfl, q40⟩ := e40
          obtain rfl := q40.symm
          refine stp _ ?_ _ hv
          rw [hov1, e5]
          by_cases hx : nx (μ0 2) n a' = 93
          · rw [if_pos hx, if_pos (by simp only [ovB, decide_eq_true_eq]; exact (nx_c (by decide)).mp hx)]
          · rw [if_neg hx, if_neg (by simp only [ovB, decide_eq_true_eq]; exact fun y => hx ((nx_c (by decide)).mpr y))]
  refine bc_iconst (v := 0) dX5_readSteps_0 (by decide) ?_
  refine bc_istore dX5_readSteps_1 (by decide) rfl ?_
  exact loop 150 0 _ _ _ _ rfl rfl h0 hinv
theorem s_stepD (hn : n ≤ 150) (h2 : μ0 1 2 = nI n) (hno : μ0 3 1 = nI no) (hno8 : no ≤ 8) (hnq : μ0 3 0 = nI nq) (hnq6 : nq ≤ 6) : ∀ dep, dep ≤ 6 → ∀ d, Wok1 n μ0 (d + 3 * dep + 9) mX5_readStep [.ref 24, .ref 1, .ref 3, .int (nI (6 - dep))] (pStp (μ0 2) n no nq dep) := by
  intro dep
  induction dep with
  | zero => intro _ d; exact s_readStep (dep := 0) hn h2 hno hno8 hnq hnq6 (.inl ⟨rfl, rfl⟩)
  | succ dep ih =>
    intro hd d
    have h1 := s_readSteps (d := d + 3 * dep) (over := ovB (μ0 2) n) hn h2 (by omega) (by rw [if_neg (by omega)]) (pStp_good hno8 hnq6 dep) (ih (by omega) d)
    have h3 := s_readStep (d := d + 3 * dep + 3) (o := 6 - (dep + 1)) (dep := dep) (nest := some (pSs (μ0 2) n (ovB (μ0 2) n) (pStp (μ0 2) n no nq dep) 150)) hn h2 hno hno8 hnq hnq6 (.inr ⟨_, rfl, by omega, pSs_good (pStp_good hno8 hnq6 dep) 150, by rw [show 6 - (dep + 1) + 1 = 6 - dep by omega]; exact h1⟩)
    rw [show d + 3 * (dep + 1) + 9 = d + 3 * dep + 3 + 9 by omega]
    exact h3
theorem s_planFrom (hn : n ≤ 150) (h2 : μ 1 2 = nI n) (hno : μ 3 1 = nI no) (hno8 : no ≤ 8) (hnq : μ 3 0 = nI nq) (hnq6 : nq ≤ 6) (hS : tq n (.inr a) a f q) : bc_C (d + 29) LC mX5_readFrom [.ref 24, .ref 1, .ref 3] (tx μ a k f q) (fun r ν => r = none ∧ wS n μ (pWork (μ 2) n no nq a).1 (pWork (μ 2) n no nq a).2 ν) := by
  have hs := s_readSteps (d := d + 18) (o := 0) (over := ovT n) hn h2 (by omega) rfl (pStp_good hno8 hnq6 6) (s_stepD hn h2 hno hno8 hnq hnq6 6 (by omega) d)
  refine bc_enter (by decide) (Nat.le_of_ble_eq_true rfl) rfl ?_
  refine bc_aload_n dX5_readFrom_0 rfl ?_
  refine bc_iconst (v := 0) dX5_readFrom_1 (by decide) ?_
  refine bc_put dX5_readFrom_2 fX5_21 ftX5 fpX5_3 rfl rfl (rfl) rfl ?_
  rw [tx_u _ _ _ _ _ (by decide)]
  refine bc_aload_n dX5_readFrom_5 rfl ?_
  refine bc_aload_n dX5_readFrom_6 rfl ?_
  refine bc_aload_n dX5_readFrom_7 rfl ?_
  refine bc_iconst (v := 0) dX5_readFrom_8 (by decide) ?_
  refine bc_callV (z := mX5_readSteps) (ci := 5) dX5_readFrom_9 lX5_25 qX5_readSteps (by rfl) (by rfl) (by rfl) (by rfl) (Nat.le_of_ble_eq_true rfl) (hs _ (.inr a) [] ⟨bc_u μ 24 3 0, a, k, f, q, rfl, fr24_u (fr24.refl μ) (by omega), hS, fun p hp => ⟨by rw [bc_u_s]; simp [upd]; rfl, fun i x hx => by cases hx⟩⟩ (fun p hp => ⟨Nat.zero_le _, by have := hS.2.1; have hp := Sum.inr.inj hp; omega⟩)) (fun r9 μ9 e9 => ?_)
  obtain ⟨rfl, h9⟩ := e9
  exact bc_return dX5_readFrom_12 rfl (⟨rfl, h9⟩)
theorem pWork_ok {t : Nat → Int32} {p p' : Nat} (hno8 : no ≤ 8) (hnq6 : nq ≤ 6) (hp : p ≤ n) (h : (pWork t n no nq p).1 = .inr p') : (pWork t n no nq p).2.length ≤ n ∧ BlkX no nq (pWork t n no nq p).2 6 0 (pWork t n no nq p).2.length := by
  obtain ⟨p0, e, a1, a2, a3, a4, a5, a6⟩ := (pSs_good (pStp_good hno8 hnq6 6) 150).2 _ _ _ (fun x hx => by have hx := Sum.inr.inj hx; omega) h
  unfold pWork
  rw [a2]
  rw [List.nil_append] at a6 ⊢
  exact ⟨by omega, a6⟩
end RDP
