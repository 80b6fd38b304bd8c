/-! the reference: law -/
section T77
variable {d : Nat} {m μ ν M : bc_M} {n p op : Nat} {t : Nat → Int32}
theorem lm.sgn {S : TS} {l : List Nat} {c : Nat} (h : lm t n S l op μ) (hf : f456 μ ν) (hs : rS t n (sNeed t n (nI c) S) ν) : lm t n (sNeed t n (nI c) S) l op ν := h.mv hf hs (fun p' hp' => by
  obtain ⟨p0, e0, -, -⟩ := sNeed_ok hp'
  exact ⟨p0, e0⟩)
theorem lm.o1 {S : TS} {l : List Nat} (h : lm t n S l (op + 1) μ) : lm t n S l op (bc_u μ 0 7 (nI (op + 1) - 1)) := by
  rw [bn_s1 (by omega), Nat.add_sub_cancel]
  exact h.o
theorem t_twoF {l : List Nat} {b c : Int32} (h : lm t n (.inr p) l 6 μ) (hq4 : μ 0 4 = nI p) : bc_C (d + 4) LM mX10_readTwo [.ref 0, .int b, .int c] μ (fun r ν => r = none ∧ rF μ ν ∧ lm t n (.inl (3, p)) l 6 ν) := by
  refine bc_enter (by decide) (Nat.le_of_ble_eq_true rfl) rfl ?_
  refine bc_aload_n dX10_readTwo_0 rfl ?_
  refine bc_iload_n dX10_readTwo_1 rfl ?_
  refine bc_callV (z := mX10_opensOne) (ci := 10) dX10_readTwo_2 lX10_278 qX10_opensOne (by rfl) (by rfl) (by rfl) (by rfl) (Nat.le_of_ble_eq_true rfl) (t_opensF h hq4) (fun r2 μ2 e2 => ?_)
  obtain ⟨rfl, f2, s2⟩ := e2
  refine bc_aload_n dX10_readTwo_5 rfl ?_
  refine bc_bipush (v := 91) dX10_readTwo_6 (by decide) ?_
  refine bc_callV (z := mX10_sign) (ci := 10) dX10_readTwo_8 lX10_259 qX10_sign (by rfl) (by rfl) (by rfl) (by rfl) (Nat.le_of_ble_eq_true rfl) (t_sign (c := 91) s2.1 (by omega) (by omega)) (fun r8 μ8 e8 => ?_)
  obtain ⟨rfl, f8, s8⟩ := e8
  have s8' : lm t n (.inl (3, p)) l 7 μ8 := s2.mv f8 s8 (fun p' hp' => by cases hp')
  refine bc_aload_n dX10_readTwo_11 rfl ?_
  refine bc_callV (z := mX10_readSum) (ci := 10) dX10_readTwo_12 lX10_281 qX10_readSum (by rfl) (by rfl) (by rfl) (by rfl) (Nat.le_of_ble_eq_true rfl) (t_sumF s8'.1) (fun r12 μ12 e12 => ?_)
  obtain ⟨rfl, q12⟩ := e12
  obtain rfl := q12.symm
  refine bc_aload_n dX10_readTwo_15 rfl ?_
  refine bc_bipush (v := 44) dX10_readTwo_16 (by decide) ?_
  refine bc_callV (z := mX10_sign) (ci := 10) dX10_readTwo_18 lX10_259 qX10_sign (by rfl) (by rfl) (by rfl) (by rfl) (Nat.le_of_ble_eq_true rfl) (t_sign (c := 44) s8'.1 (by omega) (by omega)) (fun r18 μ18 e18 => ?_)
  obtain ⟨rfl, f18, s18⟩ := e18
  have s18' : lm t n (.inl (3, p)) l 7 μ18 := s8'.mv f18 s18 (fun p' hp' => by cases hp')
  refine bc_aload_n dX10_readTwo_21 rfl ?_
  refine bc_callV (z := mX10_readSum) (ci := 10) dX10_readTwo_22 lX10_281 qX10_readSum (by rfl) (by rfl) (by rfl) (by rfl) (Nat.le_of_ble_eq_true rfl) (t_sumF s18'.1) (fun r22 μ22 e22 => ?_)
  obtain ⟨rfl, q22⟩ := e22
  obtain rfl := q22.symm
  refine bc_aload_n dX10_readTwo_25 rfl ?_
  refine bc_bipush (v := 93) dX10_readTwo_26 (by decide) ?_
  refine bc_callV (z := mX10_sign) (ci := 10) dX10_readTwo_28 lX10_259 qX10_sign (by rfl) (by rfl) (by rfl) (by rfl) (Nat.le_of_ble_eq_true rfl) (t_sign (c := 93) s18'.1 (by omega) (by omega)) (fun r28 μ28 e28 => ?_)
  obtain ⟨rfl, f28, s28⟩ := e28
  have s28' : lm t n (.inl (3, p)) l 7 μ28 := s18'.mv f28 s28 (fun p' hp' => by cases hp')
  refine bc_aload_n dX10_readTwo_31 rfl ?_
  refine bc_dup dX10_readTwo_32 rfl ?_
  refine bc_geti dX10_readTwo_33 fX10_158 (rfl) rfl ?_
  rw [s28'.2.1]
  refine bc_iconst (v := 1) dX10_readTwo_36 (by decide) ?_
  refine bc_isub dX10_readTwo_37 ?_
  refine bc_put dX10_readTwo_38 fX10_158 ftX10 fpX10_7 rfl rfl (rfl) rfl ?_
  refine bc_aload_n dX10_readTwo_41 rfl ?_
  refine bc_iload_n dX10_readTwo_42 rfl ?_
  refine bc_iconst (v := 0) dX10_readTwo_43 (by decide) ?_
  refine bc_callV (z := mX10_emit) (ci := 10) dX10_readTwo_44 lX10_272 qX10_emit (by rfl) (by rfl) (by rfl) (by rfl) (Nat.le_of_ble_eq_true rfl) (t_emit (x := 0) (s28'.o1 (op := 6)) (fun p' hp' => by cases hp')) (fun r44 μ44 e44 => ?_)
  obtain ⟨rfl, f44, s44⟩ := e44
  exact bc_return dX10_readTwo_47 rfl (⟨rfl, ((((f2.tr f8.rF).tr f18.rF).tr f28.rF).tr (rF.u0 (by omega))).tr f44, s44.inl⟩)
theorem t_twoY {l : List Nat} {b c D : Nat} {code : Int32} {g : LSt → LSt} (hn : n ≤ 150) (hop : op < 6) (hg : good n g) (hG : Mok t n (D + 1) mX10_readSum [.ref 0] (op + 1) g) (h : lm t n (.inr p) l op μ) (hq4 : μ 0 4 = nI p) (hb : p + b ≤ n) (hl : l.length ≤ p) (hcr : cR (nI c) code 0) : bc_C (D + 2) LM mX10_readTwo [.ref 0, .int (nI b), .int code] μ (fun r ν => r = none ∧ rF μ ν ∧ lm t n (pTwo t n g c (.inr (skp t n (p + b)), l)).1 (pTwo t n g c (.inr (skp t n (p + b)), l)).2 op ν) := by
  refine bc_enter (by decide) (Nat.le_of_ble_eq_true rfl) rfl ?_
  have hsk : p + b ≤ skp t n (p + b) := rn_ge _ _ _ _
  have k1 : ∀ z, sNeed t n (nI 91) (.inr (skp t n (p + b))) = .inr z → l.length ≤ z ∧ z ≤ n := fun z hz => by
    obtain ⟨p0, e0, g1, g2⟩ := sNeed_ok hz
    cases e0
    omega
  obtain ⟨z1, hz1⟩ : ∃ z1, z1 = g (sNeed t n (nI 91) (.inr (skp t n (p + b))), l) := ⟨_, rfl⟩
  have k2 : ∀ z, z1.1 = .inr z → z1.2.length ≤ z ∧ z ≤ n := fun z hz => by
    rw [hz1] at hz ⊢
    obtain ⟨p0, e0, g1, g2, -, g3, g4, g5⟩ := hg.2 _ l z (fun q hq => (k1 q hq).2) hz
    have := k1 p0 g1
    rw [g2, List.length_append]
    omega
  have k3 : ∀ z, sNeed t n (nI 44) z1.1 = .inr z → z1.2.length ≤ z ∧ z ≤ n := fun z hz => by
    obtain ⟨p0, e0, g1, g2⟩ := sNeed_ok hz
    have := k2 p0 e0
    omega
  obtain ⟨z2, hz2⟩ : ∃ z2, z2 = g (sNeed t n (nI 44) z1.1, z1.2) := ⟨_, rfl⟩
  have k4 : ∀ z, z2.1 = .inr z → z2.2.length ≤ z ∧ z ≤ n := fun z hz => by
    rw [hz2] at hz ⊢
    obtain ⟨p0, e0, g1, g2, -, g3, g4, g5⟩ := hg.2 _ z1.2 z (fun q hq => (k3 q hq).2) hz
    have := k3 p0 g1
    rw [g2, List.length_append]
    omega
  have hT : pTwo t n g c (.inr (skp t n (p + b)), l) = (sNeed t n (nI 93) z2.1, z2.2 ++ [c]) := by rw [hz2, hz1]; rfl
  rw [hT]
  refine bc_aload_n dX10_readTwo_0 rfl ?_
  refine bc_iload_n dX10_readTwo_1 rfl ?_
  refine bc_callV (z := mX10_opensOne) (ci := 10) dX10_readTwo_2 lX10_278 qX10_opensOne (by rfl) (by rfl) (by rfl) (by rfl) (Nat.le_of_ble_eq_true rfl) (t_opensY hop h hq4 hb) (fun r2 μ2 e2 => ?_)
  obtain ⟨rfl, f2, s2⟩ := e2
  refine bc_aload_n dX10_readTwo_5 rfl ?_
  refine bc_bipush (v := 91) dX10_readTwo_6 (by decide) ?_
  refine bc_callV (z := mX10_sign) (ci := 10) dX10_readTwo_8 lX10_259 qX10_sign (by rfl) (by rfl) (by rfl) (by rfl) (Nat.le_of_ble_eq_true rfl) (t_sign (c := 91) s2.1 (by omega) (by omega)) (fun r8 μ8 e8 => ?_)
  obtain ⟨rfl, f8, s8⟩ := e8
  refine bc_aload_n dX10_readTwo_11 rfl ?_
  refine bc_callV (z := mX10_readSum) (ci := 10) dX10_readTwo_12 lX10_281 qX10_readSum (by rfl) (by rfl) (by rfl) (by rfl) (Nat.le_of_ble_eq_true rfl) (hG _ _ l (s2.sgn f8 s8) k1) (fun r12 μ12 e12 => ?_)
  obtain ⟨rfl, f12, s12⟩ := e12
  rw [← hz1] at s12
  refine bc_aload_n dX10_readTwo_15 rfl ?_
  refine bc_bipush (v := 44) dX10_readTwo_16 (by decide) ?_
  refine bc_callV (z := mX10_sign) (ci := 10) dX10_readTwo_18 lX10_259 qX10_sign (by rfl) (by rfl) (by rfl) (by rfl) (Nat.le_of_ble_eq_true rfl) (t_sign (c := 44) s12.1 (by omega) (by omega)) (fun r18 μ18 e18 => ?_)
  obtain ⟨rfl, f18, s18⟩ := e18
  refine bc_aload_n dX10_readTwo_21 rfl ?_
  refine bc_callV (z := mX10_readSum) (ci := 10) dX10_readTwo_22 lX10_281 qX10_readSum (by rfl) (by rfl) (by rfl) (by rfl) (Nat.le_of_ble_eq_true rfl) (hG _ _ z1.2 (s12.sgn f18 s18) k3) (fun r22 μ22 e22 => ?_)
  obtain ⟨rfl, f22, s22⟩ := e22
  rw [← hz2] at s22
  refine bc_aload_n dX10_readTwo_25 rfl ?_
  refine bc_bipush (v := 93) dX10_readTwo_26 (by decide) ?_
  refine bc_callV (z := mX10_sign) (ci := 10) dX10_readTwo_28 lX10_259 qX10_sign (by rfl) (by rfl) (by rfl) (by rfl) (Nat.le_of_ble_eq_true rfl) (t_sign (c := 93) s22.1 (by omega) (by omega)) (fun r28 μ28 e28 => ?_)
  obtain ⟨rfl, f28, s28⟩ := e28
  have s28' := s22.sgn f28 s28
  refine bc_aload_n dX10_readTwo_31 rfl ?_
  refine bc_dup dX10_readTwo_32 rfl ?_
  refine bc_geti dX10_readTwo_33 fX10_158 (rfl) rfl ?_
  rw [s28'.2.1]
  refine bc_iconst (v := 1) dX10_readTwo_36 (by decide) ?_
  refine bc_isub dX10_readTwo_37 ?_
  refine bc_put dX10_readTwo_38 fX10_158 ftX10 fpX10_7 rfl rfl (rfl) rfl ?_
  refine bc_aload_n dX10_readTwo_41 rfl ?_
  refine bc_iload_n dX10_readTwo_42 rfl ?_
  refine bc_iconst (v := 0) dX10_readTwo_43 (by decide) ?_
  refine bc_callV (z := mX10_emit) (ci := 10) dX10_readTwo_44 lX10_272 qX10_emit (by rfl) (by rfl) (by rfl) (by rfl) (Nat.le_of_ble_eq_true rfl) (t_emit (x := c) s28'.o1 (fun p' hp' => ⟨hcr, by
obtain ⟨p0, e0, g1, g2⟩ := sNeed_ok hp'
have := k4 p0 e0
omega⟩)) (fun r44 μ44 e44 => ?_)
  obtain ⟨rfl, f44, s44⟩ := e44
  exact bc_return dX10_readTwo_47 rfl (⟨rfl, ((((((f2.tr f8.rF).tr f12).tr f18.rF).tr f22).tr f28.rF).tr (rF.u0 (by omega))).tr f44, s44⟩)
def fcV (l : List Int32) : Int32 := if (bw 2).idxOf l < 7 then nI ((bw 2).idxOf l) else -1
theorem fc_no {l : List Int32} (h : ∀ K, 13 ≤ K → K ≤ 19 → ¬ l = bc_byt.getD K []) : fcV l = -1 := by
  unfold fcV
  by_cases q : (bw 2).idxOf l < 7
  · exfalso
    have hlt : (bw 2).idxOf l < (bw 2).length := Nat.lt_trans q (by decide)
    have e : (bw 2)[(bw 2).idxOf l] = l := List.getElem_idxOf hlt
    have e2 : (bw 2)[(bw 2).idxOf l]? = some l := by rw [List.getElem?_eq_getElem hlt, e]
    generalize (bw 2).idxOf l = i at q e2
    have hc : i = 0 ∨ i = 1 ∨ i = 2 ∨ i = 3 ∨ i = 4 ∨ i = 5 ∨ i = 6 := by omega
    rcases hc with rfl | rfl | rfl | rfl | rfl | rfl | rfl
    · exact h 13 (by omega) (by omega) (Option.some.inj e2).symm
    · exact h 14 (by omega) (by omega) (Option.some.inj e2).symm
    · exact h 15 (by omega) (by omega) (Option.some.inj e2).symm
    · exact h 16 (by omega) (by omega) (Option.some.inj e2).symm
    · exact h 17 (by omega) (by omega) (Option.some.inj e2).symm
    · exact h 18 (by omega) (by omega) (Option.some.inj e2).symm
    · exact h 19 (by omega) (by omega) (Option.some.inj e2).symm
  · rw [if_neg q]
theorem t_factHere (h : rS t n (.inr p) μ) : bc_C (d + 5) LM mX10_factHere [.ref 0] μ (fun r ν => r = some (.int (fcV (wd t n p))) ∧ ν = bc_u μ 0 4 (nI p)) := by
  refine bc_enter (by decide) (Nat.le_of_ble_eq_true rfl) rfl ?_
  have hpn := h.le
  have yes : ∀ K, K < 24 → 7 ≤ K → wcV t n p = ofV K → wd t n p = bc_byt.getD K [] := fun K a b c => (wc_iff a b hpn).mp c
  refine bc_aload_n dX10_factHere_0 rfl ?_
  refine bc_callV (z := mX10_word) (ci := 10) dX10_factHere_1 lX10_219 qX10_word (by rfl) (by rfl) (by rfl) (by rfl) (Nat.le_of_ble_eq_true rfl) (t_word h) (fun r1 μ1 e1 => ?_)
  obtain ⟨rfl, q1⟩ := e1
  obtain rfl := q1.symm
  refine bc_istore_n dX10_factHere_4 (by decide) rfl ?_
  refine bc_iload_n dX10_factHere_5 rfl ?_
  refine bc_ldcSw (tx := "bread") (k := 13) dX10_factHere_6 (by decide) ?_
  refine bc_callS (z := mX10_of) dX10_factHere_9 lX10_223 qX10_of (by rfl) (by rfl) (Nat.le_of_ble_eq_true rfl) (t_of (K := 13) (by decide) (by decide)) (fun r9 μ9 e9 => ?_)
  obtain ⟨rfl, q9⟩ := e9
  obtain rfl := q9.symm
  refine bc_icmp_ne (tgt := 19) dX10_factHere_12 (by decide) (fun h12 => ?_) (fun h12 => ?_)
  · refine bc_iload_n dX10_factHere_19 rfl ?_
    refine bc_ldcSw (tx := "noses") (k := 14) dX10_factHere_20 (by decide) ?_
    refine bc_callS (z := mX10_of) dX10_factHere_23 lX10_223 qX10_of (by rfl) (by rfl) (Nat.le_of_ble_eq_true rfl) (t_of (K := 14) (by decide) (by decide)) (fun r23 μ23 e23 => ?_)
    obtain ⟨rfl, q23⟩ := e23
    obtain rfl := q23.symm
    refine bc_icmp_ne (tgt := 33) dX10_factHere_26 (by decide) (fun h26 => ?_) (fun h26 => ?_)
    · refine bc_iload_n dX10_factHere_33 rfl ?_
      refine bc_ldcSw (tx := "lit") (k := 15) dX10_factHere_34 (by decide) ?_
      refine bc_callS (z := mX10_of) dX10_factHere_37 lX10_223 qX10_of (by rfl) (by rfl) (Nat.le_of_ble_eq_true rfl) (t_of (K := 15) (by decide) (by decide)) (fun r37 μ37 e37 => ?_)
      obtain ⟨rfl, q37⟩ := e37
      obtain rfl := q37.symm
      refine bc_icmp_ne (tgt := 47) dX10_factHere_40 (by decide) (fun h40 => ?_) (fun h40 => ?_)
      · refine bc_iload_n dX10_factHere_47 rfl ?_
        refine bc_ldcSw (tx := "others") (k := 16) dX10_factHere_48 (by decide) ?_
        refine bc_callS (z := mX10_of) dX10_factHere_51 lX10_223 qX10_of (by rfl) (by rfl) (Nat.le_of_ble_eq_true rfl) (t_of (K := 16) (by decide) (by decide)) (fun r51 μ51 e51 => ?_)
        obtain ⟨rfl, q51⟩ := e51
        obtain rfl := q51.symm
        refine bc_icmp_ne (tgt := 61) dX10_factHere_54 (by decide) (fun h54 => ?_) (fun h54 => ?_)
        · refine bc_iload_n dX10_factHere_61 rfl ?_
          refine bc_ldcSw (tx := "onions") (k := 17) dX10_factHere_62 (by decide) ?_
          refine bc_callS (z := mX10_of) dX10_factHere_65 lX10_223 qX10_of (by rfl) (by rfl) (Nat.le_of_ble_eq_true rfl) (t_of (K := 17) (by decide) (by decide)) (fun r65 μ65 e65 => ?_)
          obtain ⟨rfl, q65⟩ := e65
          obtain rfl := q65.symm
          refine bc_icmp_ne (tgt := 75) dX10_factHere_68 (by decide) (fun h68 => ?_) (fun h68 => ?_)
          · refine bc_iload_n dX10_factHere_75 rfl ?_
            refine bc_ldcSw (tx := "side") (k := 18) dX10_factHere_76 (by decide) ?_
            refine bc_callS (z := mX10_of) dX10_factHere_79 lX10_223 qX10_of (by rfl) (by rfl) (Nat.le_of_ble_eq_true rfl) (t_of (K := 18) (by decide) (by decide)) (fun r79 μ79 e79 => ?_)
            obtain ⟨rfl, q79⟩ := e79
            obtain rfl := q79.symm
            refine bc_icmp_ne (tgt := 89) dX10_factHere_82 (by decide) (fun h82 => ?_) (fun h82 => ?_)
            · refine bc_iload_n dX10_factHere_89 rfl ?_
              refine bc_ldcSw (tx := "hour") (k := 19) dX10_factHere_90 (by decide) ?_
              refine bc_callS (z := mX10_of) dX10_factHere_93 lX10_223 qX10_of (by rfl) (by rfl) (Nat.le_of_ble_eq_true rfl) (t_of (K := 19) (by decide) (by decide)) (fun r93 μ93 e93 => ?_)
              obtain ⟨rfl, q93⟩ := e93
              obtain rfl := q93.symm
              refine bc_icmp_ne (tgt := 104) dX10_factHere_96 (by decide) (fun h96 => ?_) (fun h96 => ?_)
              · refine bc_iconst (v := (-1)) dX10_factHere_104 (by decide) ?_
                exact bc_ireturn dX10_factHere_105 rfl rfl (by
refine ⟨?_, rfl⟩
rw [fc_no]
intro K a b e
have hc : K = 13 ∨ K = 14 ∨ K = 15 ∨ K = 16 ∨ K = 17 ∨ K = 18 ∨ K = 19 := by omega
have w := (wc_iff (t := t) (K := K) (by omega) (by omega) hpn).mpr e
rcases hc with rfl | rfl | rfl | rfl | rfl | rfl | rfl
· exact h12 w
· exact h26 w
· exact h40 w
· exact h54 w
· exact h68 w
· exact h82 w
· exact h96 w)
              · refine bc_bipush (v := 6) dX10_factHere_99 (by decide) ?_
                refine bc_goto (tgt := 105) dX10_factHere_101 (by decide) ?_
                exact bc_ireturn dX10_factHere_105 rfl rfl (⟨by rw [yes 19 (by decide) (by decide) h96]; rfl, rfl⟩)
            · refine bc_iconst (v := 5) dX10_factHere_85 (by decide) ?_
              refine bc_goto (tgt := 105) dX10_factHere_86 (by decide) ?_
              exact bc_ireturn dX10_factHere_105 rfl rfl (⟨by rw [yes 18 (by decide) (by decide) h82]; rfl, rfl⟩)
          · refine bc_iconst (v := 4) dX10_factHere_71 (by decide) ?_
            refine bc_goto (tgt := 105) dX10_factHere_72 (by decide) ?_
            exact bc_ireturn dX10_factHere_105 rfl rfl (⟨by rw [yes 17 (by decide) (by decide) h68]; rfl, rfl⟩)
        · refine bc_iconst (v := 3) dX10_factHere_57 (by decide) ?_
          refine bc_goto (tgt := 105) dX10_factHere_58 (by decide) ?_
          exact bc_ireturn dX10_factHere_105 rfl rfl (⟨by rw [yes 16 (by decide) (by decide) h54]; rfl, rfl⟩)
      · refine bc_iconst (v := 2) dX10_factHere_43 (by decide) ?_
        refine bc_goto (tgt := 105) dX10_factHere_44 (by decide) ?_
        exact bc_ireturn dX10_factHere_105 rfl rfl (⟨by rw [yes 15 (by decide) (by decide) h40]; rfl, rfl⟩)
    · refine bc_iconst (v := 1) dX10_factHere_29 (by decide) ?_
      refine bc_goto (tgt := 105) dX10_factHere_30 (by decide) ?_
      exact bc_ireturn dX10_factHere_105 rfl rfl (⟨by rw [yes 14 (by decide) (by decide) h26]; rfl, rfl⟩)
  · refine bc_iconst (v := 0) dX10_factHere_15 (by decide) ?_
    refine bc_goto (tgt := 105) dX10_factHere_16 (by decide) ?_
    exact bc_ireturn dX10_factHere_105 rfl rfl (⟨by rw [yes 13 (by decide) (by decide) h12]; rfl, rfl⟩)
theorem bw2_at : (bw 2)[7]? = some (bc_byt.getD 11 []) ∧ (bw 2)[8]? = some (bc_byt.getD 12 []) := ⟨rfl, rfl⟩
theorem idx2 {l : List Int32} : (l = bc_byt.getD 11 [] → (bw 2).idxOf l = 7) ∧ (l = bc_byt.getD 12 [] → (bw 2).idxOf l = 8) := ⟨fun h => by rw [h]; rfl, fun h => by rw [h]; rfl⟩
theorem idx2' {l : List Int32} (h : (bw 2).idxOf l < 9) : (bw 2).idxOf l < 7 ∨ l = bc_byt.getD 11 [] ∨ l = bc_byt.getD 12 [] := by
  have hlt : (bw 2).idxOf l < (bw 2).length := h
  have e : (bw 2)[(bw 2).idxOf l] = l := List.getElem_idxOf hlt
  have e2 : (bw 2)[(bw 2).idxOf l]? = some l := by rw [List.getElem?_eq_getElem hlt, e]
  generalize (bw 2).idxOf l = i at h e2
  by_cases q : i < 7
  · exact .inl q
  · have hc : i = 7 ∨ i = 8 := by omega
    rcases hc with rfl | rfl
    · exact .inr (.inl (Option.some.inj e2).symm)
    · exact .inr (.inr (Option.some.inj e2).symm)
theorem wd_len {K : Nat} (hK : K < 24) (hK5 : 5 ≤ K) (hp : p ≤ n) (h : wd t n p = bc_byt.getD K []) : ltE t n p = p + bc_len.getD K 0 := by
  have := ((wd_iff hK hK5 hp).mp h).1
  have hge : p ≤ ltE t n p := rn_ge _ _ _ _
  omega
theorem t_unit {nest : Option (LSt → LSt)} {E : Nat} (hn : n ≤ 150) (hO : (nest = none ∧ op = 6) ∨ ∃ g, nest = some g ∧ op < 6 ∧ good n g ∧ Mok t n (E + 5) mX10_readSum [.ref 0] (op + 1) g ∧ Mok t n (E + 4) mX10_readSum [.ref 0] (op + 1) g) : Mok t n (E + 6) mX10_readUnit [.ref 0] op (pUt t n nest) := by
  intro μ S l h hl
  cases S with
  | inl f => exact (t_unitF h.1).weaken (fun r ν q => ⟨q.1, by rw [q.2]; exact rF.rf, by rw [q.2]; exact h⟩)
  | inr p =>
    refine bc_enter (by decide) (Nat.le_of_ble_eq_true rfl) rfl ?_
    obtain ⟨hl1, hpn⟩ := hl p rfl
    have hat := h.at'
    obtain ⟨μ1, hμ1⟩ : ∃ μ1, μ1 = bc_u μ 0 4 (nI p) := ⟨_, rfl⟩
    rw [← hμ1] at hat
    have hf1 : rF μ μ1 := by rw [hμ1]; exact rF.u0 (by omega)
    have q4 : μ1 0 4 = nI p := by rw [hμ1, bc_u_r, if_pos ⟨rfl, rfl⟩]
    have u4 : bc_u μ1 0 4 (nI p) = μ1 := u_self q4
    have e2 : μ1 2 = μ 2 := by rw [hμ1]; rfl
    have x40 := hx_eq (p := p) h.1.1.2.2 (c := 40) (by omega) (by omega)
    have hdg : (nI 48 ≤ hx (μ 2) n p ∧ hx (μ 2) n p ≤ nI 57) ↔ (p < n ∧ isDg (t p) = true) := by
      unfold hx
      by_cases q : p < n
      · rw [if_pos q, b8_dg (h.1.1.2.2 p q)]; exact ⟨fun z => ⟨q, z⟩, fun z => z.2⟩
      · rw [if_neg q]; exact ⟨fun z => absurd z (by decide), fun z => absurd z.1 q⟩
    by_cases c1 : p < n ∧ isDg (t p) = true
    · have eU : pUt t n nest (.inr p, l) = ((sNum t n 0 1000 (.inr p)).1, l ++ [(sNum t n 0 1000 (.inr p)).2]) := by simp only [pUt]; rw [if_pos c1]
      rw [eU]
      have n40 : ¬ (p < n ∧ t p = nI 40) := fun q => by
        have := isDg_iff.mp c1.2
        rw [q.2] at this
        exact absurd this (by decide)
      refine bc_aload_n dX10_readUnit_0 rfl ?_
      refine bc_callV (z := mX10_fine) (ci := 10) dX10_readUnit_1 lX10_147 qX10_fine (by rfl) (by rfl) (by rfl) (by rfl) (Nat.le_of_ble_eq_true rfl) (t_fineY rfl h.1) (fun r1 μ1 e1 => ?_)
      obtain ⟨rfl, q1⟩ := e1
      obtain rfl := q1.symm
      refine bc_if_ne (tgt := 8) dX10_readUnit_4 (by decide) (fun h4 => ?_) (fun h4 => absurd h4 (by decide))
      refine bc_aload_n dX10_readUnit_8 rfl ?_
      refine bc_callV (z := mX10_here) (ci := 10) dX10_readUnit_9 lX10_130 qX10_here (by rfl) (by rfl) (by rfl) (by rfl) (Nat.le_of_ble_eq_true rfl) (t_here h.1) (fun r9 μ9 e9 => ?_)
      obtain ⟨rfl, q9⟩ := e9
      obtain rfl := q9.symm
      rw [← hμ1]
      refine bc_bipush (v := 40) dX10_readUnit_12 (by decide) ?_
      refine bc_icmp_ne (tgt := 45) dX10_readUnit_14 (by decide) (fun h14 => ?_) (fun h14 => absurd h14 (fun q => n40 (x40.mp q)))
      refine bc_aload_n dX10_readUnit_45 rfl ?_
      refine bc_callV (z := mX10_here) (ci := 10) dX10_readUnit_46 lX10_130 qX10_here (by rfl) (by rfl) (by rfl) (by rfl) (Nat.le_of_ble_eq_true rfl) (t_here hat.1) (fun r46 μ46 e46 => ?_)
      obtain ⟨rfl, q46⟩ := e46
      obtain rfl := q46.symm
      rw [e2, u4]
      refine bc_callS (z := mX10_isDigit) dX10_readUnit_49 lX10_151 qX10_isDigit (by rfl) (by rfl) (Nat.le_of_ble_eq_true rfl) (t_isDigit _) (fun r49 μ49 e49 => ?_)
      obtain ⟨rfl, q49⟩ := e49
      obtain rfl := q49.symm
      refine bc_if_eq (tgt := 71) dX10_readUnit_52 (by decide) (fun h52 => absurd h52 (fun q => ite0.mp q (hdg.mpr c1))) (fun h52 => ?_)
      refine bc_aload_n dX10_readUnit_55 rfl ?_
      refine bc_iconst (v := 0) dX10_readUnit_56 (by decide) ?_
      refine bc_aload_n dX10_readUnit_57 rfl ?_
      refine bc_iconst (v := 0) dX10_readUnit_58 (by decide) ?_
      refine bc_sipush (v := 999) dX10_readUnit_59 (by decide) ?_
      refine bc_callV (z := mX10_readNumber) (ci := 10) dX10_readUnit_62 lX10_232 qX10_readNumber (by rfl) (by rfl) (by rfl) (by rfl) (Nat.le_of_ble_eq_true rfl) (t_readNumber (lo := 0) (hi := 1000) (hv := 999) hat.1 (by omega) (by omega) rfl) (fun r62 μ62 e62 => ?_)
      obtain ⟨rfl, f62, s62⟩ := e62
      refine bc_callV (z := mX10_emit) (ci := 10) dX10_readUnit_65 lX10_272 qX10_emit (by rfl) (by rfl) (by rfl) (by rfl) (Nat.le_of_ble_eq_true rfl) (t_emit (x := (sNum t n 0 1000 (.inr p)).2) (l := l) (hat.mv f62 s62 (fun p' hp' => ⟨p, rfl⟩)) (fun p' hp' => by
obtain ⟨⟨p0, e0, g1, g2⟩, -, g3⟩ := sNum_ok hp'
cases e0
exact ⟨.inl ⟨by rw [show (1000 : Int32) = nI 1000 from rfl, bn_ltN (by omega) (by omega)]; exact g3, rfl, rfl⟩, by omega⟩)) (fun r65 μ65 e65 => ?_)
      obtain ⟨rfl, f65, s65⟩ := e65
      refine bc_goto (tgt := 154) dX10_readUnit_68 (by decide) ?_
      exact bc_return dX10_readUnit_154 rfl (⟨rfl, (hf1.tr f62.rF).tr f65, s65⟩)
    · by_cases c2 : p < n ∧ t p = nI 40
      · have hgo := hat.go (a := p + 1) (by omega)
        rcases hO with ⟨rfl, rfl⟩ | ⟨g, rfl, hop, hg, hG5, hG4⟩
        · have eU : pUt t n none (.inr p, l) = (.inl (3, p), l) := by simp only [pUt]; rw [if_neg c1]; exact if_pos c2
          rw [eU]
          refine bc_aload_n dX10_readUnit_0 rfl ?_
          refine bc_callV (z := mX10_fine) (ci := 10) dX10_readUnit_1 lX10_147 qX10_fine (by rfl) (by rfl) (by rfl) (by rfl) (Nat.le_of_ble_eq_true rfl) (t_fineY rfl h.1) (fun r1 μ1 e1 => ?_)
          obtain ⟨rfl, q1⟩ := e1
          obtain rfl := q1.symm
          refine bc_if_ne (tgt := 8) dX10_readUnit_4 (by decide) (fun h4 => ?_) (fun h4 => absurd h4 (by decide))
          refine bc_aload_n dX10_readUnit_8 rfl ?_
          refine bc_callV (z := mX10_here) (ci := 10) dX10_readUnit_9 lX10_130 qX10_here (by rfl) (by rfl) (by rfl) (by rfl) (Nat.le_of_ble_eq_true rfl) (t_here h.1) (fun r9 μ9 e9 => ?_)
          obtain ⟨rfl, q9⟩ := e9
          obtain rfl := q9.symm
          rw [x40.mpr c2, ← hμ1]
          refine bc_bipush (v := 40) dX10_readUnit_12 (by decide) ?_
          refine bc_icmp_ne (tgt := 45) dX10_readUnit_14 (by decide) (fun h14 => absurd h14 (fun q => q rfl)) (fun h14 => ?_)
          refine bc_aload_n dX10_readUnit_17 rfl ?_
          refine bc_iconst (v := 1) dX10_readUnit_18 (by decide) ?_
          refine bc_callV (z := mX10_opensOne) (ci := 10) dX10_readUnit_19 lX10_278 qX10_opensOne (by rfl) (by rfl) (by rfl) (by rfl) (Nat.le_of_ble_eq_true rfl) (t_opensF hat q4) (fun r19 μ19 e19 => ?_)
          obtain ⟨rfl, f19, s19⟩ := e19
          refine bc_aload_n dX10_readUnit_22 rfl ?_
          refine bc_callV (z := mX10_readSum) (ci := 10) dX10_readUnit_23 lX10_281 qX10_readSum (by rfl) (by rfl) (by rfl) (by rfl) (Nat.le_of_ble_eq_true rfl) (t_sumF s19.1) (fun r23 μ23 e23 => ?_)
          obtain ⟨rfl, q23⟩ := e23
          obtain rfl := q23.symm
          refine bc_aload_n dX10_readUnit_26 rfl ?_
          refine bc_bipush (v := 41) dX10_readUnit_27 (by decide) ?_
          refine bc_callV (z := mX10_sign) (ci := 10) dX10_readUnit_29 lX10_259 qX10_sign (by rfl) (by rfl) (by rfl) (by rfl) (Nat.le_of_ble_eq_true rfl) (t_sign (c := 41) s19.1 (by omega) (by omega)) (fun r29 μ29 e29 => ?_)
          obtain ⟨rfl, f29, s29⟩ := e29
          have s29' : lm t n (.inl (3, p)) l 7 μ29 := s19.mv f29 s29 (fun p' hp' => by cases hp')
          refine bc_aload_n dX10_readUnit_32 rfl ?_
          refine bc_dup dX10_readUnit_33 rfl ?_
          refine bc_geti dX10_readUnit_34 fX10_158 (rfl) rfl ?_
          rw [s29'.2.1]
          refine bc_iconst (v := 1) dX10_readUnit_37 (by decide) ?_
          refine bc_isub dX10_readUnit_38 ?_
          refine bc_put dX10_readUnit_39 fX10_158 ftX10 fpX10_7 rfl rfl (rfl) rfl ?_
          refine bc_goto (tgt := 154) dX10_readUnit_42 (by decide) ?_
          exact bc_return dX10_readUnit_154 rfl (⟨rfl, ((hf1.tr f19).tr f29.rF).tr (rF.u0 (by omega)), s29'.o1 (op := 6)⟩)
        · have eU : pUt t n (some g) (.inr p, l) = (sNeed t n 41 (g (.inr (skp t n (p + 1)), l)).1, (g (.inr (skp t n (p + 1)), l)).2) := by simp only [pUt]; rw [if_neg c1]; exact if_pos c2
          rw [eU]
          have hsk : p + 1 ≤ skp t n (p + 1) := rn_ge _ _ _ _
          have hsn : skp t n (p + 1) ≤ n := rn_le (by omega)
          refine bc_aload_n dX10_readUnit_0 rfl ?_
          refine bc_callV (z := mX10_fine) (ci := 10) dX10_readUnit_1 lX10_147 qX10_fine (by rfl) (by rfl) (by rfl) (by rfl) (Nat.le_of_ble_eq_true rfl) (t_fineY rfl h.1) (fun r1 μ1 e1 => ?_)
          obtain ⟨rfl, q1⟩ := e1
          obtain rfl := q1.symm
          refine bc_if_ne (tgt := 8) dX10_readUnit_4 (by decide) (fun h4 => ?_) (fun h4 => absurd h4 (by decide))
          refine bc_aload_n dX10_readUnit_8 rfl ?_
          refine bc_callV (z := mX10_here) (ci := 10) dX10_readUnit_9 lX10_130 qX10_here (by rfl) (by rfl) (by rfl) (by rfl) (Nat.le_of_ble_eq_true rfl) (t_here h.1) (fun r9 μ9 e9 => ?_)
          obtain ⟨rfl, q9⟩ := e9
          obtain rfl := q9.symm
          rw [x40.mpr c2, ← hμ1]
          refine bc_bipush (v := 40) dX10_readUnit_12 (by decide) ?_
          refine bc_icmp_ne (tgt := 45) dX10_readUnit_14 (by decide) (fun h14 => absurd h14 (fun q => q rfl)) (fun h14 => ?_)
          refine bc_aload_n dX10_readUnit_17 rfl ?_
          refine bc_iconst (v := 1) dX10_readUnit_18 (by decide) ?_
          refine bc_callV (z := mX10_opensOne) (ci := 10) dX10_readUnit_19 lX10_278 qX10_opensOne (by rfl) (by rfl) (by rfl) (by rfl) (Nat.le_of_ble_eq_true rfl) (t_opensY (b := 1) hop hat q4 (by omega)) (fun r19 μ19 e19 => ?_)
          obtain ⟨rfl, f19, s19⟩ := e19
          refine bc_aload_n dX10_readUnit_22 rfl ?_
          refine bc_callV (z := mX10_readSum) (ci := 10) dX10_readUnit_23 lX10_281 qX10_readSum (by rfl) (by rfl) (by rfl) (by rfl) (Nat.le_of_ble_eq_true rfl) (hG5 _ _ l s19 (fun z hz => by cases hz; omega)) (fun r23 μ23 e23 => ?_)
          obtain ⟨rfl, f23, s23⟩ := e23
          refine bc_aload_n dX10_readUnit_26 rfl ?_
          refine bc_bipush (v := 41) dX10_readUnit_27 (by decide) ?_
          refine bc_callV (z := mX10_sign) (ci := 10) dX10_readUnit_29 lX10_259 qX10_sign (by rfl) (by rfl) (by rfl) (by rfl) (Nat.le_of_ble_eq_true rfl) (t_sign (c := 41) s23.1 (by omega) (by omega)) (fun r29 μ29 e29 => ?_)
          obtain ⟨rfl, f29, s29⟩ := e29
          have s29' := s23.sgn f29 s29
          refine bc_aload_n dX10_readUnit_32 rfl ?_
          refine bc_dup dX10_readUnit_33 rfl ?_
          refine bc_geti dX10_readUnit_34 fX10_158 (rfl) rfl ?_
          rw [s29'.2.1]
          refine bc_iconst (v := 1) dX10_readUnit_37 (by decide) ?_
          refine bc_isub dX10_readUnit_38 ?_
          refine bc_put dX10_readUnit_39 fX10_158 ftX10 fpX10_7 rfl rfl (rfl) rfl ?_
          refine bc_goto (tgt := 154) dX10_readUnit_42 (by decide) ?_
          exact bc_return dX10_readUnit_154 rfl (⟨rfl, (((hf1.tr f19).tr f23).tr f29.rF).tr (rF.u0 (by omega)), s29'.o1⟩)
      · have c2' : ¬ (p < n ∧ t p = 40) := c2
        have w11 := wc_iff (t := t) (K := 11) (by decide) (by decide) hpn
        have w12 := wc_iff (t := t) (K := 12) (by decide) (by decide) hpn
        by_cases c3 : wd t n p = bc_byt.getD 11 [] ∨ wd t n p = bc_byt.getD 12 []
        · have hfd : (bw 2).idxOf (wd t n p) < (bw 2).length := by
            rcases c3 with q | q
            · rw [idx2.1 q]; decide
            · rw [idx2.2 q]; decide
          have eS : sWrd t n (bw 2) (.inr p) = (.inr (skp t n (ltE t n p)), (bw 2).idxOf (wd t n p)) := by simp only [sWrd]; rw [if_pos hfd]
          have hle : ltE t n p ≤ n := rn_le hpn
          have n7 : ¬ (bw 2).idxOf (wd t n p) < 7 ∧ ¬ (bw 2).idxOf (wd t n p) = 99 := by
            rcases c3 with q | q
            · rw [idx2.1 q]; decide
            · rw [idx2.2 q]; decide
          rcases hO with ⟨rfl, rfl⟩ | ⟨g, rfl, hop, hg, hG5, hG4⟩
          · have eU : pUt t n none (.inr p, l) = (.inl (3, p), l) := by
              simp only [pUt]
              rw [if_neg c1, if_neg c2', eS]
              show (if (bw 2).idxOf (wd t n p) < 7 then _ else if (bw 2).idxOf (wd t n p) = 99 then _ else _) = _
              rw [if_neg n7.1, if_neg n7.2]
            rw [eU]
            refine bc_aload_n dX10_readUnit_0 rfl ?_
            refine bc_callV (z := mX10_fine) (ci := 10) dX10_readUnit_1 lX10_147 qX10_fine (by rfl) (by rfl) (by rfl) (by rfl) (Nat.le_of_ble_eq_true rfl) (t_fineY rfl h.1) (fun r1 μ1 e1 => ?_)
            obtain ⟨rfl, q1⟩ := e1
            obtain rfl := q1.symm
            refine bc_if_ne (tgt := 8) dX10_readUnit_4 (by decide) (fun h4 => ?_) (fun h4 => absurd h4 (by decide))
            refine bc_aload_n dX10_readUnit_8 rfl ?_
            refine bc_callV (z := mX10_here) (ci := 10) dX10_readUnit_9 lX10_130 qX10_here (by rfl) (by rfl) (by rfl) (by rfl) (Nat.le_of_ble_eq_true rfl) (t_here h.1) (fun r9 μ9 e9 => ?_)
            obtain ⟨rfl, q9⟩ := e9
            obtain rfl := q9.symm
            rw [← hμ1]
            refine bc_bipush (v := 40) dX10_readUnit_12 (by decide) ?_
            refine bc_icmp_ne (tgt := 45) dX10_readUnit_14 (by decide) (fun h14 => ?_) (fun h14 => absurd h14 (fun q => c2 (x40.mp q)))
            refine bc_aload_n dX10_readUnit_45 rfl ?_
            refine bc_callV (z := mX10_here) (ci := 10) dX10_readUnit_46 lX10_130 qX10_here (by rfl) (by rfl) (by rfl) (by rfl) (Nat.le_of_ble_eq_true rfl) (t_here hat.1) (fun r46 μ46 e46 => ?_)
            obtain ⟨rfl, q46⟩ := e46
            obtain rfl := q46.symm
            rw [e2, u4]
            refine bc_callS (z := mX10_isDigit) dX10_readUnit_49 lX10_151 qX10_isDigit (by rfl) (by rfl) (Nat.le_of_ble_eq_true rfl) (t_isDigit _) (fun r49 μ49 e49 => ?_)
            obtain ⟨rfl, q49⟩ := e49
            obtain rfl := q49.symm
            refine bc_if_eq (tgt := 71) dX10_readUnit_52 (by decide) (fun h52 => ?_) (fun h52 => absurd h52 (fun q => q (ite0.mpr (fun z => c1 (hdg.mp z)))))
            refine bc_aload_n dX10_readUnit_71 rfl ?_
            refine bc_callV (z := mX10_word) (ci := 10) dX10_readUnit_72 lX10_219 qX10_word (by rfl) (by rfl) (by rfl) (by rfl) (Nat.le_of_ble_eq_true rfl) (t_word hat.1) (fun r72 μ72 e72 => ?_)
            obtain ⟨rfl, q72⟩ := e72
            obtain rfl := q72.symm
            rw [u4]
            refine bc_ldcSw (tx := "least") (k := 11) dX10_readUnit_75 (by decide) ?_
            refine bc_callS (z := mX10_of) dX10_readUnit_78 lX10_223 qX10_of (by rfl) (by rfl) (Nat.le_of_ble_eq_true rfl) (t_of (K := 11) (by decide) (by decide)) (fun r78 μ78 e78 => ?_)
            obtain ⟨rfl, q78⟩ := e78
            obtain rfl := q78.symm
            refine bc_icmp_ne (tgt := 94) dX10_readUnit_81 (by decide) (fun h81 => ?_) (fun h81 => ?_)
            · refine bc_aload_n dX10_readUnit_94 rfl ?_
              refine bc_callV (z := mX10_word) (ci := 10) dX10_readUnit_95 lX10_219 qX10_word (by rfl) (by rfl) (by rfl) (by rfl) (Nat.le_of_ble_eq_true rfl) (t_word hat.1) (fun r95 μ95 e95 => ?_)
              obtain ⟨rfl, q95⟩ := e95
              obtain rfl := q95.symm
              rw [u4]
              refine bc_ldcSw (tx := "most") (k := 12) dX10_readUnit_98 (by decide) ?_
              refine bc_callS (z := mX10_of) dX10_readUnit_101 lX10_223 qX10_of (by rfl) (by rfl) (Nat.le_of_ble_eq_true rfl) (t_of (K := 12) (by decide) (by decide)) (fun r101 μ101 e101 => ?_)
              obtain ⟨rfl, q101⟩ := e101
              obtain rfl := q101.symm
              refine bc_icmp_ne (tgt := 117) dX10_readUnit_104 (by decide) (fun h104 => absurd h104 (fun q => c3.elim (fun z => h81 (w11.mpr z)) (fun z => q (w12.mpr z)))) (fun h104 => ?_)
              refine bc_aload_n dX10_readUnit_107 rfl ?_
              refine bc_iconst (v := 4) dX10_readUnit_108 (by decide) ?_
              refine bc_bipush (v := 7) dX10_readUnit_109 (by decide) ?_
              refine bc_callV (z := mX10_readTwo) (ci := 10) dX10_readUnit_111 lX10_300 qX10_readTwo (by rfl) (by rfl) (by rfl) (by rfl) (Nat.le_of_ble_eq_true rfl) (t_twoF hat q4) (fun r111 μ111 e111 => ?_)
              obtain ⟨rfl, f111, s111⟩ := e111
              refine bc_goto (tgt := 154) dX10_readUnit_114 (by decide) ?_
              exact bc_return dX10_readUnit_154 rfl (⟨rfl, hf1.tr f111, s111⟩)
            · refine bc_aload_n dX10_readUnit_84 rfl ?_
              refine bc_iconst (v := 5) dX10_readUnit_85 (by decide) ?_
              refine bc_bipush (v := 6) dX10_readUnit_86 (by decide) ?_
              refine bc_callV (z := mX10_readTwo) (ci := 10) dX10_readUnit_88 lX10_300 qX10_readTwo (by rfl) (by rfl) (by rfl) (by rfl) (Nat.le_of_ble_eq_true rfl) (t_twoF hat q4) (fun r88 μ88 e88 => ?_)
              obtain ⟨rfl, f88, s88⟩ := e88
              refine bc_goto (tgt := 154) dX10_readUnit_91 (by decide) ?_
              exact bc_return dX10_readUnit_154 rfl (⟨rfl, hf1.tr f88, s88⟩)
          · have eU : pUt t n (some g) (.inr p, l) = pTwo t n g (if (bw 2).idxOf (wd t n p) = 7 then 1012 else 1013) (.inr (skp t n (ltE t n p)), l) := by
              simp only [pUt]
              rw [if_neg c1, if_neg c2', eS]
              show (if (bw 2).idxOf (wd t n p) < 7 then _ else if (bw 2).idxOf (wd t n p) = 99 then _ else _) = _
              rw [if_neg n7.1, if_neg n7.2]
            rw [eU]
            refine bc_aload_n dX10_readUnit_0 rfl ?_
            refine bc_callV (z := mX10_fine) (ci := 10) dX10_readUnit_1 lX10_147 qX10_fine (by rfl) (by rfl) (by rfl) (by rfl) (Nat.le_of_ble_eq_true rfl) (t_fineY rfl h.1) (fun r1 μ1 e1 => ?_)
            obtain ⟨rfl, q1⟩ := e1
            obtain rfl := q1.symm
            refine bc_if_ne (tgt := 8) dX10_readUnit_4 (by decide) (fun h4 => ?_) (fun h4 => absurd h4 (by decide))
            refine bc_aload_n dX10_readUnit_8 rfl ?_
            refine bc_callV (z := mX10_here) (ci := 10) dX10_readUnit_9 lX10_130 qX10_here (by rfl) (by rfl) (by rfl) (by rfl) (Nat.le_of_ble_eq_true rfl) (t_here h.1) (fun r9 μ9 e9 => ?_)
            obtain ⟨rfl, q9⟩ := e9
            obtain rfl := q9.symm
            rw [← hμ1]
            refine bc_bipush (v := 40) dX10_readUnit_12 (by decide) ?_
            refine bc_icmp_ne (tgt := 45) dX10_readUnit_14 (by decide) (fun h14 => ?_) (fun h14 => absurd h14 (fun q => c2 (x40.mp q)))
            refine bc_aload_n dX10_readUnit_45 rfl ?_
            refine bc_callV (z := mX10_here) (ci := 10) dX10_readUnit_46 lX10_130 qX10_here (by rfl) (by rfl) (by rfl) (by rfl) (Nat.le_of_ble_eq_true rfl) (t_here hat.1) (fun r46 μ46 e46 => ?_)
            obtain ⟨rfl, q46⟩ := e46
            obtain rfl := q46.symm
            rw [e2, u4]
            refine bc_callS (z := mX10_isDigit) dX10_readUnit_49 lX10_151 qX10_isDigit (by rfl) (by rfl) (Nat.le_of_ble_eq_true rfl) (t_isDigit _) (fun r49 μ49 e49 => ?_)
            obtain ⟨rfl, q49⟩ := e49
            obtain rfl := q49.symm
            refine bc_if_eq (tgt := 71) dX10_readUnit_52 (by decide) (fun h52 => ?_) (fun h52 => absurd h52 (fun q => q (ite0.mpr (fun z => c1 (hdg.mp z)))))
            refine bc_aload_n dX10_readUnit_71 rfl ?_
            refine bc_callV (z := mX10_word) (ci := 10) dX10_readUnit_72 lX10_219 qX10_word (by rfl) (by rfl) (by rfl) (by rfl) (Nat.le_of_ble_eq_true rfl) (t_word hat.1) (fun r72 μ72 e72 => ?_)
            obtain ⟨rfl, q72⟩ := e72
            obtain rfl := q72.symm
            rw [u4]
            refine bc_ldcSw (tx := "least") (k := 11) dX10_readUnit_75 (by decide) ?_
            refine bc_callS (z := mX10_of) dX10_readUnit_78 lX10_223 qX10_of (by rfl) (by rfl) (Nat.le_of_ble_eq_true rfl) (t_of (K := 11) (by decide) (by decide)) (fun r78 μ78 e78 => ?_)
            obtain ⟨rfl, q78⟩ := e78
            obtain rfl := q78.symm
            refine bc_icmp_ne (tgt := 94) dX10_readUnit_81 (by decide) (fun h81 => ?_) (fun h81 => ?_)
            · refine bc_aload_n dX10_readUnit_94 rfl ?_
              refine bc_callV (z := mX10_word) (ci := 10) dX10_readUnit_95 lX10_219 qX10_word (by rfl) (by rfl) (by rfl) (by rfl) (Nat.le_of_ble_eq_true rfl) (t_word hat.1) (fun r95 μ95 e95 => ?_)
              obtain ⟨rfl, q95⟩ := e95
              obtain rfl := q95.symm
              rw [u4]
              refine bc_ldcSw (tx := "most") (k := 12) dX10_readUnit_98 (by decide) ?_
              refine bc_callS (z := mX10_of) dX10_readUnit_101 lX10_223 qX10_of (by rfl) (by rfl) (Nat.le_of_ble_eq_true rfl) (t_of (K := 12) (by decide) (by decide)) (fun r101 μ101 e101 => ?_)
              obtain ⟨rfl, q101⟩ := e101
              obtain rfl := q101.symm
              refine bc_icmp_ne (tgt := 117) dX10_readUnit_104 (by decide) (fun h104 => absurd h104 (fun q => c3.elim (fun z => h81 (w11.mpr z)) (fun z => q (w12.mpr z)))) (fun h104 => ?_)
              have e12 := w12.mp h104
              have l12 : ltE t n p = p + 4 := wd_len (K := 12) (by decide) (by decide) hpn e12
              rw [idx2.2 e12, l12]
              refine bc_aload_n dX10_readUnit_107 rfl ?_
              refine bc_iconst (v := 4) dX10_readUnit_108 (by decide) ?_
              refine bc_bipush (v := 7) dX10_readUnit_109 (by decide) ?_
              refine bc_callV (z := mX10_readTwo) (ci := 10) dX10_readUnit_111 lX10_300 qX10_readTwo (by rfl) (by rfl) (by rfl) (by rfl) (Nat.le_of_ble_eq_true rfl) (t_twoY (b := 4) (c := 1013) (D := E + 3) hn hop hg hG4 hat q4 (by omega) hl1 (by unfold cR; decide)) (fun r111 μ111 e111 => ?_)
              obtain ⟨rfl, f111, s111⟩ := e111
              refine bc_goto (tgt := 154) dX10_readUnit_114 (by decide) ?_
              exact bc_return dX10_readUnit_154 rfl (⟨rfl, hf1.tr f111, s111⟩)
            · have e11 := w11.mp h81
              have l11 : ltE t n p = p + 5 := wd_len (K := 11) (by decide) (by decide) hpn e11
              rw [idx2.1 e11, l11]
              refine bc_aload_n dX10_readUnit_84 rfl ?_
              refine bc_iconst (v := 5) dX10_readUnit_85 (by decide) ?_
              refine bc_bipush (v := 6) dX10_readUnit_86 (by decide) ?_
              refine bc_callV (z := mX10_readTwo) (ci := 10) dX10_readUnit_88 lX10_300 qX10_readTwo (by rfl) (by rfl) (by rfl) (by rfl) (Nat.le_of_ble_eq_true rfl) (t_twoY (b := 5) (c := 1012) (D := E + 3) hn hop hg hG4 hat q4 (by omega) hl1 (by unfold cR; decide)) (fun r88 μ88 e88 => ?_)
              obtain ⟨rfl, f88, s88⟩ := e88
              refine bc_goto (tgt := 154) dX10_readUnit_91 (by decide) ?_
              exact bc_return dX10_readUnit_154 rfl (⟨rfl, hf1.tr f88, s88⟩)
        · have n11 : ¬ wd t n p = bc_byt.getD 11 [] := fun q => c3 (.inl q)
          have n12 : ¬ wd t n p = bc_byt.getD 12 [] := fun q => c3 (.inr q)
          by_cases c4 : (bw 2).idxOf (wd t n p) < 7
          · have hfd : (bw 2).idxOf (wd t n p) < (bw 2).length := Nat.lt_trans c4 (by decide)
            have eS : sWrd t n (bw 2) (.inr p) = (.inr (skp t n (ltE t n p)), (bw 2).idxOf (wd t n p)) := by simp only [sWrd]; rw [if_pos hfd]
            have eU : pUt t n nest (.inr p, l) = (.inr (skp t n (ltE t n p)), l ++ [1000 + (bw 2).idxOf (wd t n p)]) := by
              simp only [pUt]
              rw [if_neg c1, if_neg c2', eS]
              exact if_pos c4
            have eV : fcV (wd t n p) = nI ((bw 2).idxOf (wd t n p)) := by rw [fcV, if_pos c4]
            rw [eU]
            have hle : ltE t n p ≤ n := rn_le hpn
            have hgo := hat.go hle
            have hW := sWrd_ok (t := t) (p := p) bw2_ne (by rw [eS]) hpn
            generalize (bw 2).idxOf (wd t n p) = i at c4 eV ⊢
            refine bc_aload_n dX10_readUnit_0 rfl ?_
            refine bc_callV (z := mX10_fine) (ci := 10) dX10_readUnit_1 lX10_147 qX10_fine (by rfl) (by rfl) (by rfl) (by rfl) (Nat.le_of_ble_eq_true rfl) (t_fineY rfl h.1) (fun r1 μ1 e1 => ?_)
            obtain ⟨rfl, q1⟩ := e1
            obtain rfl := q1.symm
            refine bc_if_ne (tgt := 8) dX10_readUnit_4 (by decide) (fun h4 => ?_) (fun h4 => absurd h4 (by decide))
            refine bc_aload_n dX10_readUnit_8 rfl ?_
            refine bc_callV (z := mX10_here) (ci := 10) dX10_readUnit_9 lX10_130 qX10_here (by rfl) (by rfl) (by rfl) (by rfl) (Nat.le_of_ble_eq_true rfl) (t_here h.1) (fun r9 μ9 e9 => ?_)
            obtain ⟨rfl, q9⟩ := e9
            obtain rfl := q9.symm
            rw [← hμ1]
            refine bc_bipush (v := 40) dX10_readUnit_12 (by decide) ?_
            refine bc_icmp_ne (tgt := 45) dX10_readUnit_14 (by decide) (fun h14 => ?_) (fun h14 => absurd h14 (fun q => c2 (x40.mp q)))
            refine bc_aload_n dX10_readUnit_45 rfl ?_
            refine bc_callV (z := mX10_here) (ci := 10) dX10_readUnit_46 lX10_130 qX10_here (by rfl) (by rfl) (by rfl) (by rfl) (Nat.le_of_ble_eq_true rfl) (t_here hat.1) (fun r46 μ46 e46 => ?_)
            obtain ⟨rfl, q46⟩ := e46
            obtain rfl := q46.symm
            rw [e2, u4]
            refine bc_callS (z := mX10_isDigit) dX10_readUnit_49 lX10_151 qX10_isDigit (by rfl) (by rfl) (Nat.le_of_ble_eq_true rfl) (t_isDigit _) (fun r49 μ49 e49 => ?_)
            obtain ⟨rfl, q49⟩ := e49
            obtain rfl := q49.symm
            refine bc_if_eq (tgt := 71) dX10_readUnit_52 (by decide) (fun h52 => ?_) (fun h52 => absurd h52 (fun q => q (ite0.mpr (fun z => c1 (hdg.mp z)))))
            refine bc_aload_n dX10_readUnit_71 rfl ?_
            refine bc_callV (z := mX10_word) (ci := 10) dX10_readUnit_72 lX10_219 qX10_word (by rfl) (by rfl) (by rfl) (by rfl) (Nat.le_of_ble_eq_true rfl) (t_word hat.1) (fun r72 μ72 e72 => ?_)
            obtain ⟨rfl, q72⟩ := e72
            obtain rfl := q72.symm
            rw [u4]
            refine bc_ldcSw (tx := "least") (k := 11) dX10_readUnit_75 (by decide) ?_
            refine bc_callS (z := mX10_of) dX10_readUnit_78 lX10_223 qX10_of (by rfl) (by rfl) (Nat.le_of_ble_eq_true rfl) (t_of (K := 11) (by decide) (by decide)) (fun r78 μ78 e78 => ?_)
            obtain ⟨rfl, q78⟩ := e78
            obtain rfl := q78.symm
            refine bc_icmp_ne (tgt := 94) dX10_readUnit_81 (by decide) (fun h81 => ?_) (fun h81 => absurd h81 (fun q => n11 (w11.mp q)))
            refine bc_aload_n dX10_readUnit_94 rfl ?_
            refine bc_callV (z := mX10_word) (ci := 10) dX10_readUnit_95 lX10_219 qX10_word (by rfl) (by rfl) (by rfl) (by rfl) (Nat.le_of_ble_eq_true rfl) (t_word hat.1) (fun r95 μ95 e95 => ?_)
            obtain ⟨rfl, q95⟩ := e95
            obtain rfl := q95.symm
            rw [u4]
            refine bc_ldcSw (tx := "most") (k := 12) dX10_readUnit_98 (by decide) ?_
            refine bc_callS (z := mX10_of) dX10_readUnit_101 lX10_223 qX10_of (by rfl) (by rfl) (Nat.le_of_ble_eq_true rfl) (t_of (K := 12) (by decide) (by decide)) (fun r101 μ101 e101 => ?_)
            obtain ⟨rfl, q101⟩ := e101
            obtain rfl := q101.symm
            refine bc_icmp_ne (tgt := 117) dX10_readUnit_104 (by decide) (fun h104 => ?_) (fun h104 => absurd h104 (fun q => n12 (w12.mp q)))
            refine bc_aload_n dX10_readUnit_117 rfl ?_
            refine bc_callV (z := mX10_factHere) (ci := 10) dX10_readUnit_118 lX10_305 qX10_factHere (by rfl) (by rfl) (by rfl) (by rfl) (Nat.le_of_ble_eq_true rfl) (t_factHere hat.1) (fun r118 μ118 e118 => ?_)
            obtain ⟨rfl, q118⟩ := e118
            obtain rfl := q118.symm
            rw [u4, eV]
            refine bc_istore_n dX10_readUnit_121 (by decide) rfl ?_
            refine bc_iload_n dX10_readUnit_122 rfl ?_
            refine bc_iconst (v := (-1)) dX10_readUnit_123 (by decide) ?_
            refine bc_icmp_ne (tgt := 136) dX10_readUnit_124 (by decide) (fun h124 => ?_) (fun h124 => absurd h124 (nI_m1 (by omega)))
            refine bc_aload_n dX10_readUnit_136 rfl ?_
            refine bc_callV (z := mX10_fine) (ci := 10) dX10_readUnit_137 lX10_147 qX10_fine (by rfl) (by rfl) (by rfl) (by rfl) (Nat.le_of_ble_eq_true rfl) (t_fineY rfl hat.1) (fun r137 μ137 e137 => ?_)
            obtain ⟨rfl, q137⟩ := e137
            obtain rfl := q137.symm
            refine bc_if_ne (tgt := 144) dX10_readUnit_140 (by decide) (fun h140 => ?_) (fun h140 => absurd h140 (by decide))
            refine bc_aload_n dX10_readUnit_144 rfl ?_
            refine bc_callV (z := mX10_pass) (ci := 10) dX10_readUnit_145 lX10_253 qX10_pass (by rfl) (by rfl) (by rfl) (by rfl) (Nat.le_of_ble_eq_true rfl) (t_pass' hat.1.1 hpn q4) (fun r145 μ145 e145 => ?_)
            obtain ⟨rfl, q145⟩ := e145
            obtain rfl := q145.symm
            refine bc_aload_n dX10_readUnit_148 rfl ?_
            refine bc_iconst (v := 1) dX10_readUnit_149 (by decide) ?_
            refine bc_iload_n dX10_readUnit_150 rfl ?_
            refine bc_callV (z := mX10_emit) (ci := 10) dX10_readUnit_151 lX10_272 qX10_emit (by rfl) (by rfl) (by rfl) (by rfl) (Nat.le_of_ble_eq_true rfl) (t_emit (x := 1000 + i) hgo (fun p' hp' => ⟨.inr (.inl ⟨by rw [show (1000 : Int32) = nI 1000 from rfl, bn_ltN (by omega) (by omega)]; omega, by rw [show (1007 : Int32) = nI 1007 from rfl, bn_ltN (by omega) (by omega)]; omega, rfl, by rw [ixS (x := nI (1000 + i)) (y := 1000) (a := 1000 + i) (b := 1000) rfl rfl (by omega), Nat.add_sub_cancel_left]⟩), by have := hW.1; have := hW.2.1; omega⟩)) (fun r151 μ151 e151 => ?_)
            obtain ⟨rfl, f151, s151⟩ := e151
            exact bc_return dX10_readUnit_154 rfl (⟨rfl, (hf1.tr (rF.u0 (by omega))).tr f151, s151⟩)
          · have hfd : ¬ (bw 2).idxOf (wd t n p) < (bw 2).length := fun q => (idx2' q).elim c4 (fun z => z.elim n11 n12)
            have eS : sWrd t n (bw 2) (.inr p) = (.inl (1, p), 99) := by simp only [sWrd]; rw [if_neg hfd]
            have eU : pUt t n nest (.inr p, l) = (.inl (1, p), l) := by
              simp only [pUt]
              rw [if_neg c1, if_neg c2', eS]
              rfl
            have eV : fcV (wd t n p) = -1 := by rw [fcV, if_neg c4]
            rw [eU]
            refine bc_aload_n dX10_readUnit_0 rfl ?_
            refine bc_callV (z := mX10_fine) (ci := 10) dX10_readUnit_1 lX10_147 qX10_fine (by rfl) (by rfl) (by rfl) (by rfl) (Nat.le_of_ble_eq_true rfl) (t_fineY rfl h.1) (fun r1 μ1 e1 => ?_)
            obtain ⟨rfl, q1⟩ := e1
            obtain rfl := q1.symm
            refine bc_if_ne (tgt := 8) dX10_readUnit_4 (by decide) (fun h4 => ?_) (fun h4 => absurd h4 (by decide))
            refine bc_aload_n dX10_readUnit_8 rfl ?_
            refine bc_callV (z := mX10_here) (ci := 10) dX10_readUnit_9 lX10_130 qX10_here (by rfl) (by rfl) (by rfl) (by rfl) (Nat.le_of_ble_eq_true rfl) (t_here h.1) (fun r9 μ9 e9 => ?_)
            obtain ⟨rfl, q9⟩ := e9
            obtain rfl := q9.symm
            rw [← hμ1]
            refine bc_bipush (v := 40) dX10_readUnit_12 (by decide) ?_
            refine bc_icmp_ne (tgt := 45) dX10_readUnit_14 (by decide) (fun h14 => ?_) (fun h14 => absurd h14 (fun q => c2 (x40.mp q)))
            refine bc_aload_n dX10_readUnit_45 rfl ?_
            refine bc_callV (z := mX10_here) (ci := 10) dX10_readUnit_46 lX10_130 qX10_here (by rfl) (by rfl) (by rfl) (by rfl) (Nat.le_of_ble_eq_true rfl) (t_here hat.1) (fun r46 μ46 e46 => ?_)
            obtain ⟨rfl, q46⟩ := e46
            obtain rfl := q46.symm
            rw [e2, u4]
            refine bc_callS (z := mX10_isDigit) dX10_readUnit_49 lX10_151 qX10_isDigit (by rfl) (by rfl) (Nat.le_of_ble_eq_true rfl) (t_isDigit _) (fun r49 μ49 e49 => ?_)
            obtain ⟨rfl, q49⟩ := e49
            obtain rfl := q49.symm
            refine bc_if_eq (tgt := 71) dX10_readUnit_52 (by decide) (fun h52 => ?_) (fun h52 => absurd h52 (fun q => q (ite0.mpr (fun z => c1 (hdg.mp z)))))
            refine bc_aload_n dX10_readUnit_71 rfl ?_
            refine bc_callV (z := mX10_word) (ci := 10) dX10_readUnit_72 lX10_219 qX10_word (by rfl) (by rfl) (by rfl) (by rfl) (Nat.le_of_ble_eq_true rfl) (t_word hat.1) (fun r72 μ72 e72 => ?_)
            obtain ⟨rfl, q72⟩ := e72
            obtain rfl := q72.symm
            rw [u4]
            refine bc_ldcSw (tx := "least") (k := 11) dX10_readUnit_75 (by decide) ?_
            refine bc_callS (z := mX10_of) dX10_readUnit_78 lX10_223 qX10_of (by rfl) (by rfl) (Nat.le_of_ble_eq_true rfl) (t_of (K := 11) (by decide) (by decide)) (fun r78 μ78 e78 => ?_)
            obtain ⟨rfl, q78⟩ := e78
            obtain rfl := q78.symm
            refine bc_icmp_ne (tgt := 94) dX10_readUnit_81 (by decide) (fun h81 => ?_) (fun h81 => absurd h81 (fun q => n11 (w11.mp q)))
            refine bc_aload_n dX10_readUnit_94 rfl ?_
            refine bc_callV (z := mX10_word) (ci := 10) dX10_readUnit_95 lX10_219 qX10_word (by rfl) (by rfl) (by rfl) (by rfl) (Nat.le_of_ble_eq_true rfl) (t_word hat.1) (fun r95 μ95 e95 => ?_)
            obtain ⟨rfl, q95⟩ := e95
            obtain rfl := q95.symm
            rw [u4]
            refine bc_ldcSw (tx := "most") (k := 12) dX10_readUnit_98 (by decide) ?_
            refine bc_callS (z := mX10_of) dX10_readUnit_101 lX10_223 qX10_of (by rfl) (by rfl) (Nat.le_of_ble_eq_true rfl) (t_of (K := 12) (by decide) (by decide)) (fun r101 μ101 e101 => ?_)
            obtain ⟨rfl, q101⟩ := e101
            obtain rfl := q101.symm
            refine bc_icmp_ne (tgt := 117) dX10_readUnit_104 (by decide) (fun h104 => ?_) (fun h104 => absurd h104 (fun q => n12 (w12.mp q)))
            refine bc_aload_n dX10_readUnit_117 rfl ?_
            refine bc_callV (z := mX10_factHere) (ci := 10) dX10_readUnit_118 lX10_305 qX10_factHere (by rfl) (by rfl) (by rfl) (by rfl) (Nat.le_of_ble_eq_true rfl) (t_factHere hat.1) (fun r118 μ118 e118 => ?_)
            obtain ⟨rfl, q118⟩ := e118
            obtain rfl := q118.symm
            rw [u4, eV]
            refine bc_istore_n dX10_readUnit_121 (by decide) rfl ?_
            refine bc_iload_n dX10_readUnit_122 rfl ?_
            refine bc_iconst (v := (-1)) dX10_readUnit_123 (by decide) ?_
            refine bc_icmp_ne (tgt := 136) dX10_readUnit_124 (by decide) (fun h124 => absurd h124 (fun q => q rfl)) (fun h124 => ?_)
            refine bc_aload_n dX10_readUnit_127 rfl ?_
            refine bc_iconst (v := 1) dX10_readUnit_128 (by decide) ?_
            refine bc_aload_n dX10_readUnit_129 rfl ?_
            refine bc_geti dX10_readUnit_130 fX10_124 (rfl) rfl ?_
            rw [q4]
            refine bc_callV (z := mX10_wrong) (ci := 10) dX10_readUnit_133 lX10_154 qX10_wrong (by rfl) (by rfl) (by rfl) (by rfl) (Nat.le_of_ble_eq_true rfl) (t_wrongY (k := 1) hat.1 hpn) (fun r133 μ133 e133 => ?_)
            obtain ⟨rfl, f133, s133, -⟩ := e133
            refine bc_aload_n dX10_readUnit_136 rfl ?_
            refine bc_callV (z := mX10_fine) (ci := 10) dX10_readUnit_137 lX10_147 qX10_fine (by rfl) (by rfl) (by rfl) (by rfl) (Nat.le_of_ble_eq_true rfl) (t_fineN s133) (fun r137 μ137 e137 => ?_)
            obtain ⟨rfl, q137⟩ := e137
            obtain rfl := q137.symm
            refine bc_if_ne (tgt := 144) dX10_readUnit_140 (by decide) (fun h140 => absurd h140 (fun q => q rfl)) (fun h140 => ?_)
            exact bc_return dX10_readUnit_143 rfl (⟨rfl, hf1.tr f133.rF, hat.mv f133 s133 (fun p' hp' => by cases hp')⟩)
theorem t_unitD (hn : n ≤ 150) : ∀ dep, dep ≤ 6 → ∀ d, Mok t n (d + 4 * dep + 6) mX10_readUnit [.ref 0] (6 - dep) (pUn t n dep) := by
  intro dep
  induction dep with
  | zero => intro _ d; exact t_unit (E := d + 4 * 0) hn (.inl ⟨rfl, rfl⟩)
  | succ dep ih =>
    intro hd d
    have hs : ∀ d, Mok t n (d + 4 * dep + 8) mX10_readSum [.ref 0] (6 - dep) (pSu t n (pUn t n dep)) := fun d => t_sum (D := d + 4 * dep + 6) hn (pPr_good (pUn_good dep)) (t_prod (D := d + 4 * dep + 5) hn (pUn_good dep) (ih (by omega) d))
    have h1 := t_unit (nest := some (pSu t n (pUn t n dep))) (op := 6 - (dep + 1)) (E := d + 4 * dep + 4) hn (.inr ⟨_, rfl, by omega, pSu_good (pUn_good dep), by
      rw [show 6 - (dep + 1) + 1 = 6 - dep by omega]
      have := hs (d + 1)
      rw [show d + 1 + 4 * dep + 8 = d + 4 * dep + 4 + 5 by omega] at this
      exact this, by
      rw [show 6 - (dep + 1) + 1 = 6 - dep by omega]
      exact hs d⟩)
    rw [show d + 4 * (dep + 1) + 6 = d + 4 * dep + 4 + 6 by omega]
    exact h1
theorem t_sumL (hn : n ≤ 150) : Mok t n (d + 32) mX10_readSum [.ref 0] 0 (pSu t n (pUn t n 6)) := t_sum (D := d + 30) hn (pPr_good (pUn_good 6)) (t_prod (D := d + 29) hn (pUn_good 6) (t_unitD hn 6 (Nat.le_refl _) d))
/-! law -/
def lkS (l : List Nat) (ν ξ : bc_M) : Prop := (∀ i, i ≠ 0 → i ≠ 13 → i ≠ 14 → ξ i = ν i) ∧ (∀ j, j ≠ 35 → ξ 0 j = ν 0 j) ∧ ξ 0 35 = nI l.length ∧ ∀ i x, l[i]? = some x → cR (nI x) (ξ 13 i) (ξ 14 i)
def lwQ (m : bc_M) (z : LSt) (r : Option Value) (ξ : bc_M) : Prop := match z.1 with
  | .inl f => flE f m r ξ
  | .inr _ => r = some (.int 1) ∧ ∃ ν, wF m ν ∧ ν 0 8 = -1 ∧ lkS z.2 ν ξ
theorem t_lawB {q : Int32} {tp : Nat} (ht : m 0 2 = nI tp) (h : ¬ (0 ≤ q ∧ q ≤ nI tp ∧ q ≤ 150)) : bc_C (d + 2) LM mX10_law [.ref 0, .int q] m (fun r ν => r = some (.int 0) ∧ ν = refM m 1 1) := by
  refine bc_enter (by decide) (Nat.le_of_ble_eq_true rfl) rfl ?_
  have bad : bc_W (d + 2) LM mX10_law 29 [.ref 0, .int q, .null] [.ref 0] (bc_u m 0 0 0) (fun r ν => r = some (.int 0) ∧ ν = refM m 1 1) := by
    refine bc_iconst (v := 0) dX10_law_29 (by decide) ?_
    refine bc_iconst (v := 1) dX10_law_30 (by decide) ?_
    refine bc_iconst (v := 1) dX10_law_31 (by decide) ?_
    refine bc_callV (z := mX10_may) (ci := 10) dX10_law_32 lX10_236 qX10_may (by rfl) (by rfl) (by rfl) (by rfl) (Nat.le_of_ble_eq_true rfl) (t_mayN (k := 1) False (fun x => x) _ (by decide) rfl (by decide)) (fun r32 μ32 e32 => ?_)
    obtain ⟨rfl, q32⟩ := e32
    obtain rfl := q32.symm
    refine bc_if_ne (tgt := 40) dX10_law_35 (by decide) (fun h35 => absurd h35 (fun q => q rfl)) (fun h35 => ?_)
    refine bc_iconst (v := 0) dX10_law_38 (by decide) ?_
    exact bc_ireturn dX10_law_39 rfl rfl (⟨rfl, rfl⟩)
  refine bc_aload_n dX10_law_0 rfl ?_
  refine bc_iconst (v := 0) dX10_law_1 (by decide) ?_
  refine bc_put dX10_law_2 fX10_3 ftX10 fpX10_0 rfl rfl (rfl) rfl ?_
  refine bc_aload_n dX10_law_5 rfl ?_
  refine bc_iload_n dX10_law_6 rfl ?_
  refine bc_if_lt (tgt := 29) dX10_law_7 (by decide) (fun h7 => ?_) (fun h7 => ?_)
  · exact bad
  · refine bc_iload_n dX10_law_10 rfl ?_
    refine bc_aload_n dX10_law_11 rfl ?_
    refine bc_geti dX10_law_12 fX10_115 (rfl) rfl ?_
    rw [show bc_u m 0 0 0 0 2 = nI tp from ht]
    refine bc_icmp_gt (tgt := 29) dX10_law_15 (by decide) (fun h15 => ?_) (fun h15 => ?_)
    · exact bad
    · refine bc_iload_n dX10_law_18 rfl ?_
      refine bc_sipush (v := 150) dX10_law_19 (by decide) ?_
      refine bc_icmp_gt (tgt := 29) dX10_law_22 (by decide) (fun h22 => ?_) (fun h22 => ?_)
      · exact bad
      · exact absurd ⟨Int32.not_lt.mp h7, Int32.not_lt.mp h15, Int32.not_lt.mp h22⟩ h
theorem t_law {tp : Nat} (ht : m 0 2 = nI tp) (htp : tp ≤ 600) (hn : n ≤ tp) (hn2 : n ≤ 150) (hb : ∀ j, j < tp → b8R (t j) (m 2 j)) (hlen : ∀ p, (pLaw t n (skp t n 0)).1 = .inr p → (pLaw t n (skp t n 0)).2.length ≤ 150) : bc_C (d + 33) LM mX10_law [.ref 0, .int (nI n)] m (lwQ m (pLaw t n (skp t n 0))) := by
  refine bc_enter (by decide) (Nat.le_of_ble_eq_true rfl) rfl ?_
  obtain ⟨z, hz⟩ : ∃ z, z = pSu t n (pUn t n 6) (.inr (skp t n 0), []) := ⟨_, rfl⟩
  have hP : pLaw t n (skp t n 0) = (sEnd n z.1, z.2) := by rw [hz]; rfl
  rw [hP] at hlen ⊢
  have tail : ∀ (S : TS) (ν : bc_M) (v2 : Value), v2.category = 1 → lm t n S z.2 0 ν → wF m ν → (∀ p, S = .inr p → z.2.length ≤ 150) → bc_W (d + 33) LM mX10_law 77 [.ref 0, .int (nI n), v2] [] ν (lwQ m (S, z.2)) := by
    intro S ν v2 c2 hs hw hl
    cases S with
    | inl f =>
      have hq : ν 0 5 = nI f.2 ∧ f.2 ≤ n := by
        obtain ⟨⟨-, a, -, -, h5, -, h6⟩, -⟩ := hs
        exact ⟨h5, h6⟩
      refine bc_aload_n dX10_law_77 rfl ?_
      refine bc_iconst (v := 1) dX10_law_78 (by decide) ?_
      refine bc_callV (z := mX10_result) (ci := 10) dX10_law_79 lX10_262 qX10_result (by rfl) (by rfl) (by rfl) (by rfl) (Nat.le_of_ble_eq_true rfl) (t_result _ hs.1) (fun r79 μ79 e79 => ?_)
      obtain ⟨rfl, q79⟩ := e79
      obtain rfl := q79.symm
      refine bc_istore_n dX10_law_82 (by decide) rfl ?_
      refine bc_aload_n dX10_law_83 rfl ?_
      refine bc_geti dX10_law_84 fX10_118 (rfl) rfl ?_
      rw [show bc_u ν 0 8 (rsF (.inl f)) 0 5 = nI f.2 from hq.1]
      refine bc_iconst (v := (-1)) dX10_law_87 (by decide) ?_
      refine bc_icmp_eq (tgt := 93) dX10_law_88 (by decide) (fun h88 => absurd h88 (nI_m1 (by omega))) (fun h88 => ?_)
      refine bc_iload_n dX10_law_91 rfl ?_
      exact bc_ireturn dX10_law_92 rfl rfl (⟨rfl, hw.u8, by rw [bc_u_r, if_pos ⟨rfl, rfl⟩]; rfl⟩)
    | inr p =>
      have h5 : ν 0 5 = -1 := by
        obtain ⟨⟨-, a, -, -, h5, -⟩, -⟩ := hs
        exact h5
      have hcl := hs.2.2 p rfl
      have h150 := hl p rfl
      have e34 : bc_u ν 0 8 (rsF (.inr p)) 0 34 = nI z.2.length := hcl.1
      refine bc_aload_n dX10_law_77 rfl ?_
      refine bc_iconst (v := 1) dX10_law_78 (by decide) ?_
      refine bc_callV (z := mX10_result) (ci := 10) dX10_law_79 lX10_262 qX10_result (by rfl) (by rfl) (by rfl) (by rfl) (Nat.le_of_ble_eq_true rfl) (t_result _ hs.1) (fun r79 μ79 e79 => ?_)
      obtain ⟨rfl, q79⟩ := e79
      obtain rfl := q79.symm
      refine bc_istore_n dX10_law_82 (by decide) rfl ?_
      refine bc_aload_n dX10_law_83 rfl ?_
      refine bc_geti dX10_law_84 fX10_118 (rfl) rfl ?_
      refine bc_iconst (v := (-1)) dX10_law_87 (by decide) ?_
      refine bc_icmp_eq (tgt := 93) dX10_law_88 (by decide) (fun h88 => ?_) (fun h88 => absurd h88 (fun q => q h5))
      refine bc_aload_n dX10_law_93 rfl ?_
      refine bc_aload_n dX10_law_94 rfl ?_
      refine bc_geti dX10_law_95 fX10_266 (rfl) rfl ?_
      rw [e34]
      refine bc_put dX10_law_98 fX10_198 ftX10 fpX10_35 rfl rfl (rfl) rfl ?_
      refine bc_aload_n dX10_law_101 rfl ?_
      refine bc_aload_n dX10_law_102 rfl ?_
      refine bc_getr dX10_law_103 fX10_47 (rfl) rfl ?_
      refine bc_aload_n dX10_law_106 rfl ?_
      refine bc_getr dX10_law_107 fX10_53 (rfl) rfl ?_
      refine bc_aload_n dX10_law_110 rfl ?_
      refine bc_geti dX10_law_111 fX10_266 (rfl) rfl ?_
      rw [show bc_u (bc_u ν 0 8 (rsF (.inr p))) 0 35 (nI z.2.length) 0 34 = nI z.2.length from e34]
      refine bc_callV (z := mX10_copies) (ci := 10) dX10_law_114 lX10_194 qX10_copies (by rfl) (by rfl) (by rfl) (by rfl) (Nat.le_of_ble_eq_true rfl) (t_copies (n := z.2.length) (i := 11) (j := 13) rfl rfl ⟨h150, by decide⟩ ⟨h150, by decide⟩ (by decide)) (fun r114 μ114 e114 => ?_)
      obtain ⟨rfl, q114⟩ := e114
      obtain rfl := q114.symm
      refine bc_aload_n dX10_law_117 rfl ?_
      refine bc_aload_n dX10_law_118 rfl ?_
      refine bc_getr dX10_law_119 fX10_50 (rfl) rfl ?_
      refine bc_aload_n dX10_law_122 rfl ?_
      refine bc_getr dX10_law_123 fX10_56 (rfl) rfl ?_
      refine bc_aload_n dX10_law_126 rfl ?_
      refine bc_geti dX10_law_127 fX10_266 (rfl) rfl ?_
      rw [show bc_us (bc_u (bc_u ν 0 8 (rsF (.inr p))) 0 35 (nI z.2.length)) 13 (cpN (bc_u (bc_u ν 0 8 (rsF (.inr p))) 0 35 (nI z.2.length) 11) (bc_u (bc_u ν 0 8 (rsF (.inr p))) 0 35 (nI z.2.length) 13) z.2.length) 0 34 = nI z.2.length from e34]
      refine bc_callV (z := mX10_copies) (ci := 10) dX10_law_130 lX10_194 qX10_copies (by rfl) (by rfl) (by rfl) (by rfl) (Nat.le_of_ble_eq_true rfl) (t_copies (n := z.2.length) (i := 12) (j := 14) rfl rfl ⟨h150, by decide⟩ ⟨h150, by decide⟩ (by decide)) (fun r130 μ130 e130 => ?_)
      obtain ⟨rfl, q130⟩ := e130
      obtain rfl := q130.symm
      refine bc_iload_n dX10_law_133 rfl ?_
      exact bc_ireturn dX10_law_134 rfl rfl (by
refine ⟨rfl, _, hw.u8 (v := -1), by rw [bc_u_r, if_pos ⟨rfl, rfl⟩], fun i h0 h1 h2 => ?_, fun j hj => ?_, rfl, fun i x hx => ?_⟩
· rw [bc_us_ne _ _ h2, bc_us_ne _ _ h1, bc_u_ne _ _ _ h0]; rfl
· rw [bc_us_ne _ _ (by decide), bc_us_ne _ _ (by decide), bc_u_r, if_neg (by omega)]; rfl
· have hi := (List.getElem?_eq_some_iff.mp hx).1
  have g := hcl.2 i x hx
  show cR (nI x) (cpN (ν 11) (ν 13) z.2.length i) (cpN (ν 12) (ν 14) z.2.length i)
  unfold cpN
  rw [if_pos hi, if_pos hi]
  exact g)
  have mid : ∀ (S : TS) (ν : bc_M) (v2 : Value), v2.category = 1 → lm t n S z.2 0 ν → wF m ν → S = z.1 → bc_W (d + 33) LM mX10_law 54 [.ref 0, .int (nI n), v2] [] ν (lwQ m (sEnd n z.1, z.2)) := by
    intro S ν v2 c2 hs hw hS
    rw [← hS] at hlen ⊢
    cases S with
    | inl f =>
      refine bc_aload_n dX10_law_54 rfl ?_
      refine bc_callV (z := mX10_fine) (ci := 10) dX10_law_55 lX10_147 qX10_fine (by rfl) (by rfl) (by rfl) (by rfl) (Nat.le_of_ble_eq_true rfl) (t_fineN hs.1) (fun r55 μ55 e55 => ?_)
      obtain ⟨rfl, q55⟩ := e55
      obtain rfl := q55.symm
      refine bc_if_eq (tgt := 77) dX10_law_58 (by decide) (fun h58 => ?_) (fun h58 => absurd h58 (fun q => q rfl))
      exact tail _ _ _ c2 hs hw (fun p hp => by cases hp)
    | inr p =>
      have hpn := hs.1.le
      by_cases hp : p < n
      · have eE : sEnd n (.inr p) = .inl (1, p) := if_pos hp
        rw [eE]
        refine bc_aload_n dX10_law_54 rfl ?_
        refine bc_callV (z := mX10_fine) (ci := 10) dX10_law_55 lX10_147 qX10_fine (by rfl) (by rfl) (by rfl) (by rfl) (Nat.le_of_ble_eq_true rfl) (t_fineY rfl hs.1) (fun r55 μ55 e55 => ?_)
        obtain ⟨rfl, q55⟩ := e55
        obtain rfl := q55.symm
        refine bc_if_eq (tgt := 77) dX10_law_58 (by decide) (fun h58 => absurd h58 (by decide)) (fun h58 => ?_)
        refine bc_aload_n dX10_law_61 rfl ?_
        refine bc_callV (z := mX10_isMore) (ci := 10) dX10_law_62 lX10_244 qX10_isMore (by rfl) (by rfl) (by rfl) (by rfl) (Nat.le_of_ble_eq_true rfl) (t_isMore hs.1) (fun r62 μ62 e62 => ?_)
        obtain ⟨rfl, q62⟩ := e62
        obtain rfl := q62.symm
        rw [if_pos hp]
        refine bc_if_eq (tgt := 77) dX10_law_65 (by decide) (fun h65 => absurd h65 (by decide)) (fun h65 => ?_)
        refine bc_aload_n dX10_law_68 rfl ?_
        refine bc_iconst (v := 1) dX10_law_69 (by decide) ?_
        refine bc_aload_n dX10_law_70 rfl ?_
        refine bc_geti dX10_law_71 fX10_124 (rfl) rfl ?_
        rw [show bc_u ν 0 4 (nI p) 0 4 = nI p by rw [bc_u_r, if_pos ⟨rfl, rfl⟩]]
        refine bc_callV (z := mX10_wrong) (ci := 10) dX10_law_74 lX10_154 qX10_wrong (by rfl) (by rfl) (by rfl) (by rfl) (Nat.le_of_ble_eq_true rfl) (t_wrongY (k := 1) hs.at'.1 hpn) (fun r74 μ74 e74 => ?_)
        obtain ⟨rfl, f74, s74, -⟩ := e74
        exact tail _ _ _ c2 (hs.at'.mv f74 s74 (fun p' hp' => by cases hp')) ((hw.rF (rF.u0 (by omega))).rF f74.rF) (fun p' hp' => by cases hp')
      · have eE : sEnd n (.inr p) = .inr p := if_neg hp
        rw [eE] at hlen ⊢
        refine bc_aload_n dX10_law_54 rfl ?_
        refine bc_callV (z := mX10_fine) (ci := 10) dX10_law_55 lX10_147 qX10_fine (by rfl) (by rfl) (by rfl) (by rfl) (Nat.le_of_ble_eq_true rfl) (t_fineY rfl hs.1) (fun r55 μ55 e55 => ?_)
        obtain ⟨rfl, q55⟩ := e55
        obtain rfl := q55.symm
        refine bc_if_eq (tgt := 77) dX10_law_58 (by decide) (fun h58 => absurd h58 (by decide)) (fun h58 => ?_)
        refine bc_aload_n dX10_law_61 rfl ?_
        refine bc_callV (z := mX10_isMore) (ci := 10) dX10_law_62 lX10_244 qX10_isMore (by rfl) (by rfl) (by rfl) (by rfl) (Nat.le_of_ble_eq_true rfl) (t_isMore hs.1) (fun r62 μ62 e62 => ?_)
        obtain ⟨rfl, q62⟩ := e62
        obtain rfl := q62.symm
        rw [if_neg hp]
        refine bc_if_eq (tgt := 77) dX10_law_65 (by decide) (fun h65 => ?_) (fun h65 => absurd h65 (fun q => q rfl))
        exact tail _ _ _ c2 hs.at' (hw.rF (rF.u0 (by omega))) (fun p' hp' => hlen p' hp')
  refine bc_aload_n dX10_law_0 rfl ?_
  refine bc_iconst (v := 0) dX10_law_1 (by decide) ?_
  refine bc_put dX10_law_2 fX10_3 ftX10 fpX10_0 rfl rfl (rfl) rfl ?_
  refine bc_aload_n dX10_law_5 rfl ?_
  refine bc_iload_n dX10_law_6 rfl ?_
  refine bc_if_lt (tgt := 29) dX10_law_7 (by decide) (fun h7 => absurd h7 (bn_nn (by omega))) (fun h7 => ?_)
  refine bc_iload_n dX10_law_10 rfl ?_
  refine bc_aload_n dX10_law_11 rfl ?_
  refine bc_geti dX10_law_12 fX10_115 (rfl) rfl ?_
  rw [show bc_u m 0 0 0 0 2 = nI tp from ht]
  refine bc_icmp_gt (tgt := 29) dX10_law_15 (by decide) (fun h15 => absurd h15 (by rw [bn_ltN (by omega) (by omega)]; omega)) (fun h15 => ?_)
  refine bc_iload_n dX10_law_18 rfl ?_
  refine bc_sipush (v := 150) dX10_law_19 (by decide) ?_
  refine bc_icmp_gt (tgt := 29) dX10_law_22 (by decide) (fun h22 => absurd h22 (by rw [show (150 : Int32) = nI 150 from rfl, bn_ltN (by omega) (by omega)]; omega)) (fun h22 => ?_)
  refine bc_iconst (v := 1) dX10_law_25 (by decide) ?_
  refine bc_goto (tgt := 30) dX10_law_26 (by decide) ?_
  refine bc_iconst (v := 1) dX10_law_30 (by decide) ?_
  refine bc_iconst (v := 1) dX10_law_31 (by decide) ?_
  refine bc_callV (z := mX10_may) (ci := 10) dX10_law_32 lX10_236 qX10_may (by rfl) (by rfl) (by rfl) (by rfl) (Nat.le_of_ble_eq_true rfl) (t_mayY (k := 1) True trivial _ (by decide) rfl (by decide)) (fun r32 μ32 e32 => ?_)
  obtain ⟨rfl, q32⟩ := e32
  obtain rfl := q32.symm
  refine bc_if_ne (tgt := 40) dX10_law_35 (by decide) (fun h35 => ?_) (fun h35 => absurd h35 (by decide))
  refine bc_aload_n dX10_law_40 rfl ?_
  refine bc_iload_n dX10_law_41 rfl ?_
  refine bc_callV (z := mX10_begins) (ci := 10) dX10_law_42 lX10_240 qX10_begins (by rfl) (by rfl) (by rfl) (by rfl) (Nat.le_of_ble_eq_true rfl) (t_begins (t := t) (n := n) (by omega) (fun j hj => hb j (by omega))) (fun r42 μ42 e42 => ?_)
  obtain ⟨rfl, g1, g2, g3, g4, g5, g6⟩ := e42
  refine bc_aload_n dX10_law_45 rfl ?_
  refine bc_iconst (v := 0) dX10_law_46 (by decide) ?_
  refine bc_put dX10_law_47 fX10_266 ftX10 fpX10_34 rfl rfl (rfl) rfl ?_
  have hs0 : lm t n (.inr (skp t n 0)) [] 0 (bc_u μ42 0 34 0) := ⟨g6.u (by decide), g4, fun p hp => ⟨rfl, fun i x hx => by simp at hx⟩⟩
  have hw0 : wF m (bc_u μ42 0 34 0) := (wF.begin g1 g2 g3).rF (rF.u0 (by omega))
  refine bc_aload_n dX10_law_50 rfl ?_
  refine bc_callV (z := mX10_readSum) (ci := 10) dX10_law_51 lX10_281 qX10_readSum (by rfl) (by rfl) (by rfl) (by rfl) (Nat.le_of_ble_eq_true rfl) (t_sumL hn2 _ _ [] hs0 (fun q hq => by cases hq; exact ⟨Nat.zero_le _, rn_le (by omega)⟩)) (fun r51 μ51 e51 => ?_)
  obtain ⟨rfl, f51, s51⟩ := e51
  rw [← hz] at s51
  exact mid _ _ _ rfl s51 (hw0.rF f51) rfl
end T77
