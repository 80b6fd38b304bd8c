/-! BreadCity$Text.word -/
section TXT
variable {d : Nat} {μ : bc_M} {n a k : Nat} {f q : Int32}
theorem s_wordR {S : TS} {K : Nat} (hK0 : 1 ≤ K) (hK3 : K ≤ 3) (hn : n ≤ 600) (h2 : μ 1 2 = nI n) (hS : tq n S a f q) : ∀ m b, b + m = ltE (μ 2) n a → a ≤ b → bc_W (d + 5) LC mX7_word 8 [.ref 1, .ref (1000 + K), .null, .null, .null, .null] [] (tx μ b a f q) (fun r ν => ∃ a' f' q', r = some (.int (wV (bw K) (wd (μ 2) n a))) ∧ ν = tx μ a' a f' q' ∧ tq n (sWrd (μ 2) n (bw K) S).1 a' f' q') := by
  have ha := tq_le hS
  have hK : K < 24 := by omega
  obtain ⟨hwe, hlen⟩ := wcF_end hK0 hK3
  have hge : a ≤ ltE (μ 2) n a := rn_ge _ _ _ _
  have hle : ltE (μ 2) n a ≤ n := rn_le ha
  have hsk : skp (μ 2) n (ltE (μ 2) n a) ≤ n := rn_le hle
  have h0 := s_wordL (d := d) hK0 hK3 hn h2 hS (bc_len.getD K 0) 0 (by omega) (fun j hj => absurd hj (Nat.not_lt_zero _)) (Nat.le_refl _)
  simp only [show wcF K 0 = (0, 0) from rfl, nI_0] at h0
  intro m
  induction m with
  | zero =>
    intro b hb hab
    have hb : b = ltE (μ 2) n a := by omega
    subst hb
    have go : bc_W (d + 5) LC mX7_word 39 [.ref 1, .ref (1000 + K), .null, .null, .null, .null] [] (tx μ (ltE (μ 2) n a) a f q) (fun r ν => ∃ a' f' q', r = some (.int (wV (bw K) (wd (μ 2) n a))) ∧ ν = tx μ a' a f' q' ∧ tq n (sWrd (μ 2) n (bw K) S).1 a' f' q') := by
      refine bc_aload_n dX7_word_39 rfl ?_
      refine bc_geti dX7_word_40 fX7_34 (rfl) rfl ?_
      refine bc_aload_n dX7_word_43 rfl ?_
      refine bc_geti dX7_word_44 fX7_37 (rfl) rfl ?_
      refine bc_isub dX7_word_47 ?_
      rw [tx_3, tx_4, pk_sub hge]
      refine bc_istore_n dX7_word_48 (by decide) rfl ?_
      refine bc_aload_n dX7_word_49 rfl ?_
      refine bc_callV (z := mX7_passBlanks) (ci := 7) dX7_word_50 lX7_43 qX7_passBlanks (by rfl) (by rfl) (by rfl) (by rfl) (Nat.le_of_ble_eq_true rfl) (s_pass hn h2 hle) (fun r50 μ50 e50 => ?_)
      obtain ⟨rfl, q50⟩ := e50
      obtain rfl := q50.symm
      refine bc_iconst (v := 0) dX7_word_53 (by decide) ?_
      refine bc_istore_n dX7_word_54 (by decide) rfl ?_
      refine bc_iconst (v := 0) dX7_word_55 (by decide) ?_
      refine bc_istore dX7_word_56 (by decide) rfl ?_
      refine bc_iconst (v := 0) dX7_word_58 (by decide) ?_
      refine bc_istore dX7_word_59 (by decide) rfl ?_
      exact h0
    refine bc_aload_n dX7_word_8 rfl ?_
    refine bc_geti dX7_word_9 fX7_34 (rfl) rfl ?_
    refine bc_aload_n dX7_word_12 rfl ?_
    refine bc_geti dX7_word_13 fX7_31 (rfl) rfl ?_
    refine bc_icmp_ge (tgt := 39) dX7_word_16 (by decide) (fun h16 => ?_) (fun h16 => ?_)
    · exact go
    · refine bc_aload_n dX7_word_19 rfl ?_
      refine bc_callV (z := mX7_nextIsLetter) (ci := 7) dX7_word_20 lX7_62 qX7_nextIsLetter (by rfl) (by rfl) (by rfl) (by rfl) (Nat.le_of_ble_eq_true rfl) (s_nextLt hn h2 hle) (fun r20 μ20 e20 => ?_)
      obtain ⟨rfl, q20⟩ := e20
      obtain rfl := q20.symm
      refine bc_if_eq (tgt := 39) dX7_word_23 (by decide) (fun h23 => ?_) (fun h23 => absurd h23 (by rw [if_neg (fun x => rn_at ha x.1 x.2)]; exact fun x => x rfl))
      exact go
  | succ m ih =>
    intro b hb hab
    have hdb : isLt (μ 2 b) = true := rn_all (n := n) (p := a) hab (by show b < ltE (μ 2) n a; omega)
    refine bc_aload_n dX7_word_8 rfl ?_
    refine bc_geti dX7_word_9 fX7_34 (rfl) rfl ?_
    refine bc_aload_n dX7_word_12 rfl ?_
    refine bc_geti dX7_word_13 fX7_31 (rfl) rfl ?_
    refine bc_icmp_ge (tgt := 39) dX7_word_16 (by decide) (fun h16 => absurd h16 (by rw [tx_3, tx_n h2]; exact nI_ge (by omega) (by omega))) (fun h16 => ?_)
    refine bc_aload_n dX7_word_19 rfl ?_
    refine bc_callV (z := mX7_nextIsLetter) (ci := 7) dX7_word_20 lX7_62 qX7_nextIsLetter (by rfl) (by rfl) (by rfl) (by rfl) (Nat.le_of_ble_eq_true rfl) (s_nextLt hn h2 (by omega)) (fun r20 μ20 e20 => ?_)
    obtain ⟨rfl, q20⟩ := e20
    obtain rfl := q20.symm
    refine bc_if_eq (tgt := 39) dX7_word_23 (by decide) (fun h23 => absurd h23 (by rw [if_pos ⟨by omega, hdb⟩]; decide)) (fun h23 => ?_)
    refine bc_aload_n dX7_word_26 rfl ?_
    refine bc_dup dX7_word_27 rfl ?_
    refine bc_geti dX7_word_28 fX7_34 (rfl) rfl ?_
    refine bc_iconst (v := 1) dX7_word_31 (by decide) ?_
    refine bc_iadd dX7_word_32 ?_
    refine bc_put dX7_word_33 fX7_34 ftX7 fpX7_3 rfl rfl (rfl) rfl ?_
    refine bc_goto (tgt := 8) dX7_word_36 (by decide) ?_
    rw [tx_3, bn_add1, tx_u3]
    exact ih (b + 1) (by omega) (by omega)
theorem s_word {S : TS} {K : Nat} (hK0 : 1 ≤ K) (hK3 : K ≤ 3) (hn : n ≤ 600) (h2 : μ 1 2 = nI n) (hS : tq n S a f q) : bc_C (d + 5) LC mX7_word [.ref 1, .ref (1000 + K)] (tx μ a k f q) (fun r ν => ∃ a' f' q', r = some (.int (wV (bw K) (wd (μ 2) n a))) ∧ ν = tx μ a' a f' q' ∧ tq n (sWrd (μ 2) n (bw K) S).1 a' f' q') := by
  have ha := tq_le hS
  have hK : K < 24 := by omega
  obtain ⟨hwe, hlen⟩ := wcF_end hK0 hK3
  have hge : a ≤ ltE (μ 2) n a := rn_ge _ _ _ _
  have hle : ltE (μ 2) n a ≤ n := rn_le ha
  have hsk : skp (μ 2) n (ltE (μ 2) n a) ≤ n := rn_le hle
  refine bc_enter (by decide) (Nat.le_of_ble_eq_true rfl) rfl ?_
  refine bc_aload_n dX7_word_0 rfl ?_
  refine bc_aload_n dX7_word_1 rfl ?_
  refine bc_geti dX7_word_2 fX7_34 (rfl) rfl ?_
  refine bc_put dX7_word_5 fX7_37 ftX7 fpX7_4 rfl rfl (rfl) rfl ?_
  rw [tx_3, tx_u4]
  exact s_wordR (d := d) hK0 hK3 hn h2 hS (ltE (μ 2) n a - a) a (by omega) (Nat.le_refl _)
end TXT
