/-! BreadCity$Text.word -/
section TXT
variable {d : Nat} {μ : bc_M} {n a k : Nat} {f q : Int32}
theorem s_wordL {S : TS} {K : Nat} (hK0 : 1 ≤ K) (hK3 : K ≤ 3) (hn : n ≤ 600) (h2 : μ 1 2 = nI n) (hS : tq n S a f q) : ∀ m i, i + m = bc_len.getD K 0 → (∀ j, j < (wcF K i).1 → (bw K)[j]? ≠ some (wd (μ 2) n a)) → (wcF K i).2 ≤ i → bc_W (d + 5) LC mX7_word 61 [.ref 1, .ref (1000 + K), .int (nI (ltE (μ 2) n a - a)), .int (nI (wcF K i).1), .int (nI (wcF K i).2), .int (nI i)] [] (tx μ (skp (μ 2) n (ltE (μ 2) n a)) a f q) (fun r ν => ∃ a' f' q', r = some (.int (wV (bw K) (wd (μ 2) n a))) ∧ ν = tx μ a' a f' q' ∧ tq n (sWrd (μ 2) n (bw K) S).1 a' f' q') := by
  have ha := tq_le hS
  have hK : K < 24 := by omega
  obtain ⟨hwe, hlen⟩ := wcF_end hK0 hK3
  have hge : a ≤ ltE (μ 2) n a := rn_ge _ _ _ _
  have hle : ltE (μ 2) n a ≤ n := rn_le ha
  have hsk : skp (μ 2) n (ltE (μ 2) n a) ≤ n := rn_le hle
  intro m
  induction m with
  | zero =>
    intro i hi hno hfr
    have hi : i = bc_len.getD K 0 := by omega
    subst hi
    rw [hwe] at hno
    have hnm : ¬ (bw K).idxOf (wd (μ 2) n a) < (bw K).length := by
      intro x
      have := List.idxOf_lt_length_iff.mp x
      obtain ⟨j, hj, e⟩ := List.getElem_of_mem this
      exact hno j hj (by rw [List.getElem?_eq_getElem hj, e])
    refine bc_iload dX7_word_61 rfl ?_
    refine bc_aload_n dX7_word_63 rfl ?_
    refine bc_callVS (z := mJ0_length_8abf5) (hK) dX7_word_64 lX7_65 qJ0_length_8abf5 rfl (by rfl) (by rfl) (Nat.le_of_ble_eq_true rfl) (s_length (d := d + 3) hK) (fun r64 μ64 e64 => ?_)
    obtain ⟨rfl, q64⟩ := e64
    obtain rfl := q64.symm
    refine bc_icmp_ge (tgt := 119) dX7_word_67 (by decide) (fun h67 => ?_) (fun h67 => absurd h67 (fun x => x (Int32.le_refl _)))
    refine bc_aload_n dX7_word_119 rfl ?_
    refine bc_iconst (v := 1) dX7_word_120 (by decide) ?_
    refine bc_aload_n dX7_word_121 rfl ?_
    refine bc_geti dX7_word_122 fX7_37 (rfl) rfl ?_
    refine bc_callV (z := mX7_accuse) (ci := 7) dX7_word_125 lX7_54 qX7_accuse (by rfl) (by rfl) (by rfl) (by rfl) (Nat.le_of_ble_eq_true rfl) (s_accuse _ _) (fun r125 μ125 e125 => ?_)
    obtain ⟨rfl, q125⟩ := e125
    obtain rfl := q125.symm
    refine bc_iconst (v := (-1)) dX7_word_128 (by decide) ?_
    exact bc_ireturn dX7_word_129 rfl rfl (by
refine ⟨_, _, _, by rw [wV, if_neg hnm], rfl, ?_⟩
rw [tx_4]
cases S with
| inl x =>
  obtain ⟨x, y⟩ := x
  rw [if_neg (tq_f hS), if_neg (tq_f hS)]
  exact ⟨hsk, hS.2⟩
| inr p =>
  obtain ⟨rfl, b1, b2, b3⟩ := hS
  simp only [sWrd, if_neg hnm, if_pos b2]
  exact ⟨hsk, rfl, rfl, by omega, by omega, b1⟩)
  | succ m ih =>
    intro i hi hno hfr
    by_cases hb : sch K i = 32
    · obtain ⟨hst, -⟩ := wcF_stat hK0 hK3 (by omega) hb
      have en : wcF K (i + 1) = ((wcF K i).1 + 1, i + 1) := by simp only [wcF, if_pos hb]
      have next : ¬ (bw K)[(wcF K i).1]? = some (wd (μ 2) n a) → bc_W (d + 5) LC mX7_word 104 [.ref 1, .ref (1000 + K), .int (nI (ltE (μ 2) n a - a)), .int (nI (wcF K i).1), .int (nI (wcF K i).2), .int (nI i)] [] (tx μ (skp (μ 2) n (ltE (μ 2) n a)) a f q) (fun r ν => ∃ a' f' q', r = some (.int (wV (bw K) (wd (μ 2) n a))) ∧ ν = tx μ a' a f' q' ∧ tq n (sWrd (μ 2) n (bw K) S).1 a' f' q') := by
        intro hne
        have hih := ih (i + 1) (by omega) (fun j hj => by
          rw [en] at hj
          by_cases e : j = (wcF K i).1
          · rw [e]; exact hne
          · exact hno j (by omega)) (by rw [en]; exact Nat.le_refl _)
        rw [en] at hih
        refine bc_iinc1 dX7_word_104 rfl (by decide) rfl ?_
        refine bc_iload dX7_word_107 rfl ?_
        refine bc_iconst (v := 1) dX7_word_109 (by decide) ?_
        refine bc_iadd dX7_word_110 ?_
        refine bc_istore dX7_word_111 (by decide) rfl ?_
        refine bc_iinc1 dX7_word_113 rfl (by decide) rfl ?_
        refine bc_goto (tgt := 61) dX7_word_116 (by decide) ?_
        rw [bn_add1, bn_add1]
        exact hih
      have hrun : ∀ j, a ≤ j → j < ltE (μ 2) n a → isLt (μ 2 j) = true := fun j x y => rn_all x y
      by_cases he : i - (wcF K i).2 = ltE (μ 2) n a - a
      · by_cases hm : wdF (μ 2) (i - (wcF K i).2) a = wdF (sch K) (i - (wcF K i).2) (wcF K i).2
        · have hy : (bw K)[(wcF K i).1]? = some (wd (μ 2) n a) := by rw [hst, ← hm, he]; rfl
          have hix := idxOf_first hy hno
          have hlt : (wcF K i).1 < (bw K).length := (List.getElem?_eq_some_iff.mp hy).1
          refine bc_iload dX7_word_61 rfl ?_
          refine bc_aload_n dX7_word_63 rfl ?_
          refine bc_callVS (z := mJ0_length_8abf5) (hK) dX7_word_64 lX7_65 qJ0_length_8abf5 rfl (by rfl) (by rfl) (Nat.le_of_ble_eq_true rfl) (s_length (d := d + 3) hK) (fun r64 μ64 e64 => ?_)
          obtain ⟨rfl, q64⟩ := e64
          obtain rfl := q64.symm
          refine bc_icmp_ge (tgt := 119) dX7_word_67 (by decide) (fun h67 => absurd h67 (by rw [bn_leN (by omega) (by omega)]; omega)) (fun h67 => ?_)
          refine bc_aload_n dX7_word_70 rfl ?_
          refine bc_iload dX7_word_71 rfl ?_
          refine bc_callVS (z := mJ0_charAt_5068e) (hK) dX7_word_73 lX7_70 qJ0_charAt_5068e rfl (by rfl) (by rfl) (Nat.le_of_ble_eq_true rfl) (s_charAt (d := d + 1) (j := i) hK rfl (by omega)) (fun r73 μ73 e73 => ?_)
          obtain ⟨rfl, q73⟩ := e73
          obtain rfl := q73.symm
          refine bc_bipush (v := 32) dX7_word_76 (by decide) ?_
          refine bc_icmp_ne (tgt := 113) dX7_word_78 (by decide) (fun h78 => absurd h78 (fun x => x hb)) (fun h78 => ?_)
          refine bc_iload dX7_word_81 rfl ?_
          refine bc_iload dX7_word_83 rfl ?_
          refine bc_isub dX7_word_85 ?_
          refine bc_iload_n dX7_word_86 rfl ?_
          refine bc_icmp_ne (tgt := 104) dX7_word_87 (by decide) (fun h87 => absurd h87 (by rw [pk_sub hfr, he]; exact fun x => x rfl)) (fun h87 => ?_)
          refine bc_aload_n dX7_word_90 rfl ?_
          refine bc_aload_n dX7_word_91 rfl ?_
          refine bc_iload dX7_word_92 rfl ?_
          refine bc_iload dX7_word_94 rfl ?_
          refine bc_callV (z := mX7_isAtMark) (ci := 7) dX7_word_96 lX7_74 qX7_isAtMark (by rfl) (by rfl) (by rfl) (by rfl) (Nat.le_of_ble_eq_true rfl) (s_atMark (d := d) hK hfr (by omega) hlen (by omega)) (fun r96 μ96 e96 => ?_)
          obtain ⟨rfl, q96⟩ := e96
          obtain rfl := q96.symm
          refine bc_if_eq (tgt := 104) dX7_word_99 (by decide) (fun h99 => absurd h99 (by rw [if_pos hm]; decide)) (fun h99 => ?_)
          refine bc_iload_n dX7_word_102 rfl ?_
          exact bc_ireturn dX7_word_103 rfl rfl (by
refine ⟨_, _, _, by rw [wV, hix, if_pos hlt], rfl, ?_⟩
cases S with
| inl x => exact ⟨hsk, hS.2⟩
| inr p =>
  obtain ⟨rfl, b1, b2, b3⟩ := hS
  simp only [sWrd, hix, if_pos hlt]
  exact ⟨rfl, hsk, b2, b3⟩)
        · have hne : ¬ (bw K)[(wcF K i).1]? = some (wd (μ 2) n a) := by
            rw [hst]
            intro x
            have x := Option.some.inj x
            exact hm (by rw [x, he]; rfl)
          refine bc_iload dX7_word_61 rfl ?_
          refine bc_aload_n dX7_word_63 rfl ?_
          refine bc_callVS (z := mJ0_length_8abf5) (hK) dX7_word_64 lX7_65 qJ0_length_8abf5 rfl (by rfl) (by rfl) (Nat.le_of_ble_eq_true rfl) (s_length (d := d + 3) hK) (fun r64 μ64 e64 => ?_)
          obtain ⟨rfl, q64⟩ := e64
          obtain rfl := q64.symm
          refine bc_icmp_ge (tgt := 119) dX7_word_67 (by decide) (fun h67 => absurd h67 (by rw [bn_leN (by omega) (by omega)]; omega)) (fun h67 => ?_)
          refine bc_aload_n dX7_word_70 rfl ?_
          refine bc_iload dX7_word_71 rfl ?_
          refine bc_callVS (z := mJ0_charAt_5068e) (hK) dX7_word_73 lX7_70 qJ0_charAt_5068e rfl (by rfl) (by rfl) (Nat.le_of_ble_eq_true rfl) (s_charAt (d := d + 1) (j := i) hK rfl (by omega)) (fun r73 μ73 e73 => ?_)
          obtain ⟨rfl, q73⟩ := e73
          obtain rfl := q73.symm
          refine bc_bipush (v := 32) dX7_word_76 (by decide) ?_
          refine bc_icmp_ne (tgt := 113) dX7_word_78 (by decide) (fun h78 => absurd h78 (fun x => x hb)) (fun h78 => ?_)
          refine bc_iload dX7_word_81 rfl ?_
          refine bc_iload dX7_word_83 rfl ?_
          refine bc_isub dX7_word_85 ?_
          refine bc_iload_n dX7_word_86 rfl ?_
          refine bc_icmp_ne (tgt := 104) dX7_word_87 (by decide) (fun h87 => absurd h87 (by rw [pk_sub hfr, he]; exact fun x => x rfl)) (fun h87 => ?_)
          refine bc_aload_n dX7_word_90 rfl ?_
          refine bc_aload_n dX7_word_91 rfl ?_
          refine bc_iload dX7_word_92 rfl ?_
          refine bc_iload dX7_word_94 rfl ?_
          refine bc_callV (z := mX7_isAtMark) (ci := 7) dX7_word_96 lX7_74 qX7_isAtMark (by rfl) (by rfl) (by rfl) (by rfl) (Nat.le_of_ble_eq_true rfl) (s_atMark (d := d) hK hfr (by omega) hlen (by omega)) (fun r96 μ96 e96 => ?_)
          obtain ⟨rfl, q96⟩ := e96
          obtain rfl := q96.symm
          refine bc_if_eq (tgt := 104) dX7_word_99 (by decide) (fun h99 => ?_) (fun h99 => absurd h99 (by rw [if_neg hm]; exact fun x => x rfl))
          exact next hne
      · have hne : ¬ (bw K)[(wcF K i).1]? = some (wd (μ 2) n a) := by
          rw [hst]
          intro x
          have x := congrArg List.length (Option.some.inj x)
          rw [wdF_len, wd, wdF_len] at x
          exact he x
        refine bc_iload dX7_word_61 rfl ?_
        refine bc_aload_n dX7_word_63 rfl ?_
        refine bc_callVS (z := mJ0_length_8abf5) (hK) dX7_word_64 lX7_65 qJ0_length_8abf5 rfl (by rfl) (by rfl) (Nat.le_of_ble_eq_true rfl) (s_length (d := d + 3) hK) (fun r64 μ64 e64 => ?_)
        obtain ⟨rfl, q64⟩ := e64
        obtain rfl := q64.symm
        refine bc_icmp_ge (tgt := 119) dX7_word_67 (by decide) (fun h67 => absurd h67 (by rw [bn_leN (by omega) (by omega)]; omega)) (fun h67 => ?_)
        refine bc_aload_n dX7_word_70 rfl ?_
        refine bc_iload dX7_word_71 rfl ?_
        refine bc_callVS (z := mJ0_charAt_5068e) (hK) dX7_word_73 lX7_70 qJ0_charAt_5068e rfl (by rfl) (by rfl) (Nat.le_of_ble_eq_true rfl) (s_charAt (d := d + 1) (j := i) hK rfl (by omega)) (fun r73 μ73 e73 => ?_)
        obtain ⟨rfl, q73⟩ := e73
        obtain rfl := q73.symm
        refine bc_bipush (v := 32) dX7_word_76 (by decide) ?_
        refine bc_icmp_ne (tgt := 113) dX7_word_78 (by decide) (fun h78 => absurd h78 (fun x => x hb)) (fun h78 => ?_)
        refine bc_iload dX7_word_81 rfl ?_
        refine bc_iload dX7_word_83 rfl ?_
        refine bc_isub dX7_word_85 ?_
        refine bc_iload_n dX7_word_86 rfl ?_
        refine bc_icmp_ne (tgt := 104) dX7_word_87 (by decide) (fun h87 => ?_) (fun h87 => absurd h87 (by rw [pk_sub hfr, bn_eqN (by omega) (by omega)]; exact he))
        exact next hne
    · have en : wcF K (i + 1) = wcF K i := by simp only [wcF, if_neg hb]
      have hih := ih (i + 1) (by omega) (by rw [en]; exact hno) (by rw [en]; omega)
      rw [en] at hih
      refine bc_iload dX7_word_61 rfl ?_
      refine bc_aload_n dX7_word_63 rfl ?_
      refine bc_callVS (z := mJ0_length_8abf5) (hK) dX7_word_64 lX7_65 qJ0_length_8abf5 rfl (by rfl) (by rfl) (Nat.le_of_ble_eq_true rfl) (s_length (d := d + 3) hK) (fun r64 μ64 e64 => ?_)
      obtain ⟨rfl, q64⟩ := e64
      obtain rfl := q64.symm
      refine bc_icmp_ge (tgt := 119) dX7_word_67 (by decide) (fun h67 => absurd h67 (by rw [bn_leN (by omega) (by omega)]; omega)) (fun h67 => ?_)
      refine bc_aload_n dX7_word_70 rfl ?_
      refine bc_iload dX7_word_71 rfl ?_
      refine bc_callVS (z := mJ0_charAt_5068e) (hK) dX7_word_73 lX7_70 qJ0_charAt_5068e rfl (by rfl) (by rfl) (Nat.le_of_ble_eq_true rfl) (s_charAt (d := d + 1) (j := i) hK rfl (by omega)) (fun r73 μ73 e73 => ?_)
      obtain ⟨rfl, q73⟩ := e73
      obtain rfl := q73.symm
      refine bc_bipush (v := 32) dX7_word_76 (by decide) ?_
      refine bc_icmp_ne (tgt := 113) dX7_word_78 (by decide) (fun h78 => ?_) (fun h78 => absurd h78 (hb))
      refine bc_iinc1 dX7_word_113 rfl (by decide) rfl ?_
      refine bc_goto (tgt := 61) dX7_word_116 (by decide) ?_
      rw [bn_add1]
      exact hih
end TXT
