/-! BreadCity itself: what it needs of its arguments, and what it tells -/
section OWN
variable {d : Nat} {μ ν : bc_M} {n no nq nm : Nat}
theorem nle {k b : Nat} (h : k ≤ b) (hb : b < 2147483648) : nI k ≤ nI b := (bn_leN (by omega) hb).mpr h
theorem nlt {k b : Nat} (h : k < b) (hb : b < 2147483648) : nI k < nI b := (bn_ltN (by omega) hb).mpr h
/-- a number that lies between 0 and b -/
theorem n_of {v : Int32} {b : Nat} (hb : b < 2147483648) (h1 : ¬ v < 0) (h2 : v ≤ nI b) : ∃ k, k ≤ b ∧ v = nI k := by
  rw [bn_lt, bn_0] at h1
  rw [bn_le, bn_ti hb] at h2
  refine ⟨v.toInt.toNat, by omega, ?_⟩
  rw [bn_eq, bn_ti (by omega)]
  omega
theorem n_of' {v : Int32} {b : Nat} (hb : b < 2147483648) (h1 : ¬ v < 0) (h2 : v < nI b) : ∃ k, k < b ∧ v = nI k := by
  rw [bn_lt, bn_0] at h1
  rw [bn_lt, bn_ti hb] at h2
  refine ⟨v.toInt.toNat, by omega, ?_⟩
  rw [bn_eq, bn_ti (by omega)]
  omega
theorem s_needW {v lo hi : Int32} (g1 : ¬ v < lo) (g2 : v ≤ hi) : bc_C d LC mX9_needWithin [.ref 0, .int v, .int lo, .int hi] μ (fun r ν => r = none ∧ ν = μ) := by
  refine bc_enter (by decide) (Nat.le_of_ble_eq_true rfl) rfl ?_
  refine bc_iload_n dX9_needWithin_0 rfl ?_
  refine bc_iload_n dX9_needWithin_1 rfl ?_
  refine bc_icmp_lt (tgt := 10) dX9_needWithin_2 (by decide) (fun h2 => absurd h2 (g1)) (fun h2 => ?_)
  refine bc_iload_n dX9_needWithin_5 rfl ?_
  refine bc_iload_n dX9_needWithin_6 rfl ?_
  refine bc_icmp_le (tgt := 31) dX9_needWithin_7 (by decide) (fun h7 => ?_) (fun h7 => absurd h7 (fun h => h g2))
  exact bc_return dX9_needWithin_31 rfl (⟨rfl, rfl⟩)
theorem s_needT {v b : Int32} (g1 : ¬ v < 0) (g2 : v < b) : bc_C d LC mX9_needThere [.ref 0, .int v, .int b] μ (fun r ν => r = none ∧ ν = μ) := by
  refine bc_enter (by decide) (Nat.le_of_ble_eq_true rfl) rfl ?_
  refine bc_iload_n dX9_needThere_0 rfl ?_
  refine bc_if_lt (tgt := 9) dX9_needThere_1 (by decide) (fun h1 => absurd h1 (g1)) (fun h1 => ?_)
  refine bc_iload_n dX9_needThere_4 rfl ?_
  refine bc_iload_n dX9_needThere_5 rfl ?_
  refine bc_icmp_lt (tgt := 30) dX9_needThere_6 (by decide) (fun h6 => ?_) (fun h6 => absurd h6 (fun h => h g2))
  exact bc_return dX9_needThere_30 rfl (⟨rfl, rfl⟩)
theorem s_needX {k b t : Nat} (ht : μ 1 1 = nI t) (h1 : k ≤ t) (h2 : k ≤ b) (h3 : t < 1000) (h4 : b < 1000) : bc_C (d + 1) LC mX9_needText [.ref 0, .int (nI k), .int (nI b)] μ (fun r ν => r = none ∧ ν = μ) := by
  refine bc_enter (by decide) (Nat.le_of_ble_eq_true rfl) rfl ?_
  refine bc_aload_n dX9_needText_0 rfl ?_
  refine bc_iload_n dX9_needText_1 rfl ?_
  refine bc_iconst (v := 0) dX9_needText_2 (by decide) ?_
  refine bc_aload_n dX9_needText_3 rfl ?_
  refine bc_getr dX9_needText_4 fX9_10 (rfl) rfl ?_
  refine bc_geti dX9_needText_7 fX9_84 (rfl) rfl ?_
  rw [ht]
  refine bc_iload_n dX9_needText_10 rfl ?_
  refine bc_min dX9_needText_11 wX9_333 (Nat.le_of_ble_eq_true rfl) ?_
  rw [bn_min t b (by omega) (by omega)]
  refine bc_callV (z := mX9_needWithin) (ci := 9) dX9_needText_14 lX9_172 qX9_needWithin (by rfl) (by rfl) (by rfl) (by rfl) (Nat.le_of_ble_eq_true rfl) (s_needW (bn_nn (by omega)) (nle (by omega) (by omega))) (fun r14 μ14 e14 => ?_)
  obtain ⟨rfl, q14⟩ := e14
  obtain rfl := q14.symm
  exact bc_return dX9_needText_17 rfl (⟨rfl, rfl⟩)
theorem s_noteChange : bc_C (d + 1) LC mX9_noteChange [.ref 0] μ (fun r ν => r = none ∧ ν = bc_u (bc_u μ 0 11 0) 117 7 0) := by
  refine bc_enter (by decide) (Nat.le_of_ble_eq_true rfl) rfl ?_
  refine bc_aload_n dX9_noteChange_0 rfl ?_
  refine bc_iconst (v := 0) dX9_noteChange_1 (by decide) ?_
  refine bc_put dX9_noteChange_2 fX9_157 ftX9 fpX9_11 rfl rfl (rfl) rfl ?_
  refine bc_aload_n dX9_noteChange_5 rfl ?_
  refine bc_getr dX9_noteChange_6 fX9_71 (rfl) rfl ?_
  refine bc_callV (z := mX8_forget) (ci := 8) dX9_noteChange_9 lX9_133 qX8_forget (by rfl) (by rfl) (by rfl) (by rfl) (Nat.le_of_ble_eq_true rfl) (s_tforget) (fun r9 μ9 e9 => ?_)
  obtain ⟨rfl, q9⟩ := e9
  obtain rfl := q9.symm
  exact bc_return dX9_noteChange_12 rfl (⟨rfl, rfl⟩)
/-! told -/
def tolM (μ : bc_M) (no : Nat) : Nat → Int32
  | 0 => μ 3 0 | 1 => μ 3 1 | 2 => μ 3 2 | 3 => μ 3 3 | 4 => μ 31 4 | 5 => μ 31 2 | 6 => μ 31 3 | 7 => μ 31 5 | 8 => μ 31 6 | 9 => μ 28 1 | 10 => μ 0 11
  | _ => lbM (μ 32) 0 no
theorem s_told {w : Nat} (hw : w ≤ 11) (hno : μ 3 1 = nI no) (hno8 : no ≤ 8) : bc_C (d + 3) LC mX9_told [.ref 0, .int (nI w)] μ (fun r ν => r = some (.int (tolM μ no w)) ∧ ν = μ) := by
  refine bc_enter (by decide) (Nat.le_of_ble_eq_true rfl) rfl ?_
  have hc : w = 0 ∨ w = 1 ∨ w = 2 ∨ w = 3 ∨ w = 4 ∨ w = 5 ∨ w = 6 ∨ w = 7 ∨ w = 8 ∨ w = 9 ∨ w = 10 ∨ w = 11 := by omega
  rcases hc with rfl | rfl | rfl | rfl | rfl | rfl | rfl | rfl | rfl | rfl | rfl | rfl
  · skip
    refine bc_aload_n dX9_told_0 rfl ?_
    refine bc_iload_n dX9_told_1 rfl ?_
    refine bc_iconst (v := 0) dX9_told_2 (by decide) ?_
    refine bc_bipush (v := 11) dX9_told_3 (by decide) ?_
    refine bc_callV (z := mX9_needWithin) (ci := 9) dX9_told_5 lX9_172 qX9_needWithin (by rfl) (by rfl) (by rfl) (by rfl) (Nat.le_of_ble_eq_true rfl) (s_needW (by decide) (by decide)) (fun r5 μ5 e5 => ?_)
    obtain ⟨rfl, q5⟩ := e5
    obtain rfl := q5.symm
    refine bc_iload_n dX9_told_8 rfl ?_
    refine bc_tableIn (off := 59) (tgt := 68) dX9_told_9 (by decide) (by decide) (by decide) (by decide) ?_
    refine bc_aload_n dX9_told_68 rfl ?_
    refine bc_getr dX9_told_69 fX9_19 (rfl) rfl ?_
    refine bc_geti dX9_told_72 fX9_176 (rfl) rfl ?_
    exact bc_ireturn dX9_told_75 rfl rfl (⟨rfl, rfl⟩)
  · skip
    refine bc_aload_n dX9_told_0 rfl ?_
    refine bc_iload_n dX9_told_1 rfl ?_
    refine bc_iconst (v := 0) dX9_told_2 (by decide) ?_
    refine bc_bipush (v := 11) dX9_told_3 (by decide) ?_
    refine bc_callV (z := mX9_needWithin) (ci := 9) dX9_told_5 lX9_172 qX9_needWithin (by rfl) (by rfl) (by rfl) (by rfl) (Nat.le_of_ble_eq_true rfl) (s_needW (by decide) (by decide)) (fun r5 μ5 e5 => ?_)
    obtain ⟨rfl, q5⟩ := e5
    obtain rfl := q5.symm
    refine bc_iload_n dX9_told_8 rfl ?_
    refine bc_tableIn (off := 67) (tgt := 76) dX9_told_9 (by decide) (by decide) (by decide) (by decide) ?_
    refine bc_aload_n dX9_told_76 rfl ?_
    refine bc_getr dX9_told_77 fX9_19 (rfl) rfl ?_
    refine bc_geti dX9_told_80 fX9_126 (rfl) rfl ?_
    exact bc_ireturn dX9_told_83 rfl rfl (⟨rfl, rfl⟩)
  · skip
    refine bc_aload_n dX9_told_0 rfl ?_
    refine bc_iload_n dX9_told_1 rfl ?_
    refine bc_iconst (v := 0) dX9_told_2 (by decide) ?_
    refine bc_bipush (v := 11) dX9_told_3 (by decide) ?_
    refine bc_callV (z := mX9_needWithin) (ci := 9) dX9_told_5 lX9_172 qX9_needWithin (by rfl) (by rfl) (by rfl) (by rfl) (Nat.le_of_ble_eq_true rfl) (s_needW (by decide) (by decide)) (fun r5 μ5 e5 => ?_)
    obtain ⟨rfl, q5⟩ := e5
    obtain rfl := q5.symm
    refine bc_iload_n dX9_told_8 rfl ?_
    refine bc_tableIn (off := 75) (tgt := 84) dX9_told_9 (by decide) (by decide) (by decide) (by decide) ?_
    refine bc_aload_n dX9_told_84 rfl ?_
    refine bc_getr dX9_told_85 fX9_19 (rfl) rfl ?_
    refine bc_geti dX9_told_88 fX9_179 (rfl) rfl ?_
    exact bc_ireturn dX9_told_91 rfl rfl (⟨rfl, rfl⟩)
  · skip
    refine bc_aload_n dX9_told_0 rfl ?_
    refine bc_iload_n dX9_told_1 rfl ?_
    refine bc_iconst (v := 0) dX9_told_2 (by decide) ?_
    refine bc_bipush (v := 11) dX9_told_3 (by decide) ?_
    refine bc_callV (z := mX9_needWithin) (ci := 9) dX9_told_5 lX9_172 qX9_needWithin (by rfl) (by rfl) (by rfl) (by rfl) (Nat.le_of_ble_eq_true rfl) (s_needW (by decide) (by decide)) (fun r5 μ5 e5 => ?_)
    obtain ⟨rfl, q5⟩ := e5
    obtain rfl := q5.symm
    refine bc_iload_n dX9_told_8 rfl ?_
    refine bc_tableIn (off := 83) (tgt := 92) dX9_told_9 (by decide) (by decide) (by decide) (by decide) ?_
    refine bc_aload_n dX9_told_92 rfl ?_
    refine bc_getr dX9_told_93 fX9_19 (rfl) rfl ?_
    refine bc_geti dX9_told_96 fX9_182 (rfl) rfl ?_
    exact bc_ireturn dX9_told_99 rfl rfl (⟨rfl, rfl⟩)
  · skip
    refine bc_aload_n dX9_told_0 rfl ?_
    refine bc_iload_n dX9_told_1 rfl ?_
    refine bc_iconst (v := 0) dX9_told_2 (by decide) ?_
    refine bc_bipush (v := 11) dX9_told_3 (by decide) ?_
    refine bc_callV (z := mX9_needWithin) (ci := 9) dX9_told_5 lX9_172 qX9_needWithin (by rfl) (by rfl) (by rfl) (by rfl) (Nat.le_of_ble_eq_true rfl) (s_needW (by decide) (by decide)) (fun r5 μ5 e5 => ?_)
    obtain ⟨rfl, q5⟩ := e5
    obtain rfl := q5.symm
    refine bc_iload_n dX9_told_8 rfl ?_
    refine bc_tableIn (off := 91) (tgt := 100) dX9_told_9 (by decide) (by decide) (by decide) (by decide) ?_
    refine bc_aload_n dX9_told_100 rfl ?_
    refine bc_getr dX9_told_101 fX9_52 (rfl) rfl ?_
    refine bc_geti dX9_told_104 fX9_185 (rfl) rfl ?_
    exact bc_ireturn dX9_told_107 rfl rfl (⟨rfl, rfl⟩)
  · skip
    refine bc_aload_n dX9_told_0 rfl ?_
    refine bc_iload_n dX9_told_1 rfl ?_
    refine bc_iconst (v := 0) dX9_told_2 (by decide) ?_
    refine bc_bipush (v := 11) dX9_told_3 (by decide) ?_
    refine bc_callV (z := mX9_needWithin) (ci := 9) dX9_told_5 lX9_172 qX9_needWithin (by rfl) (by rfl) (by rfl) (by rfl) (Nat.le_of_ble_eq_true rfl) (s_needW (by decide) (by decide)) (fun r5 μ5 e5 => ?_)
    obtain ⟨rfl, q5⟩ := e5
    obtain rfl := q5.symm
    refine bc_iload_n dX9_told_8 rfl ?_
    refine bc_tableIn (off := 99) (tgt := 108) dX9_told_9 (by decide) (by decide) (by decide) (by decide) ?_
    refine bc_aload_n dX9_told_108 rfl ?_
    refine bc_getr dX9_told_109 fX9_52 (rfl) rfl ?_
    refine bc_geti dX9_told_112 fX9_188 (rfl) rfl ?_
    exact bc_ireturn dX9_told_115 rfl rfl (⟨rfl, rfl⟩)
  · skip
    refine bc_aload_n dX9_told_0 rfl ?_
    refine bc_iload_n dX9_told_1 rfl ?_
    refine bc_iconst (v := 0) dX9_told_2 (by decide) ?_
    refine bc_bipush (v := 11) dX9_told_3 (by decide) ?_
    refine bc_callV (z := mX9_needWithin) (ci := 9) dX9_told_5 lX9_172 qX9_needWithin (by rfl) (by rfl) (by rfl) (by rfl) (Nat.le_of_ble_eq_true rfl) (s_needW (by decide) (by decide)) (fun r5 μ5 e5 => ?_)
    obtain ⟨rfl, q5⟩ := e5
    obtain rfl := q5.symm
    refine bc_iload_n dX9_told_8 rfl ?_
    refine bc_tableIn (off := 107) (tgt := 116) dX9_told_9 (by decide) (by decide) (by decide) (by decide) ?_
    refine bc_aload_n dX9_told_116 rfl ?_
    refine bc_getr dX9_told_117 fX9_52 (rfl) rfl ?_
    refine bc_geti dX9_told_120 fX9_191 (rfl) rfl ?_
    exact bc_ireturn dX9_told_123 rfl rfl (⟨rfl, rfl⟩)
  · skip
    refine bc_aload_n dX9_told_0 rfl ?_
    refine bc_iload_n dX9_told_1 rfl ?_
    refine bc_iconst (v := 0) dX9_told_2 (by decide) ?_
    refine bc_bipush (v := 11) dX9_told_3 (by decide) ?_
    refine bc_callV (z := mX9_needWithin) (ci := 9) dX9_told_5 lX9_172 qX9_needWithin (by rfl) (by rfl) (by rfl) (by rfl) (Nat.le_of_ble_eq_true rfl) (s_needW (by decide) (by decide)) (fun r5 μ5 e5 => ?_)
    obtain ⟨rfl, q5⟩ := e5
    obtain rfl := q5.symm
    refine bc_iload_n dX9_told_8 rfl ?_
    refine bc_tableIn (off := 115) (tgt := 124) dX9_told_9 (by decide) (by decide) (by decide) (by decide) ?_
    refine bc_aload_n dX9_told_124 rfl ?_
    refine bc_getr dX9_told_125 fX9_52 (rfl) rfl ?_
    refine bc_geti dX9_told_128 fX9_194 (rfl) rfl ?_
    exact bc_ireturn dX9_told_131 rfl rfl (⟨rfl, rfl⟩)
  · skip
    refine bc_aload_n dX9_told_0 rfl ?_
    refine bc_iload_n dX9_told_1 rfl ?_
    refine bc_iconst (v := 0) dX9_told_2 (by decide) ?_
    refine bc_bipush (v := 11) dX9_told_3 (by decide) ?_
    refine bc_callV (z := mX9_needWithin) (ci := 9) dX9_told_5 lX9_172 qX9_needWithin (by rfl) (by rfl) (by rfl) (by rfl) (Nat.le_of_ble_eq_true rfl) (s_needW (by decide) (by decide)) (fun r5 μ5 e5 => ?_)
    obtain ⟨rfl, q5⟩ := e5
    obtain rfl := q5.symm
    refine bc_iload_n dX9_told_8 rfl ?_
    refine bc_tableIn (off := 123) (tgt := 132) dX9_told_9 (by decide) (by decide) (by decide) (by decide) ?_
    refine bc_aload_n dX9_told_132 rfl ?_
    refine bc_getr dX9_told_133 fX9_52 (rfl) rfl ?_
    refine bc_geti dX9_told_136 fX9_197 (rfl) rfl ?_
    exact bc_ireturn dX9_told_139 rfl rfl (⟨rfl, rfl⟩)
  · skip
    refine bc_aload_n dX9_told_0 rfl ?_
    refine bc_iload_n dX9_told_1 rfl ?_
    refine bc_iconst (v := 0) dX9_told_2 (by decide) ?_
    refine bc_bipush (v := 11) dX9_told_3 (by decide) ?_
    refine bc_callV (z := mX9_needWithin) (ci := 9) dX9_told_5 lX9_172 qX9_needWithin (by rfl) (by rfl) (by rfl) (by rfl) (Nat.le_of_ble_eq_true rfl) (s_needW (by decide) (by decide)) (fun r5 μ5 e5 => ?_)
    obtain ⟨rfl, q5⟩ := e5
    obtain rfl := q5.symm
    refine bc_iload_n dX9_told_8 rfl ?_
    refine bc_tableIn (off := 131) (tgt := 140) dX9_told_9 (by decide) (by decide) (by decide) (by decide) ?_
    refine bc_aload_n dX9_told_140 rfl ?_
    refine bc_getr dX9_told_141 fX9_43 (rfl) rfl ?_
    refine bc_geti dX9_told_144 fX9_165 (rfl) rfl ?_
    exact bc_ireturn dX9_told_147 rfl rfl (⟨rfl, rfl⟩)
  · skip
    refine bc_aload_n dX9_told_0 rfl ?_
    refine bc_iload_n dX9_told_1 rfl ?_
    refine bc_iconst (v := 0) dX9_told_2 (by decide) ?_
    refine bc_bipush (v := 11) dX9_told_3 (by decide) ?_
    refine bc_callV (z := mX9_needWithin) (ci := 9) dX9_told_5 lX9_172 qX9_needWithin (by rfl) (by rfl) (by rfl) (by rfl) (Nat.le_of_ble_eq_true rfl) (s_needW (by decide) (by decide)) (fun r5 μ5 e5 => ?_)
    obtain ⟨rfl, q5⟩ := e5
    obtain rfl := q5.symm
    refine bc_iload_n dX9_told_8 rfl ?_
    refine bc_tableIn (off := 139) (tgt := 148) dX9_told_9 (by decide) (by decide) (by decide) (by decide) ?_
    refine bc_aload_n dX9_told_148 rfl ?_
    refine bc_geti dX9_told_149 fX9_157 (rfl) rfl ?_
    exact bc_ireturn dX9_told_152 rfl rfl (⟨rfl, rfl⟩)
  · skip
    refine bc_aload_n dX9_told_0 rfl ?_
    refine bc_iload_n dX9_told_1 rfl ?_
    refine bc_iconst (v := 0) dX9_told_2 (by decide) ?_
    refine bc_bipush (v := 11) dX9_told_3 (by decide) ?_
    refine bc_callV (z := mX9_needWithin) (ci := 9) dX9_told_5 lX9_172 qX9_needWithin (by rfl) (by rfl) (by rfl) (by rfl) (Nat.le_of_ble_eq_true rfl) (s_needW (by decide) (by decide)) (fun r5 μ5 e5 => ?_)
    obtain ⟨rfl, q5⟩ := e5
    obtain rfl := q5.symm
    refine bc_iload_n dX9_told_8 rfl ?_
    refine bc_tableOut (tgt := 153) dX9_told_9 (by decide) (by decide) ?_
    refine bc_aload_n dX9_told_153 rfl ?_
    refine bc_getr dX9_told_154 fX9_52 (rfl) rfl ?_
    refine bc_iconst (v := 0) dX9_told_157 (by decide) ?_
    refine bc_callV (z := mX1_litBits) (ci := 1) dX9_told_158 lX9_200 qX1_litBits (by rfl) (by rfl) (by rfl) (by rfl) (Nat.le_of_ble_eq_true rfl) (s_litBits (.inl rfl) hno hno8 0) (fun r158 μ158 e158 => ?_)
    obtain ⟨rfl, q158⟩ := e158
    obtain rfl := q158.symm
    exact bc_ireturn dX9_told_161 rfl rfl (⟨rfl, rfl⟩)
/-! quarter -/
def oiM (hm : Nat → Int32) (q : Int32) : Nat → Int32
  | 0 => 0
  | k + 1 => if hm k = q then oiM hm q k ||| 1 <<< (nI k &&& 31) else oiM hm q k
theorem s_ovensIn {b : Nat} (hb : bc_isB LC b) (q : Int32) (hno : μ b 1 = nI no) (hno8 : no ≤ 8) : bc_C (d + 2) LC mX0_ovensIn [.ref b, .int q] μ (fun r ν => r = some (.int (oiM (μ (b + 3)) q no)) ∧ ν = μ) := by
  refine bc_enter (by decide) (Nat.le_of_ble_eq_true rfl) rfl ?_
  have loop : ∀ m k, k + m = no → bc_W (d + 2) LC mX0_ovensIn 4 [.ref b, .int q, .int (oiM (μ (b + 3)) q k), .int (nI k)] [] μ (fun r ν => r = some (.int (oiM (μ (b + 3)) q no)) ∧ ν = μ) := by
    intro m
    induction m with
    | zero =>
      intro k hk
      have hk : k = no := by omega
      subst hk
      refine bc_iload_n dX0_ovensIn_4 rfl ?_
      refine bc_aload_n dX0_ovensIn_5 rfl ?_
      refine bc_geti dX0_ovensIn_6 fX0_40 (hb.1) rfl ?_
      refine bc_icmp_ge (tgt := 33) dX0_ovensIn_9 (by decide) (fun h9 => ?_) (fun h9 => absurd h9 (fun h => h (by rw [hno]; exact Int32.le_refl _)))
      refine bc_iload_n dX0_ovensIn_33 rfl ?_
      exact bc_ireturn dX0_ovensIn_34 rfl rfl (⟨rfl, rfl⟩)
    | succ m ih =>
      intro k hk
      refine bc_iload_n dX0_ovensIn_4 rfl ?_
      refine bc_aload_n dX0_ovensIn_5 rfl ?_
      refine bc_geti dX0_ovensIn_6 fX0_40 (hb.1) rfl ?_
      refine bc_icmp_ge (tgt := 33) dX0_ovensIn_9 (by decide) (fun h9 => absurd h9 (by rw [hno, bn_leN (by omega) (by omega)]; omega)) (fun h9 => ?_)
      refine bc_aload_n dX0_ovensIn_12 rfl ?_
      refine bc_iload_n dX0_ovensIn_13 rfl ?_
      refine bc_callV (z := mX0_quarterOf) (ci := 0) dX0_ovensIn_14 lX0_113 qX0_quarterOf (hb.1) (by rfl) (by rfl) (by rfl) (Nat.le_of_ble_eq_true rfl) (s_entB hb (by omega)) (fun r14 μ14 e14 => ?_)
      obtain ⟨rfl, q14⟩ := e14
      obtain rfl := q14.symm
      refine bc_iload_n dX0_ovensIn_17 rfl ?_
      refine bc_icmp_ne (tgt := 27) dX0_ovensIn_18 (by decide) (fun h18 => ?_) (fun h18 => ?_)
      · refine bc_iinc1 dX0_ovensIn_27 rfl (by decide) rfl ?_
        refine bc_goto (tgt := 4) dX0_ovensIn_30 (by decide) ?_
        have h2 := ih (k + 1) (by omega)
        rw [show oiM (μ (b + 3)) q (k + 1) = oiM (μ (b + 3)) q k by simp [oiM, h18]] at h2
        rw [bn_add1]
        exact h2
      · refine bc_iload_n dX0_ovensIn_21 rfl ?_
        refine bc_iconst (v := 1) dX0_ovensIn_22 (by decide) ?_
        refine bc_iload_n dX0_ovensIn_23 rfl ?_
        refine bc_ishl dX0_ovensIn_24 ?_
        refine bc_ior dX0_ovensIn_25 ?_
        refine bc_istore_n dX0_ovensIn_26 (by decide) rfl ?_
        refine bc_iinc1 dX0_ovensIn_27 rfl (by decide) rfl ?_
        refine bc_goto (tgt := 4) dX0_ovensIn_30 (by decide) ?_
        have h2 := ih (k + 1) (by omega)
        rw [show oiM (μ (b + 3)) q (k + 1) = oiM (μ (b + 3)) q k ||| 1 <<< (nI k &&& 31) by simp [oiM, h18]] at h2
        rw [bn_add1]
        exact h2
  refine bc_iconst (v := 0) dX0_ovensIn_0 (by decide) ?_
  refine bc_istore_n dX0_ovensIn_1 (by decide) rfl ?_
  refine bc_iconst (v := 0) dX0_ovensIn_2 (by decide) ?_
  refine bc_istore_n dX0_ovensIn_3 (by decide) rfl ?_
  exact loop no 0 (by omega)
def quaM (μ : bc_M) (n no q : Nat) : Nat → Int32
  | 0 => μ 4 q | 1 => μ 5 q | 2 => mB no (μ 6) (μ 7) (lbM (μ 32) 0 no) (nI q) | 3 => μ 34 q | 4 => μ 31 7 >>> (nI q &&& 31) &&& 1 | 5 => mL μ 31 n no (lbM (μ 32) 0 no) (μ 31 4) q
  | _ => oiM (μ 6) (nI q) no
theorem s_quarter {q w : Nat} (hB : okB μ n no nq) (hq : q < nq) (hw : w ≤ 6) : bc_C (d + 4) LC mX9_quarter [.ref 0, .int (nI q), .int (nI w)] μ (fun r ν => r = some (.int (quaM μ n no q w)) ∧ sameS 31 μ ν) := by
  have hno : μ 3 1 = nI no := hB.1.1
  have hno8 : no ≤ 8 := hB.1.2.1
  have hnq : μ 3 0 = nI nq := hB.2.1.1
  have hnq6 := hB.2.1.2.1
  have hq6 : q < 6 := by omega
  refine bc_enter (by decide) (Nat.le_of_ble_eq_true rfl) rfl ?_
  have hc : w = 0 ∨ w = 1 ∨ w = 2 ∨ w = 3 ∨ w = 4 ∨ w = 5 ∨ w = 6 := by omega
  rcases hc with rfl | rfl | rfl | rfl | rfl | rfl | rfl
  · skip
    refine bc_aload_n dX9_quarter_0 rfl ?_
    refine bc_iload_n dX9_quarter_1 rfl ?_
    refine bc_aload_n dX9_quarter_2 rfl ?_
    refine bc_getr dX9_quarter_3 fX9_19 (rfl) rfl ?_
    refine bc_geti dX9_quarter_6 fX9_176 (rfl) rfl ?_
    rw [hnq]
    refine bc_callV (z := mX9_needThere) (ci := 9) dX9_quarter_9 lX9_204 qX9_needThere (by rfl) (by rfl) (by rfl) (by rfl) (Nat.le_of_ble_eq_true rfl) (s_needT (bn_nn (by omega)) (nlt hq (by omega))) (fun r9 μ9 e9 => ?_)
    obtain ⟨rfl, q9⟩ := e9
    obtain rfl := q9.symm
    refine bc_aload_n dX9_quarter_12 rfl ?_
    refine bc_iload_n dX9_quarter_13 rfl ?_
    refine bc_iconst (v := 0) dX9_quarter_14 (by decide) ?_
    refine bc_bipush (v := 6) dX9_quarter_15 (by decide) ?_
    refine bc_callV (z := mX9_needWithin) (ci := 9) dX9_quarter_17 lX9_172 qX9_needWithin (by rfl) (by rfl) (by rfl) (by rfl) (Nat.le_of_ble_eq_true rfl) (s_needW (by decide) (by decide)) (fun r17 μ17 e17 => ?_)
    obtain ⟨rfl, q17⟩ := e17
    obtain rfl := q17.symm
    refine bc_aload_n dX9_quarter_20 rfl ?_
    refine bc_getr dX9_quarter_21 fX9_52 (rfl) rfl ?_
    refine bc_aload_n dX9_quarter_24 rfl ?_
    refine bc_getr dX9_quarter_25 fX9_52 (rfl) rfl ?_
    refine bc_iconst (v := 0) dX9_quarter_28 (by decide) ?_
    refine bc_callV (z := mX1_litBits) (ci := 1) dX9_quarter_29 lX9_200 qX1_litBits (by rfl) (by rfl) (by rfl) (by rfl) (Nat.le_of_ble_eq_true rfl) (s_litBits (.inl rfl) hno hno8 0) (fun r29 μ29 e29 => ?_)
    obtain ⟨rfl, q29⟩ := e29
    obtain rfl := q29.symm
    refine bc_callV (z := mX1_smell) (ci := 1) dX9_quarter_32 lX9_207 qX1_smell (by rfl) (by rfl) (by rfl) (by rfl) (Nat.le_of_ble_eq_true rfl) (s_smell (.inl rfl) hB.1 _) (fun r32 μ32 e32 => ?_)
    obtain ⟨rfl, hI⟩ := e32
    refine bc_iload_n dX9_quarter_35 rfl ?_
    refine bc_tableIn (off := 40) (tgt := 76) dX9_quarter_36 (by decide) (by decide) (by decide) (by decide) ?_
    refine bc_aload_n dX9_quarter_76 rfl ?_
    refine bc_getr dX9_quarter_77 fX9_19 (rfl) rfl ?_
    refine bc_iload_n dX9_quarter_80 rfl ?_
    refine bc_callV (z := mX0_sideOf) (ci := 0) dX9_quarter_81 lX9_210 qX0_sideOf (by rfl) (by rfl) (by rfl) (by rfl) (Nat.le_of_ble_eq_true rfl) (s_sidB LC_b3 hq6) (fun r81 μ81 e81 => ?_)
    obtain ⟨rfl, q81⟩ := e81
    obtain rfl := q81.symm
    exact bc_ireturn dX9_quarter_84 rfl rfl (⟨by rw [show μ32 (3 + 1) q = μ 4 q from hI.1 4 q (by unfold scr; omega)]; rfl, hI.1⟩)
  · skip
    refine bc_aload_n dX9_quarter_0 rfl ?_
    refine bc_iload_n dX9_quarter_1 rfl ?_
    refine bc_aload_n dX9_quarter_2 rfl ?_
    refine bc_getr dX9_quarter_3 fX9_19 (rfl) rfl ?_
    refine bc_geti dX9_quarter_6 fX9_176 (rfl) rfl ?_
    rw [hnq]
    refine bc_callV (z := mX9_needThere) (ci := 9) dX9_quarter_9 lX9_204 qX9_needThere (by rfl) (by rfl) (by rfl) (by rfl) (Nat.le_of_ble_eq_true rfl) (s_needT (bn_nn (by omega)) (nlt hq (by omega))) (fun r9 μ9 e9 => ?_)
    obtain ⟨rfl, q9⟩ := e9
    obtain rfl := q9.symm
    refine bc_aload_n dX9_quarter_12 rfl ?_
    refine bc_iload_n dX9_quarter_13 rfl ?_
    refine bc_iconst (v := 0) dX9_quarter_14 (by decide) ?_
    refine bc_bipush (v := 6) dX9_quarter_15 (by decide) ?_
    refine bc_callV (z := mX9_needWithin) (ci := 9) dX9_quarter_17 lX9_172 qX9_needWithin (by rfl) (by rfl) (by rfl) (by rfl) (Nat.le_of_ble_eq_true rfl) (s_needW (by decide) (by decide)) (fun r17 μ17 e17 => ?_)
    obtain ⟨rfl, q17⟩ := e17
    obtain rfl := q17.symm
    refine bc_aload_n dX9_quarter_20 rfl ?_
    refine bc_getr dX9_quarter_21 fX9_52 (rfl) rfl ?_
    refine bc_aload_n dX9_quarter_24 rfl ?_
    refine bc_getr dX9_quarter_25 fX9_52 (rfl) rfl ?_
    refine bc_iconst (v := 0) dX9_quarter_28 (by decide) ?_
    refine bc_callV (z := mX1_litBits) (ci := 1) dX9_quarter_29 lX9_200 qX1_litBits (by rfl) (by rfl) (by rfl) (by rfl) (Nat.le_of_ble_eq_true rfl) (s_litBits (.inl rfl) hno hno8 0) (fun r29 μ29 e29 => ?_)
    obtain ⟨rfl, q29⟩ := e29
    obtain rfl := q29.symm
    refine bc_callV (z := mX1_smell) (ci := 1) dX9_quarter_32 lX9_207 qX1_smell (by rfl) (by rfl) (by rfl) (by rfl) (Nat.le_of_ble_eq_true rfl) (s_smell (.inl rfl) hB.1 _) (fun r32 μ32 e32 => ?_)
    obtain ⟨rfl, hI⟩ := e32
    refine bc_iload_n dX9_quarter_35 rfl ?_
    refine bc_tableIn (off := 49) (tgt := 85) dX9_quarter_36 (by decide) (by decide) (by decide) (by decide) ?_
    refine bc_aload_n dX9_quarter_85 rfl ?_
    refine bc_getr dX9_quarter_86 fX9_19 (rfl) rfl ?_
    refine bc_iload_n dX9_quarter_89 rfl ?_
    refine bc_callV (z := mX0_nosesOf) (ci := 0) dX9_quarter_90 lX9_213 qX0_nosesOf (by rfl) (by rfl) (by rfl) (by rfl) (Nat.le_of_ble_eq_true rfl) (s_nosB LC_b3 hq6) (fun r90 μ90 e90 => ?_)
    obtain ⟨rfl, q90⟩ := e90
    obtain rfl := q90.symm
    exact bc_ireturn dX9_quarter_93 rfl rfl (⟨by rw [show μ32 (3 + 2) q = μ 5 q from hI.1 5 q (by unfold scr; omega)]; rfl, hI.1⟩)
  · skip
    refine bc_aload_n dX9_quarter_0 rfl ?_
    refine bc_iload_n dX9_quarter_1 rfl ?_
    refine bc_aload_n dX9_quarter_2 rfl ?_
    refine bc_getr dX9_quarter_3 fX9_19 (rfl) rfl ?_
    refine bc_geti dX9_quarter_6 fX9_176 (rfl) rfl ?_
    rw [hnq]
    refine bc_callV (z := mX9_needThere) (ci := 9) dX9_quarter_9 lX9_204 qX9_needThere (by rfl) (by rfl) (by rfl) (by rfl) (Nat.le_of_ble_eq_true rfl) (s_needT (bn_nn (by omega)) (nlt hq (by omega))) (fun r9 μ9 e9 => ?_)
    obtain ⟨rfl, q9⟩ := e9
    obtain rfl := q9.symm
    refine bc_aload_n dX9_quarter_12 rfl ?_
    refine bc_iload_n dX9_quarter_13 rfl ?_
    refine bc_iconst (v := 0) dX9_quarter_14 (by decide) ?_
    refine bc_bipush (v := 6) dX9_quarter_15 (by decide) ?_
    refine bc_callV (z := mX9_needWithin) (ci := 9) dX9_quarter_17 lX9_172 qX9_needWithin (by rfl) (by rfl) (by rfl) (by rfl) (Nat.le_of_ble_eq_true rfl) (s_needW (by decide) (by decide)) (fun r17 μ17 e17 => ?_)
    obtain ⟨rfl, q17⟩ := e17
    obtain rfl := q17.symm
    refine bc_aload_n dX9_quarter_20 rfl ?_
    refine bc_getr dX9_quarter_21 fX9_52 (rfl) rfl ?_
    refine bc_aload_n dX9_quarter_24 rfl ?_
    refine bc_getr dX9_quarter_25 fX9_52 (rfl) rfl ?_
    refine bc_iconst (v := 0) dX9_quarter_28 (by decide) ?_
    refine bc_callV (z := mX1_litBits) (ci := 1) dX9_quarter_29 lX9_200 qX1_litBits (by rfl) (by rfl) (by rfl) (by rfl) (Nat.le_of_ble_eq_true rfl) (s_litBits (.inl rfl) hno hno8 0) (fun r29 μ29 e29 => ?_)
    obtain ⟨rfl, q29⟩ := e29
    obtain rfl := q29.symm
    refine bc_callV (z := mX1_smell) (ci := 1) dX9_quarter_32 lX9_207 qX1_smell (by rfl) (by rfl) (by rfl) (by rfl) (Nat.le_of_ble_eq_true rfl) (s_smell (.inl rfl) hB.1 _) (fun r32 μ32 e32 => ?_)
    obtain ⟨rfl, hI⟩ := e32
    refine bc_iload_n dX9_quarter_35 rfl ?_
    refine bc_tableIn (off := 58) (tgt := 94) dX9_quarter_36 (by decide) (by decide) (by decide) (by decide) ?_
    refine bc_aload_n dX9_quarter_94 rfl ?_
    refine bc_getr dX9_quarter_95 fX9_52 (rfl) rfl ?_
    refine bc_iload_n dX9_quarter_98 rfl ?_
    refine bc_callV (z := mX1_breadOf) (ci := 1) dX9_quarter_99 lX9_216 qX1_breadOf (by rfl) (by rfl) (by rfl) (by rfl) (Nat.le_of_ble_eq_true rfl) (s_breadOf LC_c31 (nI q)) (fun r99 μ99 e99 => ?_)
    obtain ⟨rfl, q99⟩ := e99
    obtain rfl := q99.symm
    exact bc_ireturn dX9_quarter_102 rfl rfl (⟨by rw [en_N hq6 (by decide), show μ32 (31 + 4) q = _ from hI.2.2.1 q hq6]; rfl, hI.1⟩)
  · skip
    refine bc_aload_n dX9_quarter_0 rfl ?_
    refine bc_iload_n dX9_quarter_1 rfl ?_
    refine bc_aload_n dX9_quarter_2 rfl ?_
    refine bc_getr dX9_quarter_3 fX9_19 (rfl) rfl ?_
    refine bc_geti dX9_quarter_6 fX9_176 (rfl) rfl ?_
    rw [hnq]
    refine bc_callV (z := mX9_needThere) (ci := 9) dX9_quarter_9 lX9_204 qX9_needThere (by rfl) (by rfl) (by rfl) (by rfl) (Nat.le_of_ble_eq_true rfl) (s_needT (bn_nn (by omega)) (nlt hq (by omega))) (fun r9 μ9 e9 => ?_)
    obtain ⟨rfl, q9⟩ := e9
    obtain rfl := q9.symm
    refine bc_aload_n dX9_quarter_12 rfl ?_
    refine bc_iload_n dX9_quarter_13 rfl ?_
    refine bc_iconst (v := 0) dX9_quarter_14 (by decide) ?_
    refine bc_bipush (v := 6) dX9_quarter_15 (by decide) ?_
    refine bc_callV (z := mX9_needWithin) (ci := 9) dX9_quarter_17 lX9_172 qX9_needWithin (by rfl) (by rfl) (by rfl) (by rfl) (Nat.le_of_ble_eq_true rfl) (s_needW (by decide) (by decide)) (fun r17 μ17 e17 => ?_)
    obtain ⟨rfl, q17⟩ := e17
    obtain rfl := q17.symm
    refine bc_aload_n dX9_quarter_20 rfl ?_
    refine bc_getr dX9_quarter_21 fX9_52 (rfl) rfl ?_
    refine bc_aload_n dX9_quarter_24 rfl ?_
    refine bc_getr dX9_quarter_25 fX9_52 (rfl) rfl ?_
    refine bc_iconst (v := 0) dX9_quarter_28 (by decide) ?_
    refine bc_callV (z := mX1_litBits) (ci := 1) dX9_quarter_29 lX9_200 qX1_litBits (by rfl) (by rfl) (by rfl) (by rfl) (Nat.le_of_ble_eq_true rfl) (s_litBits (.inl rfl) hno hno8 0) (fun r29 μ29 e29 => ?_)
    obtain ⟨rfl, q29⟩ := e29
    obtain rfl := q29.symm
    refine bc_callV (z := mX1_smell) (ci := 1) dX9_quarter_32 lX9_207 qX1_smell (by rfl) (by rfl) (by rfl) (by rfl) (Nat.le_of_ble_eq_true rfl) (s_smell (.inl rfl) hB.1 _) (fun r32 μ32 e32 => ?_)
    obtain ⟨rfl, hI⟩ := e32
    refine bc_iload_n dX9_quarter_35 rfl ?_
    refine bc_tableIn (off := 67) (tgt := 103) dX9_quarter_36 (by decide) (by decide) (by decide) (by decide) ?_
    refine bc_aload_n dX9_quarter_103 rfl ?_
    refine bc_getr dX9_quarter_104 fX9_52 (rfl) rfl ?_
    refine bc_iload_n dX9_quarter_107 rfl ?_
    refine bc_callV (z := mX1_onionsOf) (ci := 1) dX9_quarter_108 lX9_219 qX1_onionsOf (by rfl) (by rfl) (by rfl) (by rfl) (Nat.le_of_ble_eq_true rfl) (s_onionsOf LC_c31 (nI q)) (fun r108 μ108 e108 => ?_)
    obtain ⟨rfl, q108⟩ := e108
    obtain rfl := q108.symm
    exact bc_ireturn dX9_quarter_111 rfl rfl (⟨by rw [en_N hq6 (by decide), show μ32 (31 + 3) q = μ 34 q from hI.1 34 q (by unfold scr; omega)]; rfl, hI.1⟩)
  · skip
    refine bc_aload_n dX9_quarter_0 rfl ?_
    refine bc_iload_n dX9_quarter_1 rfl ?_
    refine bc_aload_n dX9_quarter_2 rfl ?_
    refine bc_getr dX9_quarter_3 fX9_19 (rfl) rfl ?_
    refine bc_geti dX9_quarter_6 fX9_176 (rfl) rfl ?_
    rw [hnq]
    refine bc_callV (z := mX9_needThere) (ci := 9) dX9_quarter_9 lX9_204 qX9_needThere (by rfl) (by rfl) (by rfl) (by rfl) (Nat.le_of_ble_eq_true rfl) (s_needT (bn_nn (by omega)) (nlt hq (by omega))) (fun r9 μ9 e9 => ?_)
    obtain ⟨rfl, q9⟩ := e9
    obtain rfl := q9.symm
    refine bc_aload_n dX9_quarter_12 rfl ?_
    refine bc_iload_n dX9_quarter_13 rfl ?_
    refine bc_iconst (v := 0) dX9_quarter_14 (by decide) ?_
    refine bc_bipush (v := 6) dX9_quarter_15 (by decide) ?_
    refine bc_callV (z := mX9_needWithin) (ci := 9) dX9_quarter_17 lX9_172 qX9_needWithin (by rfl) (by rfl) (by rfl) (by rfl) (Nat.le_of_ble_eq_true rfl) (s_needW (by decide) (by decide)) (fun r17 μ17 e17 => ?_)
    obtain ⟨rfl, q17⟩ := e17
    obtain rfl := q17.symm
    refine bc_aload_n dX9_quarter_20 rfl ?_
    refine bc_getr dX9_quarter_21 fX9_52 (rfl) rfl ?_
    refine bc_aload_n dX9_quarter_24 rfl ?_
    refine bc_getr dX9_quarter_25 fX9_52 (rfl) rfl ?_
    refine bc_iconst (v := 0) dX9_quarter_28 (by decide) ?_
    refine bc_callV (z := mX1_litBits) (ci := 1) dX9_quarter_29 lX9_200 qX1_litBits (by rfl) (by rfl) (by rfl) (by rfl) (Nat.le_of_ble_eq_true rfl) (s_litBits (.inl rfl) hno hno8 0) (fun r29 μ29 e29 => ?_)
    obtain ⟨rfl, q29⟩ := e29
    obtain rfl := q29.symm
    refine bc_callV (z := mX1_smell) (ci := 1) dX9_quarter_32 lX9_207 qX1_smell (by rfl) (by rfl) (by rfl) (by rfl) (Nat.le_of_ble_eq_true rfl) (s_smell (.inl rfl) hB.1 _) (fun r32 μ32 e32 => ?_)
    obtain ⟨rfl, hI⟩ := e32
    refine bc_iload_n dX9_quarter_35 rfl ?_
    refine bc_tableIn (off := 76) (tgt := 112) dX9_quarter_36 (by decide) (by decide) (by decide) (by decide) ?_
    refine bc_aload_n dX9_quarter_112 rfl ?_
    refine bc_getr dX9_quarter_113 fX9_52 (rfl) rfl ?_
    refine bc_iload_n dX9_quarter_116 rfl ?_
    refine bc_callV (z := mX1_coldOf) (ci := 1) dX9_quarter_117 lX9_222 qX1_coldOf (by rfl) (by rfl) (by rfl) (by rfl) (Nat.le_of_ble_eq_true rfl) (s_coldOf LC_c31 (nI q)) (fun r117 μ117 e117 => ?_)
    obtain ⟨rfl, q117⟩ := e117
    obtain rfl := q117.symm
    exact bc_ireturn dX9_quarter_120 rfl rfl (⟨by rw [show μ32 31 7 = μ 31 7 from hI.1 31 7 (by unfold scr; omega)]; rfl, hI.1⟩)
  · skip
    refine bc_aload_n dX9_quarter_0 rfl ?_
    refine bc_iload_n dX9_quarter_1 rfl ?_
    refine bc_aload_n dX9_quarter_2 rfl ?_
    refine bc_getr dX9_quarter_3 fX9_19 (rfl) rfl ?_
    refine bc_geti dX9_quarter_6 fX9_176 (rfl) rfl ?_
    rw [hnq]
    refine bc_callV (z := mX9_needThere) (ci := 9) dX9_quarter_9 lX9_204 qX9_needThere (by rfl) (by rfl) (by rfl) (by rfl) (Nat.le_of_ble_eq_true rfl) (s_needT (bn_nn (by omega)) (nlt hq (by omega))) (fun r9 μ9 e9 => ?_)
    obtain ⟨rfl, q9⟩ := e9
    obtain rfl := q9.symm
    refine bc_aload_n dX9_quarter_12 rfl ?_
    refine bc_iload_n dX9_quarter_13 rfl ?_
    refine bc_iconst (v := 0) dX9_quarter_14 (by decide) ?_
    refine bc_bipush (v := 6) dX9_quarter_15 (by decide) ?_
    refine bc_callV (z := mX9_needWithin) (ci := 9) dX9_quarter_17 lX9_172 qX9_needWithin (by rfl) (by rfl) (by rfl) (by rfl) (Nat.le_of_ble_eq_true rfl) (s_needW (by decide) (by decide)) (fun r17 μ17 e17 => ?_)
    obtain ⟨rfl, q17⟩ := e17
    obtain rfl := q17.symm
    refine bc_aload_n dX9_quarter_20 rfl ?_
    refine bc_getr dX9_quarter_21 fX9_52 (rfl) rfl ?_
    refine bc_aload_n dX9_quarter_24 rfl ?_
    refine bc_getr dX9_quarter_25 fX9_52 (rfl) rfl ?_
    refine bc_iconst (v := 0) dX9_quarter_28 (by decide) ?_
    refine bc_callV (z := mX1_litBits) (ci := 1) dX9_quarter_29 lX9_200 qX1_litBits (by rfl) (by rfl) (by rfl) (by rfl) (Nat.le_of_ble_eq_true rfl) (s_litBits (.inl rfl) hno hno8 0) (fun r29 μ29 e29 => ?_)
    obtain ⟨rfl, q29⟩ := e29
    obtain rfl := q29.symm
    refine bc_callV (z := mX1_smell) (ci := 1) dX9_quarter_32 lX9_207 qX1_smell (by rfl) (by rfl) (by rfl) (by rfl) (Nat.le_of_ble_eq_true rfl) (s_smell (.inl rfl) hB.1 _) (fun r32 μ32 e32 => ?_)
    obtain ⟨rfl, hI⟩ := e32
    refine bc_iload_n dX9_quarter_35 rfl ?_
    refine bc_tableIn (off := 85) (tgt := 121) dX9_quarter_36 (by decide) (by decide) (by decide) (by decide) ?_
    refine bc_aload_n dX9_quarter_121 rfl ?_
    refine bc_getr dX9_quarter_122 fX9_52 (rfl) rfl ?_
    refine bc_iload_n dX9_quarter_125 rfl ?_
    refine bc_aload_n dX9_quarter_126 rfl ?_
    refine bc_getr dX9_quarter_127 fX9_52 (rfl) rfl ?_
    refine bc_geti dX9_quarter_130 fX9_185 (rfl) rfl ?_
    have e1 : μ32 19 1 = nI n := (hI.1 19 1 (by unfold scr; omega)).trans hB.2.2.1
    have e2 : μ32 20 = μ 20 := funext fun j => hI.1 20 j (by unfold scr; omega)
    refine bc_callV (z := mX1_leanOf) (ci := 1) dX9_quarter_133 lX9_225 qX1_leanOf (by rfl) (by rfl) (by rfl) (by rfl) (Nat.le_of_ble_eq_true rfl) (s_leanOf (.inl rfl) hq6 e1 (by rw [e2]; exact hB.2.2.2) _) (fun r133 μ133 e133 => ?_)
    obtain ⟨rfl, f9, g9, rfl⟩ := e133
    exact bc_ireturn dX9_quarter_136 rfl rfl (⟨by rw [rkI.val (.inl rfl) hI hq6, show μ32 31 4 = μ 31 4 from hI.1 31 4 (by unfold scr; omega)]; rfl, (hI.1.us _ (fun k => by unfold scr; omega)).us _ (fun k => by unfold scr; omega)⟩)
  · skip
    refine bc_aload_n dX9_quarter_0 rfl ?_
    refine bc_iload_n dX9_quarter_1 rfl ?_
    refine bc_aload_n dX9_quarter_2 rfl ?_
    refine bc_getr dX9_quarter_3 fX9_19 (rfl) rfl ?_
    refine bc_geti dX9_quarter_6 fX9_176 (rfl) rfl ?_
    rw [hnq]
    refine bc_callV (z := mX9_needThere) (ci := 9) dX9_quarter_9 lX9_204 qX9_needThere (by rfl) (by rfl) (by rfl) (by rfl) (Nat.le_of_ble_eq_true rfl) (s_needT (bn_nn (by omega)) (nlt hq (by omega))) (fun r9 μ9 e9 => ?_)
    obtain ⟨rfl, q9⟩ := e9
    obtain rfl := q9.symm
    refine bc_aload_n dX9_quarter_12 rfl ?_
    refine bc_iload_n dX9_quarter_13 rfl ?_
    refine bc_iconst (v := 0) dX9_quarter_14 (by decide) ?_
    refine bc_bipush (v := 6) dX9_quarter_15 (by decide) ?_
    refine bc_callV (z := mX9_needWithin) (ci := 9) dX9_quarter_17 lX9_172 qX9_needWithin (by rfl) (by rfl) (by rfl) (by rfl) (Nat.le_of_ble_eq_true rfl) (s_needW (by decide) (by decide)) (fun r17 μ17 e17 => ?_)
    obtain ⟨rfl, q17⟩ := e17
    obtain rfl := q17.symm
    refine bc_aload_n dX9_quarter_20 rfl ?_
    refine bc_getr dX9_quarter_21 fX9_52 (rfl) rfl ?_
    refine bc_aload_n dX9_quarter_24 rfl ?_
    refine bc_getr dX9_quarter_25 fX9_52 (rfl) rfl ?_
    refine bc_iconst (v := 0) dX9_quarter_28 (by decide) ?_
    refine bc_callV (z := mX1_litBits) (ci := 1) dX9_quarter_29 lX9_200 qX1_litBits (by rfl) (by rfl) (by rfl) (by rfl) (Nat.le_of_ble_eq_true rfl) (s_litBits (.inl rfl) hno hno8 0) (fun r29 μ29 e29 => ?_)
    obtain ⟨rfl, q29⟩ := e29
    obtain rfl := q29.symm
    refine bc_callV (z := mX1_smell) (ci := 1) dX9_quarter_32 lX9_207 qX1_smell (by rfl) (by rfl) (by rfl) (by rfl) (Nat.le_of_ble_eq_true rfl) (s_smell (.inl rfl) hB.1 _) (fun r32 μ32 e32 => ?_)
    obtain ⟨rfl, hI⟩ := e32
    refine bc_iload_n dX9_quarter_35 rfl ?_
    refine bc_tableOut (tgt := 137) dX9_quarter_36 (by decide) (by decide) ?_
    refine bc_aload_n dX9_quarter_137 rfl ?_
    refine bc_getr dX9_quarter_138 fX9_19 (rfl) rfl ?_
    refine bc_iload_n dX9_quarter_141 rfl ?_
    refine bc_callV (z := mX0_ovensIn) (ci := 0) dX9_quarter_142 lX9_229 qX0_ovensIn (by rfl) (by rfl) (by rfl) (by rfl) (Nat.le_of_ble_eq_true rfl) (s_ovensIn LC_b3 (nI q) ((hI.1 3 1 (by unfold scr; omega)).trans hno) hno8) (fun r142 μ142 e142 => ?_)
    obtain ⟨rfl, q142⟩ := e142
    obtain rfl := q142.symm
    exact bc_ireturn dX9_quarter_145 rfl rfl (⟨by rw [show μ32 (3 + 3) = μ 6 from funext fun j => hI.1 6 j (by unfold scr; omega)]; rfl, hI.1⟩)
/-! oven, mooring, reed -/
def oveM (μ : bc_M) (k : Nat) : Nat → Int32
  | 0 => μ 6 k | 1 => μ 7 k | 2 => μ 32 k
  | _ => μ 33 k
theorem s_oven {k w : Nat} (hno : μ 3 1 = nI no) (hno8 : no ≤ 8) (hk : k < no) (hw : w ≤ 3) : bc_C (d + 3) LC mX9_oven [.ref 0, .int (nI k), .int (nI w)] μ (fun r ν => r = some (.int (oveM μ k w)) ∧ ν = μ) := by
  refine bc_enter (by decide) (Nat.le_of_ble_eq_true rfl) rfl ?_
  have hc : w = 0 ∨ w = 1 ∨ w = 2 ∨ w = 3 := by omega
  rcases hc with rfl | rfl | rfl | rfl
  · skip
    refine bc_aload_n dX9_oven_0 rfl ?_
    refine bc_iload_n dX9_oven_1 rfl ?_
    refine bc_aload_n dX9_oven_2 rfl ?_
    refine bc_getr dX9_oven_3 fX9_19 (rfl) rfl ?_
    refine bc_geti dX9_oven_6 fX9_126 (rfl) rfl ?_
    rw [hno]
    refine bc_callV (z := mX9_needThere) (ci := 9) dX9_oven_9 lX9_204 qX9_needThere (by rfl) (by rfl) (by rfl) (by rfl) (Nat.le_of_ble_eq_true rfl) (s_needT (bn_nn (by omega)) (nlt hk (by omega))) (fun r9 μ9 e9 => ?_)
    obtain ⟨rfl, q9⟩ := e9
    obtain rfl := q9.symm
    refine bc_aload_n dX9_oven_12 rfl ?_
    refine bc_iload_n dX9_oven_13 rfl ?_
    refine bc_iconst (v := 0) dX9_oven_14 (by decide) ?_
    refine bc_iconst (v := 3) dX9_oven_15 (by decide) ?_
    refine bc_callV (z := mX9_needWithin) (ci := 9) dX9_oven_16 lX9_172 qX9_needWithin (by rfl) (by rfl) (by rfl) (by rfl) (Nat.le_of_ble_eq_true rfl) (s_needW (by decide) (by decide)) (fun r16 μ16 e16 => ?_)
    obtain ⟨rfl, q16⟩ := e16
    obtain rfl := q16.symm
    refine bc_iload_n dX9_oven_19 rfl ?_
    refine bc_tableIn (off := 28) (tgt := 48) dX9_oven_20 (by decide) (by decide) (by decide) (by decide) ?_
    refine bc_aload_n dX9_oven_48 rfl ?_
    refine bc_getr dX9_oven_49 fX9_19 (rfl) rfl ?_
    refine bc_iload_n dX9_oven_52 rfl ?_
    refine bc_callV (z := mX0_quarterOf) (ci := 0) dX9_oven_53 lX9_232 qX0_quarterOf (by rfl) (by rfl) (by rfl) (by rfl) (Nat.le_of_ble_eq_true rfl) (s_entB LC_b3 (by omega)) (fun r53 μ53 e53 => ?_)
    obtain ⟨rfl, q53⟩ := e53
    obtain rfl := q53.symm
    exact bc_ireturn dX9_oven_56 rfl rfl (⟨by rfl, rfl⟩)
  · skip
    refine bc_aload_n dX9_oven_0 rfl ?_
    refine bc_iload_n dX9_oven_1 rfl ?_
    refine bc_aload_n dX9_oven_2 rfl ?_
    refine bc_getr dX9_oven_3 fX9_19 (rfl) rfl ?_
    refine bc_geti dX9_oven_6 fX9_126 (rfl) rfl ?_
    rw [hno]
    refine bc_callV (z := mX9_needThere) (ci := 9) dX9_oven_9 lX9_204 qX9_needThere (by rfl) (by rfl) (by rfl) (by rfl) (Nat.le_of_ble_eq_true rfl) (s_needT (bn_nn (by omega)) (nlt hk (by omega))) (fun r9 μ9 e9 => ?_)
    obtain ⟨rfl, q9⟩ := e9
    obtain rfl := q9.symm
    refine bc_aload_n dX9_oven_12 rfl ?_
    refine bc_iload_n dX9_oven_13 rfl ?_
    refine bc_iconst (v := 0) dX9_oven_14 (by decide) ?_
    refine bc_iconst (v := 3) dX9_oven_15 (by decide) ?_
    refine bc_callV (z := mX9_needWithin) (ci := 9) dX9_oven_16 lX9_172 qX9_needWithin (by rfl) (by rfl) (by rfl) (by rfl) (Nat.le_of_ble_eq_true rfl) (s_needW (by decide) (by decide)) (fun r16 μ16 e16 => ?_)
    obtain ⟨rfl, q16⟩ := e16
    obtain rfl := q16.symm
    refine bc_iload_n dX9_oven_19 rfl ?_
    refine bc_tableIn (off := 37) (tgt := 57) dX9_oven_20 (by decide) (by decide) (by decide) (by decide) ?_
    refine bc_aload_n dX9_oven_57 rfl ?_
    refine bc_getr dX9_oven_58 fX9_19 (rfl) rfl ?_
    refine bc_iload_n dX9_oven_61 rfl ?_
    refine bc_callV (z := mX0_strongOf) (ci := 0) dX9_oven_62 lX9_235 qX0_strongOf (by rfl) (by rfl) (by rfl) (by rfl) (Nat.le_of_ble_eq_true rfl) (s_strB LC_b3 (by omega)) (fun r62 μ62 e62 => ?_)
    obtain ⟨rfl, q62⟩ := e62
    obtain rfl := q62.symm
    exact bc_ireturn dX9_oven_65 rfl rfl (⟨by rfl, rfl⟩)
  · skip
    refine bc_aload_n dX9_oven_0 rfl ?_
    refine bc_iload_n dX9_oven_1 rfl ?_
    refine bc_aload_n dX9_oven_2 rfl ?_
    refine bc_getr dX9_oven_3 fX9_19 (rfl) rfl ?_
    refine bc_geti dX9_oven_6 fX9_126 (rfl) rfl ?_
    rw [hno]
    refine bc_callV (z := mX9_needThere) (ci := 9) dX9_oven_9 lX9_204 qX9_needThere (by rfl) (by rfl) (by rfl) (by rfl) (Nat.le_of_ble_eq_true rfl) (s_needT (bn_nn (by omega)) (nlt hk (by omega))) (fun r9 μ9 e9 => ?_)
    obtain ⟨rfl, q9⟩ := e9
    obtain rfl := q9.symm
    refine bc_aload_n dX9_oven_12 rfl ?_
    refine bc_iload_n dX9_oven_13 rfl ?_
    refine bc_iconst (v := 0) dX9_oven_14 (by decide) ?_
    refine bc_iconst (v := 3) dX9_oven_15 (by decide) ?_
    refine bc_callV (z := mX9_needWithin) (ci := 9) dX9_oven_16 lX9_172 qX9_needWithin (by rfl) (by rfl) (by rfl) (by rfl) (Nat.le_of_ble_eq_true rfl) (s_needW (by decide) (by decide)) (fun r16 μ16 e16 => ?_)
    obtain ⟨rfl, q16⟩ := e16
    obtain rfl := q16.symm
    refine bc_iload_n dX9_oven_19 rfl ?_
    refine bc_tableIn (off := 46) (tgt := 66) dX9_oven_20 (by decide) (by decide) (by decide) (by decide) ?_
    refine bc_aload_n dX9_oven_66 rfl ?_
    refine bc_getr dX9_oven_67 fX9_52 (rfl) rfl ?_
    refine bc_iload_n dX9_oven_70 rfl ?_
    refine bc_callV (z := mX1_hoursLeftOf) (ci := 1) dX9_oven_71 lX9_238 qX1_hoursLeftOf (by rfl) (by rfl) (by rfl) (by rfl) (Nat.le_of_ble_eq_true rfl) (s_hoursLeftOf LC_c31 (nI k)) (fun r71 μ71 e71 => ?_)
    obtain ⟨rfl, q71⟩ := e71
    obtain rfl := q71.symm
    exact bc_ireturn dX9_oven_74 rfl rfl (⟨by rw [en_N (by omega) (by decide)]; rfl, rfl⟩)
  · skip
    refine bc_aload_n dX9_oven_0 rfl ?_
    refine bc_iload_n dX9_oven_1 rfl ?_
    refine bc_aload_n dX9_oven_2 rfl ?_
    refine bc_getr dX9_oven_3 fX9_19 (rfl) rfl ?_
    refine bc_geti dX9_oven_6 fX9_126 (rfl) rfl ?_
    rw [hno]
    refine bc_callV (z := mX9_needThere) (ci := 9) dX9_oven_9 lX9_204 qX9_needThere (by rfl) (by rfl) (by rfl) (by rfl) (Nat.le_of_ble_eq_true rfl) (s_needT (bn_nn (by omega)) (nlt hk (by omega))) (fun r9 μ9 e9 => ?_)
    obtain ⟨rfl, q9⟩ := e9
    obtain rfl := q9.symm
    refine bc_aload_n dX9_oven_12 rfl ?_
    refine bc_iload_n dX9_oven_13 rfl ?_
    refine bc_iconst (v := 0) dX9_oven_14 (by decide) ?_
    refine bc_iconst (v := 3) dX9_oven_15 (by decide) ?_
    refine bc_callV (z := mX9_needWithin) (ci := 9) dX9_oven_16 lX9_172 qX9_needWithin (by rfl) (by rfl) (by rfl) (by rfl) (Nat.le_of_ble_eq_true rfl) (s_needW (by decide) (by decide)) (fun r16 μ16 e16 => ?_)
    obtain ⟨rfl, q16⟩ := e16
    obtain rfl := q16.symm
    refine bc_iload_n dX9_oven_19 rfl ?_
    refine bc_tableOut (tgt := 75) dX9_oven_20 (by decide) (by decide) ?_
    refine bc_aload_n dX9_oven_75 rfl ?_
    refine bc_getr dX9_oven_76 fX9_52 (rfl) rfl ?_
    refine bc_iload_n dX9_oven_79 rfl ?_
    refine bc_callV (z := mX1_timesLitOf) (ci := 1) dX9_oven_80 lX9_241 qX1_timesLitOf (by rfl) (by rfl) (by rfl) (by rfl) (Nat.le_of_ble_eq_true rfl) (s_timesLitOf LC_c31 (nI k)) (fun r80 μ80 e80 => ?_)
    obtain ⟨rfl, q80⟩ := e80
    obtain rfl := q80.symm
    exact bc_ireturn dX9_oven_83 rfl rfl (⟨by rw [en_N (by omega) (by decide)]; rfl, rfl⟩)
def abI (x : Int32) : Int32 := if 0 ≤ x then x else 0 - x
def farM (μ : bc_M) (k : Nat) : Int32 := abI (μ 8 k - μ 31 2) + abI (μ 9 k - μ 31 3)
theorem s_mxB {b k : Nat} (hb : bc_isB LC b) (hk : k < 6) : bc_C (d + 1) LC mX0_mooringX [.ref b, .int (nI k)] μ (fun r μ' => r = some (.int (μ (b + 5) k)) ∧ μ' = μ) := by
  have h := s_mooringX (d := d) (μ := μ) hb (nI k)
  rw [en_N hk (by decide)] at h
  exact h
theorem s_myB {b k : Nat} (hb : bc_isB LC b) (hk : k < 6) : bc_C (d + 1) LC mX0_mooringY [.ref b, .int (nI k)] μ (fun r μ' => r = some (.int (μ (b + 6) k)) ∧ μ' = μ) := by
  have h := s_mooringY (d := d) (μ := μ) hb (nI k)
  rw [en_N hk (by decide)] at h
  exact h
theorem s_farTo {k : Nat} (hk : k < 6) : bc_C (d + 2) LC mX9_farTo [.ref 0, .int (nI k)] μ (fun r ν => r = some (.int (farM μ k)) ∧ ν = μ) := by
  refine bc_enter (by decide) (Nat.le_of_ble_eq_true rfl) rfl ?_
  refine bc_aload_n dX9_farTo_0 rfl ?_
  refine bc_getr dX9_farTo_1 fX9_19 (rfl) rfl ?_
  refine bc_iload_n dX9_farTo_4 rfl ?_
  refine bc_callV (z := mX0_mooringX) (ci := 0) dX9_farTo_5 lX9_244 qX0_mooringX (by rfl) (by rfl) (by rfl) (by rfl) (Nat.le_of_ble_eq_true rfl) (s_mxB LC_b3 hk) (fun r5 μ5 e5 => ?_)
  obtain ⟨rfl, q5⟩ := e5
  obtain rfl := q5.symm
  refine bc_aload_n dX9_farTo_8 rfl ?_
  refine bc_getr dX9_farTo_9 fX9_52 (rfl) rfl ?_
  refine bc_geti dX9_farTo_12 fX9_188 (rfl) rfl ?_
  refine bc_isub dX9_farTo_15 ?_
  refine bc_abs dX9_farTo_16 wX9_342 (Nat.le_of_ble_eq_true rfl) ?_
  refine bc_aload_n dX9_farTo_19 rfl ?_
  refine bc_getr dX9_farTo_20 fX9_19 (rfl) rfl ?_
  refine bc_iload_n dX9_farTo_23 rfl ?_
  refine bc_callV (z := mX0_mooringY) (ci := 0) dX9_farTo_24 lX9_247 qX0_mooringY (by rfl) (by rfl) (by rfl) (by rfl) (Nat.le_of_ble_eq_true rfl) (s_myB LC_b3 hk) (fun r24 μ24 e24 => ?_)
  obtain ⟨rfl, q24⟩ := e24
  obtain rfl := q24.symm
  refine bc_aload_n dX9_farTo_27 rfl ?_
  refine bc_getr dX9_farTo_28 fX9_52 (rfl) rfl ?_
  refine bc_geti dX9_farTo_31 fX9_191 (rfl) rfl ?_
  refine bc_isub dX9_farTo_34 ?_
  refine bc_abs dX9_farTo_35 wX9_342 (Nat.le_of_ble_eq_true rfl) ?_
  refine bc_iadd dX9_farTo_38 ?_
  exact bc_ireturn dX9_farTo_39 rfl rfl (⟨rfl, rfl⟩)
def mooM (μ : bc_M) (k : Nat) : Nat → Int32
  | 0 => μ 8 k | 1 => μ 9 k
  | _ => farM μ k
theorem s_mooring {k w : Nat} (hnm : μ 3 3 = nI nm) (hnm6 : nm ≤ 6) (hk : k < nm) (hw : w ≤ 2) : bc_C (d + 3) LC mX9_mooring [.ref 0, .int (nI k), .int (nI w)] μ (fun r ν => r = some (.int (mooM μ k w)) ∧ ν = μ) := by
  refine bc_enter (by decide) (Nat.le_of_ble_eq_true rfl) rfl ?_
  have hc : w = 0 ∨ w = 1 ∨ w = 2 := by omega
  rcases hc with rfl | rfl | rfl
  · skip
    refine bc_aload_n dX9_mooring_0 rfl ?_
    refine bc_iload_n dX9_mooring_1 rfl ?_
    refine bc_aload_n dX9_mooring_2 rfl ?_
    refine bc_getr dX9_mooring_3 fX9_19 (rfl) rfl ?_
    refine bc_geti dX9_mooring_6 fX9_182 (rfl) rfl ?_
    rw [hnm]
    refine bc_callV (z := mX9_needThere) (ci := 9) dX9_mooring_9 lX9_204 qX9_needThere (by rfl) (by rfl) (by rfl) (by rfl) (Nat.le_of_ble_eq_true rfl) (s_needT (bn_nn (by omega)) (nlt hk (by omega))) (fun r9 μ9 e9 => ?_)
    obtain ⟨rfl, q9⟩ := e9
    obtain rfl := q9.symm
    refine bc_aload_n dX9_mooring_12 rfl ?_
    refine bc_iload_n dX9_mooring_13 rfl ?_
    refine bc_iconst (v := 0) dX9_mooring_14 (by decide) ?_
    refine bc_iconst (v := 2) dX9_mooring_15 (by decide) ?_
    refine bc_callV (z := mX9_needWithin) (ci := 9) dX9_mooring_16 lX9_172 qX9_needWithin (by rfl) (by rfl) (by rfl) (by rfl) (Nat.le_of_ble_eq_true rfl) (s_needW (by decide) (by decide)) (fun r16 μ16 e16 => ?_)
    obtain ⟨rfl, q16⟩ := e16
    obtain rfl := q16.symm
    refine bc_iload_n dX9_mooring_19 rfl ?_
    refine bc_lookup (off := 28) (tgt := 48) dX9_mooring_20 (by decide) (by decide) (by decide) ?_
    refine bc_aload_n dX9_mooring_48 rfl ?_
    refine bc_getr dX9_mooring_49 fX9_19 (rfl) rfl ?_
    refine bc_iload_n dX9_mooring_52 rfl ?_
    refine bc_callV (z := mX0_mooringX) (ci := 0) dX9_mooring_53 lX9_244 qX0_mooringX (by rfl) (by rfl) (by rfl) (by rfl) (Nat.le_of_ble_eq_true rfl) (s_mxB LC_b3 (by omega)) (fun r53 μ53 e53 => ?_)
    obtain ⟨rfl, q53⟩ := e53
    obtain rfl := q53.symm
    exact bc_ireturn dX9_mooring_56 rfl rfl (⟨rfl, rfl⟩)
  · skip
    refine bc_aload_n dX9_mooring_0 rfl ?_
    refine bc_iload_n dX9_mooring_1 rfl ?_
    refine bc_aload_n dX9_mooring_2 rfl ?_
    refine bc_getr dX9_mooring_3 fX9_19 (rfl) rfl ?_
    refine bc_geti dX9_mooring_6 fX9_182 (rfl) rfl ?_
    rw [hnm]
    refine bc_callV (z := mX9_needThere) (ci := 9) dX9_mooring_9 lX9_204 qX9_needThere (by rfl) (by rfl) (by rfl) (by rfl) (Nat.le_of_ble_eq_true rfl) (s_needT (bn_nn (by omega)) (nlt hk (by omega))) (fun r9 μ9 e9 => ?_)
    obtain ⟨rfl, q9⟩ := e9
    obtain rfl := q9.symm
    refine bc_aload_n dX9_mooring_12 rfl ?_
    refine bc_iload_n dX9_mooring_13 rfl ?_
    refine bc_iconst (v := 0) dX9_mooring_14 (by decide) ?_
    refine bc_iconst (v := 2) dX9_mooring_15 (by decide) ?_
    refine bc_callV (z := mX9_needWithin) (ci := 9) dX9_mooring_16 lX9_172 qX9_needWithin (by rfl) (by rfl) (by rfl) (by rfl) (Nat.le_of_ble_eq_true rfl) (s_needW (by decide) (by decide)) (fun r16 μ16 e16 => ?_)
    obtain ⟨rfl, q16⟩ := e16
    obtain rfl := q16.symm
    refine bc_iload_n dX9_mooring_19 rfl ?_
    refine bc_lookup (off := 37) (tgt := 57) dX9_mooring_20 (by decide) (by decide) (by decide) ?_
    refine bc_aload_n dX9_mooring_57 rfl ?_
    refine bc_getr dX9_mooring_58 fX9_19 (rfl) rfl ?_
    refine bc_iload_n dX9_mooring_61 rfl ?_
    refine bc_callV (z := mX0_mooringY) (ci := 0) dX9_mooring_62 lX9_247 qX0_mooringY (by rfl) (by rfl) (by rfl) (by rfl) (Nat.le_of_ble_eq_true rfl) (s_myB LC_b3 (by omega)) (fun r62 μ62 e62 => ?_)
    obtain ⟨rfl, q62⟩ := e62
    obtain rfl := q62.symm
    exact bc_ireturn dX9_mooring_65 rfl rfl (⟨rfl, rfl⟩)
  · skip
    refine bc_aload_n dX9_mooring_0 rfl ?_
    refine bc_iload_n dX9_mooring_1 rfl ?_
    refine bc_aload_n dX9_mooring_2 rfl ?_
    refine bc_getr dX9_mooring_3 fX9_19 (rfl) rfl ?_
    refine bc_geti dX9_mooring_6 fX9_182 (rfl) rfl ?_
    rw [hnm]
    refine bc_callV (z := mX9_needThere) (ci := 9) dX9_mooring_9 lX9_204 qX9_needThere (by rfl) (by rfl) (by rfl) (by rfl) (Nat.le_of_ble_eq_true rfl) (s_needT (bn_nn (by omega)) (nlt hk (by omega))) (fun r9 μ9 e9 => ?_)
    obtain ⟨rfl, q9⟩ := e9
    obtain rfl := q9.symm
    refine bc_aload_n dX9_mooring_12 rfl ?_
    refine bc_iload_n dX9_mooring_13 rfl ?_
    refine bc_iconst (v := 0) dX9_mooring_14 (by decide) ?_
    refine bc_iconst (v := 2) dX9_mooring_15 (by decide) ?_
    refine bc_callV (z := mX9_needWithin) (ci := 9) dX9_mooring_16 lX9_172 qX9_needWithin (by rfl) (by rfl) (by rfl) (by rfl) (Nat.le_of_ble_eq_true rfl) (s_needW (by decide) (by decide)) (fun r16 μ16 e16 => ?_)
    obtain ⟨rfl, q16⟩ := e16
    obtain rfl := q16.symm
    refine bc_iload_n dX9_mooring_19 rfl ?_
    refine bc_lookup (off := 46) (tgt := 66) dX9_mooring_20 (by decide) (by decide) (by decide) ?_
    refine bc_aload_n dX9_mooring_66 rfl ?_
    refine bc_iload_n dX9_mooring_67 rfl ?_
    refine bc_callV (z := mX9_farTo) (ci := 9) dX9_mooring_68 lX9_250 qX9_farTo (by rfl) (by rfl) (by rfl) (by rfl) (Nat.le_of_ble_eq_true rfl) (s_farTo (by omega)) (fun r68 μ68 e68 => ?_)
    obtain ⟨rfl, q68⟩ := e68
    obtain rfl := q68.symm
    exact bc_ireturn dX9_mooring_71 rfl rfl (⟨rfl, rfl⟩)
theorem s_reed {x y : Int32} (hx0 : ¬ x < 0) (hx : x ≤ 30) (hy0 : ¬ y < 0) (hy : y ≤ 30) : bc_C (d + 2) LC mX9_reed [.ref 0, .int x, .int y] μ (fun r ν => r = some (.int (b01 (en μ 10 31 y >>> (x &&& 31) &&& 1 = 1))) ∧ ν = μ) := by
  refine bc_enter (by decide) (Nat.le_of_ble_eq_true rfl) rfl ?_
  by_cases hr : en μ (3 + 7) 31 y >>> (x &&& 31) &&& 1 = 1
  · skip
    refine bc_aload_n dX9_reed_0 rfl ?_
    refine bc_iload_n dX9_reed_1 rfl ?_
    refine bc_iconst (v := 0) dX9_reed_2 (by decide) ?_
    refine bc_bipush (v := 30) dX9_reed_3 (by decide) ?_
    refine bc_callV (z := mX9_needWithin) (ci := 9) dX9_reed_5 lX9_172 qX9_needWithin (by rfl) (by rfl) (by rfl) (by rfl) (Nat.le_of_ble_eq_true rfl) (s_needW hx0 hx) (fun r5 μ5 e5 => ?_)
    obtain ⟨rfl, q5⟩ := e5
    obtain rfl := q5.symm
    refine bc_aload_n dX9_reed_8 rfl ?_
    refine bc_iload_n dX9_reed_9 rfl ?_
    refine bc_iconst (v := 0) dX9_reed_10 (by decide) ?_
    refine bc_bipush (v := 30) dX9_reed_11 (by decide) ?_
    refine bc_callV (z := mX9_needWithin) (ci := 9) dX9_reed_13 lX9_172 qX9_needWithin (by rfl) (by rfl) (by rfl) (by rfl) (Nat.le_of_ble_eq_true rfl) (s_needW hy0 hy) (fun r13 μ13 e13 => ?_)
    obtain ⟨rfl, q13⟩ := e13
    obtain rfl := q13.symm
    refine bc_aload_n dX9_reed_16 rfl ?_
    refine bc_getr dX9_reed_17 fX9_19 (rfl) rfl ?_
    refine bc_iload_n dX9_reed_20 rfl ?_
    refine bc_iload_n dX9_reed_21 rfl ?_
    refine bc_callV (z := mX0_isReed) (ci := 0) dX9_reed_22 lX9_253 qX0_isReed (by rfl) (by rfl) (by rfl) (by rfl) (Nat.le_of_ble_eq_true rfl) (s_isReed LC_b3 x y) (fun r22 μ22 e22 => ?_)
    obtain ⟨rfl, q22⟩ := e22
    obtain rfl := q22.symm
    rw [b01, if_pos hr]
    refine bc_if_eq (tgt := 32) dX9_reed_25 (by decide) (fun h25 => absurd h25 (by decide)) (fun h25 => ?_)
    refine bc_iconst (v := 1) dX9_reed_28 (by decide) ?_
    refine bc_goto (tgt := 33) dX9_reed_29 (by decide) ?_
    exact bc_ireturn dX9_reed_33 rfl rfl (⟨rfl, rfl⟩)
  · skip
    refine bc_aload_n dX9_reed_0 rfl ?_
    refine bc_iload_n dX9_reed_1 rfl ?_
    refine bc_iconst (v := 0) dX9_reed_2 (by decide) ?_
    refine bc_bipush (v := 30) dX9_reed_3 (by decide) ?_
    refine bc_callV (z := mX9_needWithin) (ci := 9) dX9_reed_5 lX9_172 qX9_needWithin (by rfl) (by rfl) (by rfl) (by rfl) (Nat.le_of_ble_eq_true rfl) (s_needW hx0 hx) (fun r5 μ5 e5 => ?_)
    obtain ⟨rfl, q5⟩ := e5
    obtain rfl := q5.symm
    refine bc_aload_n dX9_reed_8 rfl ?_
    refine bc_iload_n dX9_reed_9 rfl ?_
    refine bc_iconst (v := 0) dX9_reed_10 (by decide) ?_
    refine bc_bipush (v := 30) dX9_reed_11 (by decide) ?_
    refine bc_callV (z := mX9_needWithin) (ci := 9) dX9_reed_13 lX9_172 qX9_needWithin (by rfl) (by rfl) (by rfl) (by rfl) (Nat.le_of_ble_eq_true rfl) (s_needW hy0 hy) (fun r13 μ13 e13 => ?_)
    obtain ⟨rfl, q13⟩ := e13
    obtain rfl := q13.symm
    refine bc_aload_n dX9_reed_16 rfl ?_
    refine bc_getr dX9_reed_17 fX9_19 (rfl) rfl ?_
    refine bc_iload_n dX9_reed_20 rfl ?_
    refine bc_iload_n dX9_reed_21 rfl ?_
    refine bc_callV (z := mX0_isReed) (ci := 0) dX9_reed_22 lX9_253 qX0_isReed (by rfl) (by rfl) (by rfl) (by rfl) (Nat.le_of_ble_eq_true rfl) (s_isReed LC_b3 x y) (fun r22 μ22 e22 => ?_)
    obtain ⟨rfl, q22⟩ := e22
    obtain rfl := q22.symm
    rw [b01, if_neg hr]
    refine bc_if_eq (tgt := 32) dX9_reed_25 (by decide) (fun h25 => ?_) (fun h25 => absurd h25 (fun h => h rfl))
    refine bc_iconst (v := 0) dX9_reed_32 (by decide) ?_
    exact bc_ireturn dX9_reed_33 rfl rfl (⟨rfl, rfl⟩)
/-! drift, would, side -/
theorem s_drift {w : Nat} (hB : okB μ n no nq) (hw : w ≤ 1) : bc_C (d + 5) LC mX9_drift [.ref 0, .int (nI w)] μ (fun r ν => r = some (.int (if w = 0 then eaM μ 31 n no nq (lbM (μ 32) 0 no) (μ 31 4) else noM μ 31 n no nq (lbM (μ 32) 0 no) (μ 31 4))) ∧ sameS 31 μ ν) := by
  refine bc_enter (by decide) (Nat.le_of_ble_eq_true rfl) rfl ?_
  have hc : w = 0 ∨ w = 1 := by omega
  rcases hc with rfl | rfl
  · skip
    refine bc_aload_n dX9_drift_0 rfl ?_
    refine bc_iload_n dX9_drift_1 rfl ?_
    refine bc_iconst (v := 0) dX9_drift_2 (by decide) ?_
    refine bc_iconst (v := 1) dX9_drift_3 (by decide) ?_
    refine bc_callV (z := mX9_needWithin) (ci := 9) dX9_drift_4 lX9_172 qX9_needWithin (by rfl) (by rfl) (by rfl) (by rfl) (Nat.le_of_ble_eq_true rfl) (s_needW (by decide) (by decide)) (fun r4 μ4 e4 => ?_)
    obtain ⟨rfl, q4⟩ := e4
    obtain rfl := q4.symm
    refine bc_aload_n dX9_drift_7 rfl ?_
    refine bc_getr dX9_drift_8 fX9_52 (rfl) rfl ?_
    refine bc_aload_n dX9_drift_11 rfl ?_
    refine bc_getr dX9_drift_12 fX9_52 (rfl) rfl ?_
    refine bc_iconst (v := 0) dX9_drift_15 (by decide) ?_
    refine bc_callV (z := mX1_litBits) (ci := 1) dX9_drift_16 lX9_200 qX1_litBits (by rfl) (by rfl) (by rfl) (by rfl) (Nat.le_of_ble_eq_true rfl) (s_litBits (.inl rfl) hB.1.1 hB.1.2.1 0) (fun r16 μ16 e16 => ?_)
    obtain ⟨rfl, q16⟩ := e16
    obtain rfl := q16.symm
    refine bc_aload_n dX9_drift_19 rfl ?_
    refine bc_getr dX9_drift_20 fX9_52 (rfl) rfl ?_
    refine bc_geti dX9_drift_23 fX9_185 (rfl) rfl ?_
    refine bc_callV (z := mX1_reckon) (ci := 1) dX9_drift_26 lX9_257 qX1_reckon (by rfl) (by rfl) (by rfl) (by rfl) (Nat.le_of_ble_eq_true rfl) (s_reckon (.inl rfl) hB.1 hB.2.1 hB.2.2 _ _) (fun r26 μ26 e26 => ?_)
    obtain ⟨rfl, e1, e2, e3, e4⟩ := e26
    refine bc_iload_n dX9_drift_29 rfl ?_
    refine bc_if_ne (tgt := 43) dX9_drift_30 (by decide) (fun h30 => absurd h30 (by decide)) (fun h30 => ?_)
    refine bc_aload_n dX9_drift_33 rfl ?_
    refine bc_getr dX9_drift_34 fX9_52 (rfl) rfl ?_
    refine bc_geti dX9_drift_37 fX9_260 (rfl) rfl ?_
    refine bc_goto (tgt := 50) dX9_drift_40 (by decide) ?_
    exact bc_ireturn dX9_drift_50 rfl rfl (⟨by rw [e3]; rfl, e1⟩)
  · skip
    refine bc_aload_n dX9_drift_0 rfl ?_
    refine bc_iload_n dX9_drift_1 rfl ?_
    refine bc_iconst (v := 0) dX9_drift_2 (by decide) ?_
    refine bc_iconst (v := 1) dX9_drift_3 (by decide) ?_
    refine bc_callV (z := mX9_needWithin) (ci := 9) dX9_drift_4 lX9_172 qX9_needWithin (by rfl) (by rfl) (by rfl) (by rfl) (Nat.le_of_ble_eq_true rfl) (s_needW (by decide) (by decide)) (fun r4 μ4 e4 => ?_)
    obtain ⟨rfl, q4⟩ := e4
    obtain rfl := q4.symm
    refine bc_aload_n dX9_drift_7 rfl ?_
    refine bc_getr dX9_drift_8 fX9_52 (rfl) rfl ?_
    refine bc_aload_n dX9_drift_11 rfl ?_
    refine bc_getr dX9_drift_12 fX9_52 (rfl) rfl ?_
    refine bc_iconst (v := 0) dX9_drift_15 (by decide) ?_
    refine bc_callV (z := mX1_litBits) (ci := 1) dX9_drift_16 lX9_200 qX1_litBits (by rfl) (by rfl) (by rfl) (by rfl) (Nat.le_of_ble_eq_true rfl) (s_litBits (.inl rfl) hB.1.1 hB.1.2.1 0) (fun r16 μ16 e16 => ?_)
    obtain ⟨rfl, q16⟩ := e16
    obtain rfl := q16.symm
    refine bc_aload_n dX9_drift_19 rfl ?_
    refine bc_getr dX9_drift_20 fX9_52 (rfl) rfl ?_
    refine bc_geti dX9_drift_23 fX9_185 (rfl) rfl ?_
    refine bc_callV (z := mX1_reckon) (ci := 1) dX9_drift_26 lX9_257 qX1_reckon (by rfl) (by rfl) (by rfl) (by rfl) (Nat.le_of_ble_eq_true rfl) (s_reckon (.inl rfl) hB.1 hB.2.1 hB.2.2 _ _) (fun r26 μ26 e26 => ?_)
    obtain ⟨rfl, e1, e2, e3, e4⟩ := e26
    refine bc_iload_n dX9_drift_29 rfl ?_
    refine bc_if_ne (tgt := 43) dX9_drift_30 (by decide) (fun h30 => ?_) (fun h30 => absurd h30 (by decide))
    refine bc_aload_n dX9_drift_43 rfl ?_
    refine bc_getr dX9_drift_44 fX9_52 (rfl) rfl ?_
    refine bc_geti dX9_drift_47 fX9_263 (rfl) rfl ?_
    exact bc_ireturn dX9_drift_50 rfl rfl (⟨by rw [e4]; rfl, e1⟩)
theorem s_side {j : Nat} (hB : okB μ n no nq) (hj : j < 4) : bc_C (d + 5) LC mX9_side [.ref 0, .int (nI j)] μ (fun r ν => r = some (.int (mS μ 31 n no (lbM (μ 32) 0 no) (μ 31 4) j nq)) ∧ sameS 31 μ ν) := by
  refine bc_enter (by decide) (Nat.le_of_ble_eq_true rfl) rfl ?_
  refine bc_aload_n dX9_side_0 rfl ?_
  refine bc_iload_n dX9_side_1 rfl ?_
  refine bc_iconst (v := 0) dX9_side_2 (by decide) ?_
  refine bc_iconst (v := 3) dX9_side_3 (by decide) ?_
  refine bc_callV (z := mX9_needWithin) (ci := 9) dX9_side_4 lX9_172 qX9_needWithin (by rfl) (by rfl) (by rfl) (by rfl) (Nat.le_of_ble_eq_true rfl) (s_needW (bn_nn (by omega)) (nle (b := 3) (by omega) (by omega))) (fun r4 μ4 e4 => ?_)
  obtain ⟨rfl, q4⟩ := e4
  obtain rfl := q4.symm
  refine bc_aload_n dX9_side_7 rfl ?_
  refine bc_getr dX9_side_8 fX9_52 (rfl) rfl ?_
  refine bc_aload_n dX9_side_11 rfl ?_
  refine bc_getr dX9_side_12 fX9_52 (rfl) rfl ?_
  refine bc_iconst (v := 0) dX9_side_15 (by decide) ?_
  refine bc_callV (z := mX1_litBits) (ci := 1) dX9_side_16 lX9_200 qX1_litBits (by rfl) (by rfl) (by rfl) (by rfl) (Nat.le_of_ble_eq_true rfl) (s_litBits (.inl rfl) hB.1.1 hB.1.2.1 0) (fun r16 μ16 e16 => ?_)
  obtain ⟨rfl, q16⟩ := e16
  obtain rfl := q16.symm
  refine bc_aload_n dX9_side_19 rfl ?_
  refine bc_getr dX9_side_20 fX9_52 (rfl) rfl ?_
  refine bc_geti dX9_side_23 fX9_185 (rfl) rfl ?_
  refine bc_callV (z := mX1_reckon) (ci := 1) dX9_side_26 lX9_257 qX1_reckon (by rfl) (by rfl) (by rfl) (by rfl) (Nat.le_of_ble_eq_true rfl) (s_reckon (.inl rfl) hB.1 hB.2.1 hB.2.2 _ _) (fun r26 μ26 e26 => ?_)
  obtain ⟨rfl, e1, e2, e3, e4⟩ := e26
  refine bc_aload_n dX9_side_29 rfl ?_
  refine bc_getr dX9_side_30 fX9_52 (rfl) rfl ?_
  refine bc_iload_n dX9_side_33 rfl ?_
  refine bc_callV (z := mX1_leansTo) (ci := 1) dX9_side_34 lX9_348 qX1_leansTo (by rfl) (by rfl) (by rfl) (by rfl) (Nat.le_of_ble_eq_true rfl) (s_leansTo LC_c31 (nI j)) (fun r34 μ34 e34 => ?_)
  obtain ⟨rfl, q34⟩ := e34
  obtain rfl := q34.symm
  exact bc_ireturn dX9_side_37 rfl rfl (⟨by rw [en_N hj (by decide)]; exact congrArg (fun z => some (Value.int z)) (e2 j hj), e1⟩)
theorem s_would {a0 a1 a2 a3 a4 a5 a6 : Int32} (hl : lawB μ n) (g0 : ¬ a0 < 0 ∧ a0 ≤ 72) (g1 : ¬ a1 < 0 ∧ a1 ≤ 99) (g2 : ¬ a2 < 0 ∧ a2 ≤ 8) (g3 : ¬ a3 < 0 ∧ a3 ≤ 72) (g4 : ¬ a4 < 0 ∧ a4 ≤ 99) (g5 : ¬ a5 < 0 ∧ a5 ≤ 3) (g6 : ¬ a6 < 0 ∧ a6 ≤ 900) : bc_C (d + 3) LC mX9_would [.ref 0, .int a0, .int a1, .int a2, .int a3, .int a4, .int a5, .int a6] μ (fun r ν => r = some (.int (lawV (μ 20) n (fcs a0 a1 a2 a3 a4 a5 a6))) ∧ ∃ f g, ν = bc_us (bc_us μ 23 g) 22 f) := by
  refine bc_enter (by decide) (Nat.le_of_ble_eq_true rfl) rfl ?_
  refine bc_aload_n dX9_would_0 rfl ?_
  refine bc_iload_n dX9_would_1 rfl ?_
  refine bc_iconst (v := 0) dX9_would_2 (by decide) ?_
  refine bc_bipush (v := 72) dX9_would_3 (by decide) ?_
  refine bc_callV (z := mX9_needWithin) (ci := 9) dX9_would_5 lX9_172 qX9_needWithin (by rfl) (by rfl) (by rfl) (by rfl) (Nat.le_of_ble_eq_true rfl) (s_needW g0.1 g0.2) (fun r5 μ5 e5 => ?_)
  obtain ⟨rfl, q5⟩ := e5
  obtain rfl := q5.symm
  refine bc_aload_n dX9_would_8 rfl ?_
  refine bc_iload_n dX9_would_9 rfl ?_
  refine bc_iconst (v := 0) dX9_would_10 (by decide) ?_
  refine bc_bipush (v := 99) dX9_would_11 (by decide) ?_
  refine bc_callV (z := mX9_needWithin) (ci := 9) dX9_would_13 lX9_172 qX9_needWithin (by rfl) (by rfl) (by rfl) (by rfl) (Nat.le_of_ble_eq_true rfl) (s_needW g1.1 g1.2) (fun r13 μ13 e13 => ?_)
  obtain ⟨rfl, q13⟩ := e13
  obtain rfl := q13.symm
  refine bc_aload_n dX9_would_16 rfl ?_
  refine bc_iload_n dX9_would_17 rfl ?_
  refine bc_iconst (v := 0) dX9_would_18 (by decide) ?_
  refine bc_bipush (v := 8) dX9_would_19 (by decide) ?_
  refine bc_callV (z := mX9_needWithin) (ci := 9) dX9_would_21 lX9_172 qX9_needWithin (by rfl) (by rfl) (by rfl) (by rfl) (Nat.le_of_ble_eq_true rfl) (s_needW g2.1 g2.2) (fun r21 μ21 e21 => ?_)
  obtain ⟨rfl, q21⟩ := e21
  obtain rfl := q21.symm
  refine bc_aload_n dX9_would_24 rfl ?_
  refine bc_iload dX9_would_25 rfl ?_
  refine bc_iconst (v := 0) dX9_would_27 (by decide) ?_
  refine bc_bipush (v := 72) dX9_would_28 (by decide) ?_
  refine bc_callV (z := mX9_needWithin) (ci := 9) dX9_would_30 lX9_172 qX9_needWithin (by rfl) (by rfl) (by rfl) (by rfl) (Nat.le_of_ble_eq_true rfl) (s_needW g3.1 g3.2) (fun r30 μ30 e30 => ?_)
  obtain ⟨rfl, q30⟩ := e30
  obtain rfl := q30.symm
  refine bc_aload_n dX9_would_33 rfl ?_
  refine bc_iload dX9_would_34 rfl ?_
  refine bc_iconst (v := 0) dX9_would_36 (by decide) ?_
  refine bc_bipush (v := 99) dX9_would_37 (by decide) ?_
  refine bc_callV (z := mX9_needWithin) (ci := 9) dX9_would_39 lX9_172 qX9_needWithin (by rfl) (by rfl) (by rfl) (by rfl) (Nat.le_of_ble_eq_true rfl) (s_needW g4.1 g4.2) (fun r39 μ39 e39 => ?_)
  obtain ⟨rfl, q39⟩ := e39
  obtain rfl := q39.symm
  refine bc_aload_n dX9_would_42 rfl ?_
  refine bc_iload dX9_would_43 rfl ?_
  refine bc_iconst (v := 0) dX9_would_45 (by decide) ?_
  refine bc_iconst (v := 3) dX9_would_46 (by decide) ?_
  refine bc_callV (z := mX9_needWithin) (ci := 9) dX9_would_47 lX9_172 qX9_needWithin (by rfl) (by rfl) (by rfl) (by rfl) (Nat.le_of_ble_eq_true rfl) (s_needW g5.1 g5.2) (fun r47 μ47 e47 => ?_)
  obtain ⟨rfl, q47⟩ := e47
  obtain rfl := q47.symm
  refine bc_aload_n dX9_would_50 rfl ?_
  refine bc_iload dX9_would_51 rfl ?_
  refine bc_iconst (v := 0) dX9_would_53 (by decide) ?_
  refine bc_sipush (v := 900) dX9_would_54 (by decide) ?_
  refine bc_callV (z := mX9_needWithin) (ci := 9) dX9_would_57 lX9_172 qX9_needWithin (by rfl) (by rfl) (by rfl) (by rfl) (Nat.le_of_ble_eq_true rfl) (s_needW g6.1 g6.2) (fun r57 μ57 e57 => ?_)
  obtain ⟨rfl, q57⟩ := e57
  obtain rfl := q57.symm
  refine bc_aload_n dX9_would_60 rfl ?_
  refine bc_getr dX9_would_61 fX9_29 (rfl) rfl ?_
  refine bc_iload_n dX9_would_64 rfl ?_
  refine bc_iload_n dX9_would_65 rfl ?_
  refine bc_iload_n dX9_would_66 rfl ?_
  refine bc_iload dX9_would_67 rfl ?_
  refine bc_iload dX9_would_69 rfl ?_
  refine bc_iload dX9_would_71 rfl ?_
  refine bc_iload dX9_would_73 rfl ?_
  refine bc_callV (z := mX2_lean) (ci := 2) dX9_would_75 lX9_266 qX2_lean (by rfl) (by rfl) (by rfl) (by rfl) (Nat.le_of_ble_eq_true rfl) (s_lean hl.1 hl.2 _ _ _ _ _ _ _) (fun r75 μ75 e75 => ?_)
  obtain ⟨rfl, f9, g9, rfl⟩ := e75
  exact bc_ireturn dX9_would_78 rfl rfl (⟨rfl, _, _, rfl⟩)
/-! fault, status, count -/
theorem s_fault : bc_C d LC mX9_fault [.ref 0] μ (fun r ν => r = some (.int (μ 1 6)) ∧ ν = μ) := by
  refine bc_enter (by decide) (Nat.le_of_ble_eq_true rfl) rfl ?_
  refine bc_aload_n dX9_fault_0 rfl ?_
  refine bc_getr dX9_fault_1 fX9_10 (rfl) rfl ?_
  refine bc_geti dX9_fault_4 fX9_166 (rfl) rfl ?_
  exact bc_ireturn dX9_fault_7 rfl rfl (⟨rfl, rfl⟩)
def staM (μ : bc_M) (w : Int32) : Int32 := if w = 0 then μ 0 12 else if w = 1 then μ 0 13 else -1
theorem s_status (w : Int32) : bc_C d LC mX9_status [.ref 0, .int w] μ (fun r ν => r = some (.int (staM μ w)) ∧ ν = μ) := by
  refine bc_enter (by decide) (Nat.le_of_ble_eq_true rfl) rfl ?_
  refine bc_iload_n dX9_status_0 rfl ?_
  refine bc_if_ne (tgt := 11) dX9_status_1 (by decide) (fun h1 => ?_) (fun h1 => ?_)
  · refine bc_iload_n dX9_status_11 rfl ?_
    refine bc_iconst (v := 1) dX9_status_12 (by decide) ?_
    refine bc_icmp_ne (tgt := 23) dX9_status_13 (by decide) (fun h13 => ?_) (fun h13 => ?_)
    · refine bc_iconst (v := (-1)) dX9_status_23 (by decide) ?_
      exact bc_ireturn dX9_status_24 rfl rfl (⟨by rw [staM, if_neg h1, if_neg h13], rfl⟩)
    · refine bc_aload_n dX9_status_16 rfl ?_
      refine bc_geti dX9_status_17 fX9_384 (rfl) rfl ?_
      refine bc_goto (tgt := 24) dX9_status_20 (by decide) ?_
      exact bc_ireturn dX9_status_24 rfl rfl (⟨by rw [staM, if_neg h1, if_pos (h13)], rfl⟩)
  · refine bc_aload_n dX9_status_4 rfl ?_
    refine bc_geti dX9_status_5 fX9_381 (rfl) rfl ?_
    refine bc_goto (tgt := 24) dX9_status_8 (by decide) ?_
    exact bc_ireturn dX9_status_24 rfl rfl (⟨by rw [staM, if_pos (h1)], rfl⟩)
def couM (μ : bc_M) (w : Int32) : Int32 := if w = 0 then μ 45 5 else if w = 1 then μ 1 1 else if w = 2 then μ 45 1 else -1
theorem s_count (w : Int32) : bc_C d LC mX9_count [.ref 0, .int w] μ (fun r ν => r = some (.int (couM μ w)) ∧ ν = μ) := by
  refine bc_enter (by decide) (Nat.le_of_ble_eq_true rfl) rfl ?_
  by_cases h0 : w = 0
  · subst h0
    refine bc_iload_n dX9_count_0 rfl ?_
    refine bc_tableIn (off := 27) (tgt := 28) dX9_count_1 (by decide) (by decide) (by decide) (by decide) ?_
    refine bc_aload_n dX9_count_28 rfl ?_
    refine bc_getr dX9_count_29 fX9_62 (rfl) rfl ?_
    refine bc_geti dX9_count_32 fX9_372 (rfl) rfl ?_
    exact bc_ireturn dX9_count_35 rfl rfl (⟨rfl, rfl⟩)
  · by_cases h1 : w = 1
    · subst h1
      refine bc_iload_n dX9_count_0 rfl ?_
      refine bc_tableIn (off := 35) (tgt := 36) dX9_count_1 (by decide) (by decide) (by decide) (by decide) ?_
      refine bc_aload_n dX9_count_36 rfl ?_
      refine bc_getr dX9_count_37 fX9_10 (rfl) rfl ?_
      refine bc_geti dX9_count_40 fX9_84 (rfl) rfl ?_
      exact bc_ireturn dX9_count_43 rfl rfl (⟨rfl, rfl⟩)
    · by_cases h2 : w = 2
      · subst h2
        refine bc_iload_n dX9_count_0 rfl ?_
        refine bc_tableIn (off := 43) (tgt := 44) dX9_count_1 (by decide) (by decide) (by decide) (by decide) ?_
        refine bc_aload_n dX9_count_44 rfl ?_
        refine bc_getr dX9_count_45 fX9_62 (rfl) rfl ?_
        refine bc_geti dX9_count_48 fX9_134 (rfl) rfl ?_
        exact bc_ireturn dX9_count_51 rfl rfl (⟨rfl, rfl⟩)
      · skip
        refine bc_iload_n dX9_count_0 rfl ?_
        have g0 : ¬ w.toInt = 0 := fun h => h0 ((bn_eq _ _).mpr h)
        have g1 : ¬ w.toInt = 1 := fun h => h1 ((bn_eq _ _).mpr h)
        have g2 : ¬ w.toInt = 2 := fun h => h2 ((bn_eq _ _).mpr h)
        refine bc_tableOut (tgt := 52) dX9_count_1 (by omega) (by decide) ?_
        refine bc_iconst (v := (-1)) dX9_count_52 (by decide) ?_
        exact bc_ireturn dX9_count_53 rfl rfl (⟨by rw [couM, if_neg h0, if_neg h1, if_neg h2], rfl⟩)
end OWN
