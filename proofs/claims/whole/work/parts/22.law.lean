/-! BreadCity$Law: how far a quarter leans -/
theorem s_join1007 {d : Nat} {L : bc_L} {μ : bc_M} (a b : Int32) : bc_C (d + 1) L mX2_join [.int 1007, .int a, .int b] μ (fun r μ' => r = some (.int (opE 1007 a b)) ∧ μ' = μ) := by
  refine bc_enter (by decide) (Nat.le_of_ble_eq_true rfl) rfl ?_
  refine bc_iload_n dX2_join_0 rfl ?_
  refine bc_tableIn (off := 39) (tgt := 40) dX2_join_1 (by decide) (by decide) (by decide) (by decide) ?_
  refine bc_iload_n dX2_join_40 rfl ?_
  refine bc_iload_n dX2_join_41 rfl ?_
  refine bc_iadd dX2_join_42 ?_
  exact bc_ireturn dX2_join_43 rfl rfl (⟨by simp [opE], rfl⟩)
theorem s_join1008 {d : Nat} {L : bc_L} {μ : bc_M} (a b : Int32) : bc_C (d + 1) L mX2_join [.int 1008, .int a, .int b] μ (fun r μ' => r = some (.int (opE 1008 a b)) ∧ μ' = μ) := by
  refine bc_enter (by decide) (Nat.le_of_ble_eq_true rfl) rfl ?_
  refine bc_iload_n dX2_join_0 rfl ?_
  refine bc_tableIn (off := 43) (tgt := 44) dX2_join_1 (by decide) (by decide) (by decide) (by decide) ?_
  refine bc_iload_n dX2_join_44 rfl ?_
  refine bc_iload_n dX2_join_45 rfl ?_
  refine bc_isub dX2_join_46 ?_
  exact bc_ireturn dX2_join_47 rfl rfl (⟨by simp [opE], rfl⟩)
theorem s_join1009 {d : Nat} {L : bc_L} {μ : bc_M} (a b : Int32) : bc_C (d + 1) L mX2_join [.int 1009, .int a, .int b] μ (fun r μ' => r = some (.int (opE 1009 a b)) ∧ μ' = μ) := by
  refine bc_enter (by decide) (Nat.le_of_ble_eq_true rfl) rfl ?_
  refine bc_iload_n dX2_join_0 rfl ?_
  refine bc_tableIn (off := 47) (tgt := 48) dX2_join_1 (by decide) (by decide) (by decide) (by decide) ?_
  refine bc_iload_n dX2_join_48 rfl ?_
  refine bc_iload_n dX2_join_49 rfl ?_
  refine bc_imul dX2_join_50 ?_
  exact bc_ireturn dX2_join_51 rfl rfl (⟨by simp [opE], rfl⟩)
theorem s_join1010 {d : Nat} {L : bc_L} {μ : bc_M} (a b : Int32) : bc_C (d + 1) L mX2_join [.int 1010, .int a, .int b] μ (fun r μ' => r = some (.int (opE 1010 a b)) ∧ μ' = μ) := by
  refine bc_enter (by decide) (Nat.le_of_ble_eq_true rfl) rfl ?_
  refine bc_iload_n dX2_join_0 rfl ?_
  refine bc_tableIn (off := 51) (tgt := 52) dX2_join_1 (by decide) (by decide) (by decide) (by decide) ?_
  refine bc_iload_n dX2_join_52 rfl ?_
  refine bc_if_ne (tgt := 60) dX2_join_53 (by decide) (fun h53 => ?_) (fun h53 => ?_)
  · refine bc_iload_n dX2_join_60 rfl ?_
    refine bc_iload_n dX2_join_61 rfl ?_
    refine bc_idiv dX2_join_62 (h53) ?_
    exact bc_ireturn dX2_join_63 rfl rfl (⟨by first | (rw [opE]; simp [h53]) , rfl⟩)
  · refine bc_iconst (v := 0) dX2_join_56 (by decide) ?_
    refine bc_goto (tgt := 63) dX2_join_57 (by decide) ?_
    exact bc_ireturn dX2_join_63 rfl rfl (⟨by first | (rw [opE]; simp [h53]) , rfl⟩)
theorem s_join1011 {d : Nat} {L : bc_L} {μ : bc_M} (a b : Int32) : bc_C (d + 1) L mX2_join [.int 1011, .int a, .int b] μ (fun r μ' => r = some (.int (opE 1011 a b)) ∧ μ' = μ) := by
  refine bc_enter (by decide) (Nat.le_of_ble_eq_true rfl) rfl ?_
  refine bc_iload_n dX2_join_0 rfl ?_
  refine bc_tableIn (off := 63) (tgt := 64) dX2_join_1 (by decide) (by decide) (by decide) (by decide) ?_
  refine bc_iload_n dX2_join_64 rfl ?_
  refine bc_if_ne (tgt := 72) dX2_join_65 (by decide) (fun h65 => ?_) (fun h65 => ?_)
  · refine bc_iload_n dX2_join_72 rfl ?_
    refine bc_iload_n dX2_join_73 rfl ?_
    refine bc_irem dX2_join_74 (h65) ?_
    exact bc_ireturn dX2_join_75 rfl rfl (⟨by first | (rw [opE]; simp [h65]), rfl⟩)
  · refine bc_iconst (v := 0) dX2_join_68 (by decide) ?_
    refine bc_goto (tgt := 75) dX2_join_69 (by decide) ?_
    exact bc_ireturn dX2_join_75 rfl rfl (⟨by first | (rw [opE]; simp [h65]), rfl⟩)
theorem s_join1012 {d : Nat} {L : bc_L} {μ : bc_M} (a b : Int32) : bc_C (d + 1) L mX2_join [.int 1012, .int a, .int b] μ (fun r μ' => r = some (.int (opE 1012 a b)) ∧ μ' = μ) := by
  refine bc_enter (by decide) (Nat.le_of_ble_eq_true rfl) rfl ?_
  refine bc_iload_n dX2_join_0 rfl ?_
  refine bc_tableIn (off := 75) (tgt := 76) dX2_join_1 (by decide) (by decide) (by decide) (by decide) ?_
  refine bc_iload_n dX2_join_76 rfl ?_
  refine bc_iload_n dX2_join_77 rfl ?_
  refine bc_icmp_gt (tgt := 85) dX2_join_78 (by decide) (fun h78 => ?_) (fun h78 => ?_)
  · refine bc_iload_n dX2_join_85 rfl ?_
    exact bc_ireturn dX2_join_86 rfl rfl (⟨by rw [opE]; simp [h78], rfl⟩)
  · refine bc_iload_n dX2_join_81 rfl ?_
    refine bc_goto (tgt := 86) dX2_join_82 (by decide) ?_
    exact bc_ireturn dX2_join_86 rfl rfl (⟨by rw [opE]; simp [h78], rfl⟩)
theorem s_join1013 {d : Nat} {L : bc_L} {μ : bc_M} (a b : Int32) : bc_C (d + 1) L mX2_join [.int 1013, .int a, .int b] μ (fun r μ' => r = some (.int (opE 1013 a b)) ∧ μ' = μ) := by
  refine bc_enter (by decide) (Nat.le_of_ble_eq_true rfl) rfl ?_
  refine bc_iload_n dX2_join_0 rfl ?_
  refine bc_tableOut (tgt := 87) dX2_join_1 (by decide) (by decide) ?_
  refine bc_iload_n dX2_join_87 rfl ?_
  refine bc_iload_n dX2_join_88 rfl ?_
  refine bc_icmp_lt (tgt := 96) dX2_join_89 (by decide) (fun h89 => ?_) (fun h89 => ?_)
  · refine bc_iload_n dX2_join_96 rfl ?_
    exact bc_ireturn dX2_join_97 rfl rfl (⟨by rw [opE]; simp [h89], rfl⟩)
  · refine bc_iload_n dX2_join_92 rfl ?_
    refine bc_goto (tgt := 97) dX2_join_93 (by decide) ?_
    exact bc_ireturn dX2_join_97 rfl rfl (⟨by rw [opE]; simp [h89], rfl⟩)
theorem s_join {d : Nat} {L : bc_L} {μ : bc_M} (s a b : Int32) (h1 : ¬ s < 1007) (h2 : s ≤ 1013) : bc_C (d + 1) L mX2_join [.int s, .int a, .int b] μ (fun r μ' => r = some (.int (opE s a b)) ∧ μ' = μ) := by
  have hs : s = 1007 ∨ s = 1008 ∨ s = 1009 ∨ s = 1010 ∨ s = 1011 ∨ s = 1012 ∨ s = 1013 := by
    rw [bn_lt] at h1
    rw [bn_le] at h2
    simp only [bn_eq]
    have e1 : (1007 : Int32).toInt = 1007 := rfl
    have e2 : (1008 : Int32).toInt = 1008 := rfl
    have e3 : (1009 : Int32).toInt = 1009 := rfl
    have e4 : (1010 : Int32).toInt = 1010 := rfl
    have e5 : (1011 : Int32).toInt = 1011 := rfl
    have e6 : (1012 : Int32).toInt = 1012 := rfl
    have e7 : (1013 : Int32).toInt = 1013 := rfl
    omega
  rcases hs with rfl | rfl | rfl | rfl | rfl | rfl | rfl
  · exact s_join1007 a b
  · exact s_join1008 a b
  · exact s_join1009 a b
  · exact s_join1010 a b
  · exact s_join1011 a b
  · exact s_join1012 a b
  · exact s_join1013 a b
theorem s_lean {d : Nat} {μ : bc_M} {n : Nat} (hn : μ 19 1 = nI n) (hw : wfS (μ 20) n) (a0 a1 a2 a3 a4 a5 a6 : Int32) : bc_C (d + 2) LC mX2_lean [.ref 19, .int a0, .int a1, .int a2, .int a3, .int a4, .int a5, .int a6] μ (fun r μ' => r = some (.int (lawV (μ 20) n (fcs a0 a1 a2 a3 a4 a5 a6))) ∧ ∃ f g, μ' = bc_us (bc_us μ 23 g) 22 f) := by
  refine bc_enter (by decide) (Nat.le_of_ble_eq_true rfl) rfl ?_
  obtain ⟨g, hg⟩ : ∃ g, g = upd (upd (upd (upd (upd (upd (upd (μ 23) 0 a0) 1 a1) 2 a2) 3 a3) 4 a4) 5 a5) 6 a6 := ⟨_, rfl⟩
  have hg2 : ∀ k, k < 7 → g k = fcs a0 a1 a2 a3 a4 a5 a6 k := by
    intro k hk
    subst hg
    have : k = 0 ∨ k = 1 ∨ k = 2 ∨ k = 3 ∨ k = 4 ∨ k = 5 ∨ k = 6 := by omega
    rcases this with rfl | rfl | rfl | rfl | rfl | rfl | rfl <;> simp [upd, fcs]
  have hn150 : n ≤ 150 := hw.2.1
  have loop : ∀ (m k : Nat) (v : Value), k + m = n → bc_W (d + 2) LC mX2_lean 60 [.ref 19, .int a0, .int a1, .int a2, .int a3, .int a4, .int a5, .int a6, .int (nI (dpS (μ 20) k)), .int (nI k), v] [] (bc_us (bc_us μ 23 g) 22 (evA (μ 20) g (μ 22) k)) (fun r μ' => r = some (.int (lawV (μ 20) n (fcs a0 a1 a2 a3 a4 a5 a6))) ∧ ∃ f g, μ' = bc_us (bc_us μ 23 g) 22 f) := by
    intro m
    induction m with
    | zero =>
      intro k v hk
      have hk : k = n := by omega
      subst hk
      refine bc_iload dX2_lean_60 rfl ?_
      refine bc_aload_n dX2_lean_62 rfl ?_
      refine bc_geti dX2_lean_63 fX2_42 (rfl) rfl ?_
      refine bc_icmp_ge (tgt := 205) dX2_lean_66 (by decide) (fun h66 => ?_) (fun h66 => absurd h66 (fun h => h (by show μ 19 1 ≤ nI k; rw [hn]; exact Int32.le_refl _)))
      refine bc_bipush (v := (-99)) dX2_lean_205 (by decide) ?_
      refine bc_bipush (v := 99) dX2_lean_207 (by decide) ?_
      refine bc_aload_n dX2_lean_209 rfl ?_
      refine bc_getr dX2_lean_210 fX2_18 (rfl) rfl ?_
      refine bc_iconst (v := 0) dX2_lean_213 (by decide) ?_
      refine bc_ialdE dX2_lean_214 (rfl) ((rfl : (0 : Int32) = nI 0)) (⟨by decide, by decide⟩) ?_
      refine bc_min dX2_lean_215 wX2_104 (Nat.le_of_ble_eq_true rfl) ?_
      refine bc_max dX2_lean_218 wX2_109 (Nat.le_of_ble_eq_true rfl) ?_
      exact bc_ireturn dX2_lean_221 rfl rfl (⟨by rw [lawV, ← evA_val hw hg2]; rfl, _, _, rfl⟩)
    | succ m ih =>
      intro k v hk
      have hd := dpS_le (μ 20) k
      have nxP : μ 20 k < 1007 → ∀ {x : Int32}, x = opd g (μ 20 k) → bc_W (d + 2) LC mX2_lean 60 [.ref 19, .int a0, .int a1, .int a2, .int a3, .int a4, .int a5, .int a6, .int (nI (dpS (μ 20) k) + 1), .int (nI k + 1), .int (μ 20 k)] [] (bc_u (bc_us (bc_us μ 23 g) 22 (evA (μ 20) g (μ 22) k)) 22 (dpS (μ 20) k) x) (fun r μ' => r = some (.int (lawV (μ 20) n (fcs a0 a1 a2 a3 a4 a5 a6))) ∧ ∃ f g, μ' = bc_us (bc_us μ 23 g) 22 f) := by
        intro hs x hx
        have e1 : dpS (μ 20) (k + 1) = dpS (μ 20) k + 1 := by simp [dpS, hs]
        have e2 : evA (μ 20) g (μ 22) (k + 1) = upd (evA (μ 20) g (μ 22) k) (dpS (μ 20) k) x := by simp [evA, hs, hx]
        have h2 := ih (k + 1) (.int (μ 20 k)) (by omega)
        rw [e1, e2] at h2
        rw [bc_us_u, bn_add1, bn_add1]
        exact h2
      have nxJ : ¬ μ 20 k < 1007 → bc_W (d + 2) LC mX2_lean 60 [.ref 19, .int a0, .int a1, .int a2, .int a3, .int a4, .int a5, .int a6, .int (nI (dpS (μ 20) k - 1)), .int (nI k + 1), .int (μ 20 k)] [] (bc_u (bc_us (bc_us μ 23 g) 22 (evA (μ 20) g (μ 22) k)) 22 (dpS (μ 20) k - 1 - 1) (opE (μ 20 k) (evA (μ 20) g (μ 22) k (dpS (μ 20) k - 1 - 1)) (evA (μ 20) g (μ 22) k (dpS (μ 20) k - 1)))) (fun r μ' => r = some (.int (lawV (μ 20) n (fcs a0 a1 a2 a3 a4 a5 a6))) ∧ ∃ f g, μ' = bc_us (bc_us μ 23 g) 22 f) := by
        intro hs
        have e1 : dpS (μ 20) (k + 1) = dpS (μ 20) k - 1 := by simp [dpS, hs]
        have e2 : evA (μ 20) g (μ 22) (k + 1) = upd (evA (μ 20) g (μ 22) k) (dpS (μ 20) k - 1 - 1) (opE (μ 20 k) (evA (μ 20) g (μ 22) k (dpS (μ 20) k - 1 - 1)) (evA (μ 20) g (μ 22) k (dpS (μ 20) k - 1))) := by
          rw [show dpS (μ 20) k - 1 - 1 = dpS (μ 20) k - 2 by omega]
          simp [evA, hs]
        have h2 := ih (k + 1) (.int (μ 20 k)) (by omega)
        rw [e1, e2] at h2
        rw [bc_us_u, bn_add1]
        exact h2
      refine bc_iload dX2_lean_60 rfl ?_
      refine bc_aload_n dX2_lean_62 rfl ?_
      refine bc_geti dX2_lean_63 fX2_42 (rfl) rfl ?_
      refine bc_icmp_ge (tgt := 205) dX2_lean_66 (by decide) (fun h66 => absurd h66 (by show ¬ (μ 19 1 ≤ nI k); rw [hn, bn_leN (by omega) (by omega)]; omega)) (fun h66 => ?_)
      refine bc_iload dX2_lean_69 rfl ?_
      refine bc_aload_n dX2_lean_71 rfl ?_
      refine bc_getr dX2_lean_72 fX2_11 (rfl) rfl ?_
      refine bc_len0 dX2_lean_75 (rfl) ?_
      refine bc_icmp_ge (tgt := 205) dX2_lean_76 (by decide) (fun h76 => absurd h76 (by rw [bn_leN (by omega) (by omega)]; omega)) (fun h76 => ?_)
      refine bc_aload_n dX2_lean_79 rfl ?_
      refine bc_getr dX2_lean_80 fX2_11 (rfl) rfl ?_
      refine bc_iload dX2_lean_83 rfl ?_
      refine bc_ialdE dX2_lean_85 (rfl) (rfl) (⟨by omega, by decide⟩) ?_
      refine bc_istore dX2_lean_86 (by decide) rfl ?_
      refine bc_iload dX2_lean_88 rfl ?_
      refine bc_sipush (v := 1007) dX2_lean_90 (by decide) ?_
      refine bc_icmp_ge (tgt := 150) dX2_lean_93 (by decide) (fun h93 => ?_) (fun h93 => ?_)
      · refine bc_iload dX2_lean_150 rfl ?_
        refine bc_iconst (v := 2) dX2_lean_152 (by decide) ?_
        refine bc_icmp_lt (tgt := 199) dX2_lean_153 (by decide) (fun h153 => absurd h153 (by rw [show (2 : Int32) = nI 2 from rfl, bn_ltN (by omega) (by omega)]; have := ((hw.2.2 k (by omega)).2 (by show ¬ μ 20 k < 1007; rw [bn_lt]; have h : (1007 : Int32) ≤ μ 20 k := h93; rw [bn_le] at h; omega)).2; omega)) (fun h153 => ?_)
        refine bc_iload dX2_lean_156 rfl ?_
        refine bc_aload_n dX2_lean_158 rfl ?_
        refine bc_getr dX2_lean_159 fX2_18 (rfl) rfl ?_
        refine bc_len0 dX2_lean_162 (rfl) ?_
        refine bc_icmp_gt (tgt := 199) dX2_lean_163 (by decide) (fun h163 => absurd h163 (by rw [bn_ltN (by omega) (by omega)]; omega)) (fun h163 => ?_)
        have hs : ¬ μ 20 k < 1007 := by have h : (1007 : Int32) ≤ μ 20 k := h93; rw [bn_lt]; rw [bn_le] at h; omega
        have hd2 := (hw.2.2 k (by omega)).2 hs
        refine bc_iinc (v := nI (dpS (μ 20) k - 1)) dX2_lean_166 rfl (bn_m1 (by omega)) (by decide) rfl ?_
        refine bc_aload_n dX2_lean_169 rfl ?_
        refine bc_getr dX2_lean_170 fX2_18 (rfl) rfl ?_
        refine bc_iload dX2_lean_173 rfl ?_
        refine bc_iconst (v := 1) dX2_lean_175 (by decide) ?_
        refine bc_isub dX2_lean_176 ?_
        refine bc_iload dX2_lean_177 rfl ?_
        refine bc_aload_n dX2_lean_179 rfl ?_
        refine bc_getr dX2_lean_180 fX2_18 (rfl) rfl ?_
        refine bc_iload dX2_lean_183 rfl ?_
        refine bc_iconst (v := 1) dX2_lean_185 (by decide) ?_
        refine bc_isub dX2_lean_186 ?_
        refine bc_ialdE dX2_lean_187 (rfl) (bn_s1 (by omega)) (⟨by omega, by decide⟩) ?_
        refine bc_aload_n dX2_lean_188 rfl ?_
        refine bc_getr dX2_lean_189 fX2_18 (rfl) rfl ?_
        refine bc_iload dX2_lean_192 rfl ?_
        refine bc_ialdE dX2_lean_194 (rfl) (rfl) (⟨by omega, by decide⟩) ?_
        refine bc_callS (z := mX2_join) dX2_lean_195 lX2_100 qX2_join (by rfl) (by rfl) (Nat.le_of_ble_eq_true rfl) (s_join _ _ _ hs hd2.1) (fun r195 μ195 e195 => ?_)
        obtain ⟨rfl, q195⟩ := e195
        obtain rfl := q195.symm
        refine bc_iastE dX2_lean_198 (rfl) (bn_s1 (by omega)) (⟨by omega, by decide⟩) ?_
        refine bc_iinc1 dX2_lean_199 rfl (by decide) rfl ?_
        refine bc_goto (tgt := 60) dX2_lean_202 (by decide) ?_
        exact nxJ hs
      · refine bc_iload dX2_lean_96 rfl ?_
        refine bc_if_lt (tgt := 199) dX2_lean_98 (by decide) (fun h98 => absurd h98 (bn_nn (by omega))) (fun h98 => ?_)
        refine bc_iload dX2_lean_101 rfl ?_
        refine bc_aload_n dX2_lean_103 rfl ?_
        refine bc_getr dX2_lean_104 fX2_18 (rfl) rfl ?_
        refine bc_len0 dX2_lean_107 (rfl) ?_
        refine bc_icmp_ge (tgt := 199) dX2_lean_108 (by decide) (fun h108 => absurd h108 (by rw [bn_leN (by omega) (by omega)]; omega)) (fun h108 => ?_)
        refine bc_aload_n dX2_lean_111 rfl ?_
        refine bc_getr dX2_lean_112 fX2_18 (rfl) rfl ?_
        refine bc_iload dX2_lean_115 rfl ?_
        refine bc_iload dX2_lean_117 rfl ?_
        refine bc_sipush (v := 1000) dX2_lean_119 (by decide) ?_
        refine bc_icmp_ge (tgt := 130) dX2_lean_122 (by decide) (fun h122 => ?_) (fun h122 => ?_)
        · refine bc_aload_n dX2_lean_130 rfl ?_
          refine bc_getr dX2_lean_131 fX2_21 (rfl) rfl ?_
          refine bc_iload dX2_lean_134 rfl ?_
          refine bc_sipush (v := 1000) dX2_lean_136 (by decide) ?_
          refine bc_isub dX2_lean_139 ?_
          refine bc_callSN (z := mX9_entry) dX2_lean_140 lX2_96 qX9_entry (by rfl) (by rfl) (Nat.le_of_ble_eq_true rfl) (s_entry (n := 7) rfl (by decide) _) (fun r140 μ140 e140 => ?_)
          obtain ⟨rfl, q140⟩ := e140
          obtain rfl := q140.symm
          refine bc_iastE dX2_lean_143 (rfl) (rfl) (⟨by omega, by decide⟩) ?_
          refine bc_iinc1 dX2_lean_144 rfl (by decide) rfl ?_
          refine bc_goto (tgt := 199) dX2_lean_147 (by decide) ?_
          refine bc_iinc1 dX2_lean_199 rfl (by decide) rfl ?_
          refine bc_goto (tgt := 60) dX2_lean_202 (by decide) ?_
          have h3 : ¬ μ 20 k < 1000 := fun q => absurd q (by have h : (1000 : Int32) ≤ μ 20 k := h122; rw [bn_lt]; rw [bn_le] at h; omega)
          refine nxP (bn_nle h93) ?_
          show en _ 23 7 (μ 20 k - 1000) = opd g (μ 20 k)
          have h4 : μ 20 k < 1007 := bn_nle h93
          rw [en_in (bn_in7 h4 h3), opd, if_neg h3]
          rfl
        · refine bc_iload dX2_lean_125 rfl ?_
          refine bc_goto (tgt := 143) dX2_lean_127 (by decide) ?_
          refine bc_iastE dX2_lean_143 (rfl) (rfl) (⟨by omega, by decide⟩) ?_
          refine bc_iinc1 dX2_lean_144 rfl (by decide) rfl ?_
          refine bc_goto (tgt := 199) dX2_lean_147 (by decide) ?_
          refine bc_iinc1 dX2_lean_199 rfl (by decide) rfl ?_
          refine bc_goto (tgt := 60) dX2_lean_202 (by decide) ?_
          have h3 : μ 20 k < 1000 := bn_nle h122
          refine nxP (bn_nle h93) ?_
          show μ 20 k = opd g (μ 20 k)
          rw [opd, if_pos h3]
  refine bc_aload_n dX2_lean_0 rfl ?_
  refine bc_getr dX2_lean_1 fX2_21 (rfl) rfl ?_
  refine bc_iconst (v := 0) dX2_lean_4 (by decide) ?_
  refine bc_iload_n dX2_lean_5 rfl ?_
  refine bc_iastE dX2_lean_6 (rfl) ((rfl : (0 : Int32) = nI 0)) (⟨by decide, by decide⟩) ?_
  refine bc_aload_n dX2_lean_7 rfl ?_
  refine bc_getr dX2_lean_8 fX2_21 (rfl) rfl ?_
  refine bc_iconst (v := 1) dX2_lean_11 (by decide) ?_
  refine bc_iload_n dX2_lean_12 rfl ?_
  refine bc_iastE dX2_lean_13 (rfl) ((rfl : (1 : Int32) = nI 1)) (⟨by decide, by decide⟩) ?_
  refine bc_aload_n dX2_lean_14 rfl ?_
  refine bc_getr dX2_lean_15 fX2_21 (rfl) rfl ?_
  refine bc_iconst (v := 2) dX2_lean_18 (by decide) ?_
  refine bc_iload_n dX2_lean_19 rfl ?_
  refine bc_iastE dX2_lean_20 (rfl) ((rfl : (2 : Int32) = nI 2)) (⟨by decide, by decide⟩) ?_
  refine bc_aload_n dX2_lean_21 rfl ?_
  refine bc_getr dX2_lean_22 fX2_21 (rfl) rfl ?_
  refine bc_iconst (v := 3) dX2_lean_25 (by decide) ?_
  refine bc_iload dX2_lean_26 rfl ?_
  refine bc_iastE dX2_lean_28 (rfl) ((rfl : (3 : Int32) = nI 3)) (⟨by decide, by decide⟩) ?_
  refine bc_aload_n dX2_lean_29 rfl ?_
  refine bc_getr dX2_lean_30 fX2_21 (rfl) rfl ?_
  refine bc_iconst (v := 4) dX2_lean_33 (by decide) ?_
  refine bc_iload dX2_lean_34 rfl ?_
  refine bc_iastE dX2_lean_36 (rfl) ((rfl : (4 : Int32) = nI 4)) (⟨by decide, by decide⟩) ?_
  refine bc_aload_n dX2_lean_37 rfl ?_
  refine bc_getr dX2_lean_38 fX2_21 (rfl) rfl ?_
  refine bc_iconst (v := 5) dX2_lean_41 (by decide) ?_
  refine bc_iload dX2_lean_42 rfl ?_
  refine bc_iastE dX2_lean_44 (rfl) ((rfl : (5 : Int32) = nI 5)) (⟨by decide, by decide⟩) ?_
  refine bc_aload_n dX2_lean_45 rfl ?_
  refine bc_getr dX2_lean_46 fX2_21 (rfl) rfl ?_
  refine bc_bipush (v := 6) dX2_lean_49 (by decide) ?_
  refine bc_iload dX2_lean_51 rfl ?_
  refine bc_iastE dX2_lean_53 (rfl) ((rfl : (6 : Int32) = nI 6)) (⟨by decide, by decide⟩) ?_
  refine bc_iconst (v := 0) dX2_lean_54 (by decide) ?_
  refine bc_istore dX2_lean_55 (by decide) rfl ?_
  refine bc_iconst (v := 0) dX2_lean_57 (by decide) ?_
  refine bc_istore dX2_lean_58 (by decide) rfl ?_
  have h := loop n 0 .null (by omega)
  rw [show evA (μ 20) g (μ 22) 0 = μ 22 from rfl, show bc_us (bc_us μ 23 g) 22 (μ 22) = bc_us μ 23 g from bc_us_self (bc_us μ 23 g) 22, hg] at h
  rw [bc_u_us μ 23, bc_us_u, bc_us_u, bc_us_u, bc_us_u, bc_us_u, bc_us_u]
  exact h
