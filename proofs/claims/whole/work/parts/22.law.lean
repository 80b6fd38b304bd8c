/-! BreadCity$Law: how far a quarter leans -/
theorem s_join1007 {d : Nat} {L : bc_L} {μ : bc_M} (a b : Int32) : bc_C (d + 1) L mX2_join [.int 1007, .int a, .int b] μ (fun r μ' => r = some (.int (opE 1007 a b)) ∧ μ' = μ) := by
  refine bc_enter (by decide) (Nat.le_of_ble_eq_true rfl) rfl ?_
  refine bc_iload_n dX2_join_0 rfl ?_
  refine bc_tableIn (off := 39) (tgt := 40) dX2_join_1 (by decide) (by decide) (by decide) (by decide) ?_
  refine bc_iload_n dX2_join_40 rfl ?_
  refine bc_iload_n dX2_join_41 rfl ?_
  refine bc_iadd dX2_join_42 ?_
  exact bc_ireturn dX2_join_43 rfl rfl (⟨by simp [opE], rfl⟩)
theorem s_join1008 {d : Nat} {L : bc_L} {μ : bc_M} (a b : Int32) : bc_C (d + 1) L mX2_join [.int 1008, .int a, .int b] μ (fun r μ' => r = some (.int (opE 1008 a b)) ∧ μ' = μ) := by
  refine bc_enter (by decide) (Nat.le_of_ble_eq_true rfl) rfl ?_
  refine bc_iload_n dX2_join_0 rfl ?_
  refine bc_tableIn (off := 43) (tgt := 44) dX2_join_1 (by decide) (by decide) (by decide) (by decide) ?_
  refine bc_iload_n dX2_join_44 rfl ?_
  refine bc_iload_n dX2_join_45 rfl ?_
  refine bc_isub dX2_join_46 ?_
  exact bc_ireturn dX2_join_47 rfl rfl (⟨by simp [opE], rfl⟩)
theorem s_join1009 {d : Nat} {L : bc_L} {μ : bc_M} (a b : Int32) : bc_C (d + 1) L mX2_join [.int 1009, .int a, .int b] μ (fun r μ' => r = some (.int (opE 1009 a b)) ∧ μ' = μ) := by
  refine bc_enter (by decide) (Nat.le_of_ble_eq_true rfl) rfl ?_
  refine bc_iload_n dX2_join_0 rfl ?_
  refine bc_tableIn (off := 47) (tgt := 48) dX2_join_1 (by decide) (by decide) (by decide) (by decide) ?_
  refine bc_iload_n dX2_join_48 rfl ?_
  refine bc_iload_n dX2_join_49 rfl ?_
  refine bc_imul dX2_join_50 ?_
  exact bc_ireturn dX2_join_51 rfl rfl (⟨by simp [opE], rfl⟩)
theorem s_join1010 {d : Nat} {L : bc_L} {μ : bc_M} (a b : Int32) : bc_C (d + 1) L mX2_join [.int 1010, .int a, .int b] μ (fun r μ' => r = some (.int (opE 1010 a b)) ∧ μ' = μ) := by
  refine bc_enter (by decide) (Nat.le_of_ble_eq_true rfl) rfl ?_
  refine bc_iload_n dX2_join_0 rfl ?_
  refine bc_tableIn (off := 51) (tgt := 52) dX2_join_1 (by decide) (by decide) (by decide) (by decide) ?_
  refine bc_iload_n dX2_join_52 rfl ?_
  refine bc_if_ne (tgt := 60) dX2_join_53 (by decide) (fun h53 => ?_) (fun h53 => ?_)
  · refine bc_iload_n dX2_join_60 rfl ?_
    refine bc_iload_n dX2_join_61 rfl ?_
    refine bc_idiv dX2_join_62 (h53) ?_
    exact bc_ireturn dX2_join_63 rfl rfl (⟨by first | (rw [opE]; simp [h53]) , rfl⟩)
  · refine bc_iconst (v := 0) dX2_join_56 (by decide) ?_
    refine bc_goto (tgt := 63) dX2_join_57 (by decide) ?_
    exact bc_ireturn dX2_join_63 rfl rfl (⟨by first | (rw [opE]; simp [h53]) , rfl⟩)
theorem s_join1011 {d : Nat} {L : bc_L} {μ : bc_M} (a b : Int32) : bc_C (d + 1) L mX2_join [.int 1011, .int a, .int b] μ (fun r μ' => r = some (.int (opE 1011 a b)) ∧ μ' = μ) := by
  refine bc_enter (by decide) (Nat.le_of_ble_eq_true rfl) rfl ?_
  refine bc_iload_n dX2_join_0 rfl ?_
  refine bc_tableIn (off := 63) (tgt := 64) dX2_join_1 (by decide) (by decide) (by decide) (by decide) ?_
  refine bc_iload_n dX2_join_64 rfl ?_
  refine bc_if_ne (tgt := 72) dX2_join_65 (by decide) (fun h65 => ?_) (fun h65 => ?_)
  · refine bc_iload_n dX2_join_72 rfl ?_
    refine bc_iload_n dX2_join_73 rfl ?_
    refine bc_irem dX2_join_74 (h65) ?_
    exact bc_ireturn dX2_join_75 rfl rfl (⟨by first | (rw [opE]; simp [h65]), rfl⟩)
  · refine bc_iconst (v := 0) dX2_join_68 (by decide) ?_
    refine bc_goto (tgt := 75) dX2_join_69 (by decide) ?_
    exact bc_ireturn dX2_join_75 rfl rfl (⟨by first | (rw [opE]; simp [h65]), rfl⟩)
theorem s_join1012 {d : Nat} {L : bc_L} {μ : bc_M} (a b : Int32) : bc_C (d + 1) L mX2_join [.int 1012, .int a, .int b] μ (fun r μ' => r = some (.int (opE 1012 a b)) ∧ μ' = μ) := by
  refine bc_enter (by decide) (Nat.le_of_ble_eq_true rfl) rfl ?_
  refine bc_iload_n dX2_join_0 rfl ?_
  refine bc_tableIn (off := 75) (tgt := 76) dX2_join_1 (by decide) (by decide) (by decide) (by decide) ?_
  refine bc_iload_n dX2_join_76 rfl ?_
  refine bc_iload_n dX2_join_77 rfl ?_
  refine bc_min dX2_join_78 wX2_104 (Nat.le_of_ble_eq_true rfl) ?_
  exact bc_ireturn dX2_join_81 rfl rfl (⟨by simp [opE], rfl⟩)
theorem s_join1013 {d : Nat} {L : bc_L} {μ : bc_M} (a b : Int32) : bc_C (d + 1) L mX2_join [.int 1013, .int a, .int b] μ (fun r μ' => r = some (.int (opE 1013 a b)) ∧ μ' = μ) := by
  refine bc_enter (by decide) (Nat.le_of_ble_eq_true rfl) rfl ?_
  refine bc_iload_n dX2_join_0 rfl ?_
  refine bc_tableOut (tgt := 82) dX2_join_1 (by decide) (by decide) ?_
  refine bc_iload_n dX2_join_82 rfl ?_
  refine bc_iload_n dX2_join_83 rfl ?_
  refine bc_max dX2_join_84 wX2_109 (Nat.le_of_ble_eq_true rfl) ?_
  exact bc_ireturn dX2_join_87 rfl rfl (⟨by simp [opE], rfl⟩)
theorem s_join {d : Nat} {L : bc_L} {μ : bc_M} (s a b : Int32) (h1 : ¬ s < 1007) (h2 : s ≤ 1013) : bc_C (d + 1) L mX2_join [.int s, .int a, .int b] μ (fun r μ' => r = some (.int (opE s a b)) ∧ μ' = μ) := by
  have hs : s = 1007 ∨ s = 1008 ∨ s = 1009 ∨ s = 1010 ∨ s = 1011 ∨ s = 1012 ∨ s = 1013 := by
    rw [bn_lt] at h1
    rw [bn_le] at h2
    simp only [bn_eq]
    have e1 : (1007 : Int32).toInt = 1007 := rfl
    have e2 : (1008 : Int32).toInt = 1008 := rfl
    have e3 : (1009 : Int32).toInt = 1009 := rfl
    have e4 : (1010 : Int32).toInt = 1010 := rfl
    have e5 : (1011 : Int32).toInt = 1011 := rfl
    have e6 : (1012 : Int32).toInt = 1012 := rfl
    have e7 : (1013 : Int32).toInt = 1013 := rfl
    omega
  rcases hs with rfl | rfl | rfl | rfl | rfl | rfl | rfl
  · exact s_join1007 a b
  · exact s_join1008 a b
  · exact s_join1009 a b
  · exact s_join1010 a b
  · exact s_join1011 a b
  · exact s_join1012 a b
  · exact s_join1013 a b
