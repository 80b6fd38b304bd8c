/-! BreadCity$Bog and BreadCity$City: what they tell -/
theorem s_sideOf {d : Nat} {L : bc_L} {μ : bc_M} {b : Nat} (hb : bc_isB L b) (p : Int32) : bc_C (d + 1) L mX0_sideOf [.ref b, .int p] μ (fun r μ' => r = some (.int (en μ (b + 1) 6 p)) ∧ μ' = μ) := by
  refine bc_enter (by decide) (Nat.le_of_ble_eq_true rfl) rfl ?_
  refine bc_aload_n dX0_sideOf_0 rfl ?_
  refine bc_getr dX0_sideOf_1 fX0_9 (hb.1) rfl ?_
  refine bc_iload_n dX0_sideOf_4 rfl ?_
  refine bc_callSN (z := mX9_entry) dX0_sideOf_5 lX0_109 qX9_entry (by rfl) (by rfl) (Nat.le_of_ble_eq_true rfl) (s_entry hb.2.1 (by decide) p) (fun r5 μ5 e5 => ?_)
  obtain ⟨rfl, q5⟩ := e5
  obtain rfl := q5.symm
  exact bc_ireturn dX0_sideOf_8 rfl rfl (⟨rfl, rfl⟩)
theorem s_nosesOf {d : Nat} {L : bc_L} {μ : bc_M} {b : Nat} (hb : bc_isB L b) (p : Int32) : bc_C (d + 1) L mX0_nosesOf [.ref b, .int p] μ (fun r μ' => r = some (.int (en μ (b + 2) 6 p)) ∧ μ' = μ) := by
  refine bc_enter (by decide) (Nat.le_of_ble_eq_true rfl) rfl ?_
  refine bc_aload_n dX0_nosesOf_0 rfl ?_
  refine bc_getr dX0_nosesOf_1 fX0_15 (hb.1) rfl ?_
  refine bc_iload_n dX0_nosesOf_4 rfl ?_
  refine bc_callSN (z := mX9_entry) dX0_nosesOf_5 lX0_109 qX9_entry (by rfl) (by rfl) (Nat.le_of_ble_eq_true rfl) (s_entry hb.2.2.1 (by decide) p) (fun r5 μ5 e5 => ?_)
  obtain ⟨rfl, q5⟩ := e5
  obtain rfl := q5.symm
  exact bc_ireturn dX0_nosesOf_8 rfl rfl (⟨rfl, rfl⟩)
theorem s_quarterOf {d : Nat} {L : bc_L} {μ : bc_M} {b : Nat} (hb : bc_isB L b) (p : Int32) : bc_C (d + 1) L mX0_quarterOf [.ref b, .int p] μ (fun r μ' => r = some (.int (en μ (b + 3) 8 p)) ∧ μ' = μ) := by
  refine bc_enter (by decide) (Nat.le_of_ble_eq_true rfl) rfl ?_
  refine bc_aload_n dX0_quarterOf_0 rfl ?_
  refine bc_getr dX0_quarterOf_1 fX0_18 (hb.1) rfl ?_
  refine bc_iload_n dX0_quarterOf_4 rfl ?_
  refine bc_callSN (z := mX9_entry) dX0_quarterOf_5 lX0_109 qX9_entry (by rfl) (by rfl) (Nat.le_of_ble_eq_true rfl) (s_entry hb.2.2.2.1 (by decide) p) (fun r5 μ5 e5 => ?_)
  obtain ⟨rfl, q5⟩ := e5
  obtain rfl := q5.symm
  exact bc_ireturn dX0_quarterOf_8 rfl rfl (⟨rfl, rfl⟩)
theorem s_strongOf {d : Nat} {L : bc_L} {μ : bc_M} {b : Nat} (hb : bc_isB L b) (p : Int32) : bc_C (d + 1) L mX0_strongOf [.ref b, .int p] μ (fun r μ' => r = some (.int (en μ (b + 4) 8 p)) ∧ μ' = μ) := by
  refine bc_enter (by decide) (Nat.le_of_ble_eq_true rfl) rfl ?_
  refine bc_aload_n dX0_strongOf_0 rfl ?_
  refine bc_getr dX0_strongOf_1 fX0_21 (hb.1) rfl ?_
  refine bc_iload_n dX0_strongOf_4 rfl ?_
  refine bc_callSN (z := mX9_entry) dX0_strongOf_5 lX0_109 qX9_entry (by rfl) (by rfl) (Nat.le_of_ble_eq_true rfl) (s_entry hb.2.2.2.2.1 (by decide) p) (fun r5 μ5 e5 => ?_)
  obtain ⟨rfl, q5⟩ := e5
  obtain rfl := q5.symm
  exact bc_ireturn dX0_strongOf_8 rfl rfl (⟨rfl, rfl⟩)
theorem s_mooringX {d : Nat} {L : bc_L} {μ : bc_M} {b : Nat} (hb : bc_isB L b) (p : Int32) : bc_C (d + 1) L mX0_mooringX [.ref b, .int p] μ (fun r μ' => r = some (.int (en μ (b + 5) 6 p)) ∧ μ' = μ) := by
  refine bc_enter (by decide) (Nat.le_of_ble_eq_true rfl) rfl ?_
  refine bc_aload_n dX0_mooringX_0 rfl ?_
  refine bc_getr dX0_mooringX_1 fX0_24 (hb.1) rfl ?_
  refine bc_iload_n dX0_mooringX_4 rfl ?_
  refine bc_callSN (z := mX9_entry) dX0_mooringX_5 lX0_109 qX9_entry (by rfl) (by rfl) (Nat.le_of_ble_eq_true rfl) (s_entry hb.2.2.2.2.2.1 (by decide) p) (fun r5 μ5 e5 => ?_)
  obtain ⟨rfl, q5⟩ := e5
  obtain rfl := q5.symm
  exact bc_ireturn dX0_mooringX_8 rfl rfl (⟨rfl, rfl⟩)
theorem s_mooringY {d : Nat} {L : bc_L} {μ : bc_M} {b : Nat} (hb : bc_isB L b) (p : Int32) : bc_C (d + 1) L mX0_mooringY [.ref b, .int p] μ (fun r μ' => r = some (.int (en μ (b + 6) 6 p)) ∧ μ' = μ) := by
  refine bc_enter (by decide) (Nat.le_of_ble_eq_true rfl) rfl ?_
  refine bc_aload_n dX0_mooringY_0 rfl ?_
  refine bc_getr dX0_mooringY_1 fX0_27 (hb.1) rfl ?_
  refine bc_iload_n dX0_mooringY_4 rfl ?_
  refine bc_callSN (z := mX9_entry) dX0_mooringY_5 lX0_109 qX9_entry (by rfl) (by rfl) (Nat.le_of_ble_eq_true rfl) (s_entry hb.2.2.2.2.2.2.1 (by decide) p) (fun r5 μ5 e5 => ?_)
  obtain ⟨rfl, q5⟩ := e5
  obtain rfl := q5.symm
  exact bc_ireturn dX0_mooringY_8 rfl rfl (⟨rfl, rfl⟩)
theorem s_reedRow {d : Nat} {L : bc_L} {μ : bc_M} {b : Nat} (hb : bc_isB L b) (p : Int32) : bc_C (d + 1) L mX0_reedRow [.ref b, .int p] μ (fun r μ' => r = some (.int (en μ (b + 7) 31 p)) ∧ μ' = μ) := by
  refine bc_enter (by decide) (Nat.le_of_ble_eq_true rfl) rfl ?_
  refine bc_aload_n dX0_reedRow_0 rfl ?_
  refine bc_getr dX0_reedRow_1 fX0_30 (hb.1) rfl ?_
  refine bc_iload_n dX0_reedRow_4 rfl ?_
  refine bc_callSN (z := mX9_entry) dX0_reedRow_5 lX0_109 qX9_entry (by rfl) (by rfl) (Nat.le_of_ble_eq_true rfl) (s_entry hb.2.2.2.2.2.2.2 (by decide) p) (fun r5 μ5 e5 => ?_)
  obtain ⟨rfl, q5⟩ := e5
  obtain rfl := q5.symm
  exact bc_ireturn dX0_reedRow_8 rfl rfl (⟨rfl, rfl⟩)
theorem s_hoursLeftOf {d : Nat} {L : bc_L} {μ : bc_M} {c : Nat} (hc : bc_isC L c) (p : Int32) : bc_C (d + 1) L mX1_hoursLeftOf [.ref c, .int p] μ (fun r μ' => r = some (.int (en μ (c + 1) 8 p)) ∧ μ' = μ) := by
  refine bc_enter (by decide) (Nat.le_of_ble_eq_true rfl) rfl ?_
  refine bc_aload_n dX1_hoursLeftOf_0 rfl ?_
  refine bc_getr dX1_hoursLeftOf_1 fX1_9 (hc.1) rfl ?_
  refine bc_iload_n dX1_hoursLeftOf_4 rfl ?_
  refine bc_callSN (z := mX9_entry) dX1_hoursLeftOf_5 lX1_85 qX9_entry (by rfl) (by rfl) (Nat.le_of_ble_eq_true rfl) (s_entry hc.2.1 (by decide) p) (fun r5 μ5 e5 => ?_)
  obtain ⟨rfl, q5⟩ := e5
  obtain rfl := q5.symm
  exact bc_ireturn dX1_hoursLeftOf_8 rfl rfl (⟨rfl, rfl⟩)
theorem s_timesLitOf {d : Nat} {L : bc_L} {μ : bc_M} {c : Nat} (hc : bc_isC L c) (p : Int32) : bc_C (d + 1) L mX1_timesLitOf [.ref c, .int p] μ (fun r μ' => r = some (.int (en μ (c + 2) 8 p)) ∧ μ' = μ) := by
  refine bc_enter (by decide) (Nat.le_of_ble_eq_true rfl) rfl ?_
  refine bc_aload_n dX1_timesLitOf_0 rfl ?_
  refine bc_getr dX1_timesLitOf_1 fX1_15 (hc.1) rfl ?_
  refine bc_iload_n dX1_timesLitOf_4 rfl ?_
  refine bc_callSN (z := mX9_entry) dX1_timesLitOf_5 lX1_85 qX9_entry (by rfl) (by rfl) (Nat.le_of_ble_eq_true rfl) (s_entry hc.2.2.1 (by decide) p) (fun r5 μ5 e5 => ?_)
  obtain ⟨rfl, q5⟩ := e5
  obtain rfl := q5.symm
  exact bc_ireturn dX1_timesLitOf_8 rfl rfl (⟨rfl, rfl⟩)
theorem s_onionsOf {d : Nat} {L : bc_L} {μ : bc_M} {c : Nat} (hc : bc_isC L c) (p : Int32) : bc_C (d + 1) L mX1_onionsOf [.ref c, .int p] μ (fun r μ' => r = some (.int (en μ (c + 3) 6 p)) ∧ μ' = μ) := by
  refine bc_enter (by decide) (Nat.le_of_ble_eq_true rfl) rfl ?_
  refine bc_aload_n dX1_onionsOf_0 rfl ?_
  refine bc_getr dX1_onionsOf_1 fX1_18 (hc.1) rfl ?_
  refine bc_iload_n dX1_onionsOf_4 rfl ?_
  refine bc_callSN (z := mX9_entry) dX1_onionsOf_5 lX1_85 qX9_entry (by rfl) (by rfl) (Nat.le_of_ble_eq_true rfl) (s_entry hc.2.2.2.1 (by decide) p) (fun r5 μ5 e5 => ?_)
  obtain ⟨rfl, q5⟩ := e5
  obtain rfl := q5.symm
  exact bc_ireturn dX1_onionsOf_8 rfl rfl (⟨rfl, rfl⟩)
theorem s_breadOf {d : Nat} {L : bc_L} {μ : bc_M} {c : Nat} (hc : bc_isC L c) (p : Int32) : bc_C (d + 1) L mX1_breadOf [.ref c, .int p] μ (fun r μ' => r = some (.int (en μ (c + 4) 6 p)) ∧ μ' = μ) := by
  refine bc_enter (by decide) (Nat.le_of_ble_eq_true rfl) rfl ?_
  refine bc_aload_n dX1_breadOf_0 rfl ?_
  refine bc_getr dX1_breadOf_1 fX1_21 (hc.1) rfl ?_
  refine bc_iload_n dX1_breadOf_4 rfl ?_
  refine bc_callSN (z := mX9_entry) dX1_breadOf_5 lX1_85 qX9_entry (by rfl) (by rfl) (Nat.le_of_ble_eq_true rfl) (s_entry hc.2.2.2.2.1 (by decide) p) (fun r5 μ5 e5 => ?_)
  obtain ⟨rfl, q5⟩ := e5
  obtain rfl := q5.symm
  exact bc_ireturn dX1_breadOf_8 rfl rfl (⟨rfl, rfl⟩)
theorem s_leansTo {d : Nat} {L : bc_L} {μ : bc_M} {c : Nat} (hc : bc_isC L c) (p : Int32) : bc_C (d + 1) L mX1_leansTo [.ref c, .int p] μ (fun r μ' => r = some (.int (en μ (c + 6) 4 p)) ∧ μ' = μ) := by
  refine bc_enter (by decide) (Nat.le_of_ble_eq_true rfl) rfl ?_
  refine bc_aload_n dX1_leansTo_0 rfl ?_
  refine bc_getr dX1_leansTo_1 fX1_27 (hc.1) rfl ?_
  refine bc_iload_n dX1_leansTo_4 rfl ?_
  refine bc_callSN (z := mX9_entry) dX1_leansTo_5 lX1_85 qX9_entry (by rfl) (by rfl) (Nat.le_of_ble_eq_true rfl) (s_entry hc.2.2.2.2.2.2 (by decide) p) (fun r5 μ5 e5 => ?_)
  obtain ⟨rfl, q5⟩ := e5
  obtain rfl := q5.symm
  exact bc_ireturn dX1_leansTo_8 rfl rfl (⟨rfl, rfl⟩)
theorem s_coldOf {d : Nat} {L : bc_L} {μ : bc_M} {c : Nat} (hc : bc_isC L c) (p : Int32) : bc_C d L mX1_coldOf [.ref c, .int p] μ (fun r μ' => r = some (.int (μ c 7 >>> (p &&& 31) &&& 1)) ∧ μ' = μ) := by
  refine bc_enter (by decide) (Nat.le_of_ble_eq_true rfl) rfl ?_
  refine bc_aload_n dX1_coldOf_0 rfl ?_
  refine bc_geti dX1_coldOf_1 fX1_68 (hc.1) rfl ?_
  refine bc_iload_n dX1_coldOf_4 rfl ?_
  refine bc_ishr dX1_coldOf_5 ?_
  refine bc_iconst (v := 1) dX1_coldOf_6 (by decide) ?_
  refine bc_iand dX1_coldOf_7 ?_
  exact bc_ireturn dX1_coldOf_8 rfl rfl (⟨rfl, rfl⟩)
theorem s_quarterSets {d : Nat} {L : bc_L} {μ : bc_M} {b : Nat} (hb : bc_isB L b) : bc_C d L mX0_quarterSets [.ref b] μ (fun r μ' => r = some (.int (1 <<< (μ b 0 &&& 31))) ∧ μ' = μ) := by
  refine bc_enter (by decide) (Nat.le_of_ble_eq_true rfl) rfl ?_
  refine bc_iconst (v := 1) dX0_quarterSets_0 (by decide) ?_
  refine bc_aload_n dX0_quarterSets_1 rfl ?_
  refine bc_geti dX0_quarterSets_2 fX0_36 (hb.1) rfl ?_
  refine bc_ishl dX0_quarterSets_5 ?_
  exact bc_ireturn dX0_quarterSets_6 rfl rfl (⟨rfl, rfl⟩)
theorem s_ovenSets {d : Nat} {L : bc_L} {μ : bc_M} {b : Nat} (hb : bc_isB L b) : bc_C d L mX0_ovenSets [.ref b] μ (fun r μ' => r = some (.int (1 <<< (μ b 1 &&& 31))) ∧ μ' = μ) := by
  refine bc_enter (by decide) (Nat.le_of_ble_eq_true rfl) rfl ?_
  refine bc_iconst (v := 1) dX0_ovenSets_0 (by decide) ?_
  refine bc_aload_n dX0_ovenSets_1 rfl ?_
  refine bc_geti dX0_ovenSets_2 fX0_40 (hb.1) rfl ?_
  refine bc_ishl dX0_ovenSets_5 ?_
  exact bc_ireturn dX0_ovenSets_6 rfl rfl (⟨rfl, rfl⟩)
/-- 1 where it is true -/
def b01 (p : Prop) [Decidable p] : Int32 := if p then 1 else 0
def rd (μ : bc_M) (b : Nat) (x y : Int32) : Prop := en μ (b + 7) 31 y >>> (x &&& 31) &&& 1 = 1
theorem s_isReed {d : Nat} {L : bc_L} {μ : bc_M} {b : Nat} (hb : bc_isB L b) (x y : Int32) : bc_C (d + 1) L mX0_isReed [.ref b, .int x, .int y] μ (fun r μ' => r = some (.int (b01 (en μ (b + 7) 31 y >>> (x &&& 31) &&& 1 = 1))) ∧ μ' = μ) := by
  refine bc_enter (by decide) (Nat.le_of_ble_eq_true rfl) rfl ?_
  refine bc_aload_n dX0_isReed_0 rfl ?_
  refine bc_getr dX0_isReed_1 fX0_30 (hb.1) rfl ?_
  refine bc_iload_n dX0_isReed_4 rfl ?_
  refine bc_callSN (z := mX9_entry) dX0_isReed_5 lX0_109 qX9_entry (by rfl) (by rfl) (Nat.le_of_ble_eq_true rfl) (s_entry hb.2.2.2.2.2.2.2 (by decide) y) (fun r5 μ5 e5 => ?_)
  obtain ⟨rfl, q5⟩ := e5
  obtain rfl := q5.symm
  refine bc_iload_n dX0_isReed_8 rfl ?_
  refine bc_ishr dX0_isReed_9 ?_
  refine bc_iconst (v := 1) dX0_isReed_10 (by decide) ?_
  refine bc_iand dX0_isReed_11 ?_
  refine bc_iconst (v := 1) dX0_isReed_12 (by decide) ?_
  refine bc_icmp_ne (tgt := 20) dX0_isReed_13 (by decide) (fun h13 => ?_) (fun h13 => ?_)
  · refine bc_iconst (v := 0) dX0_isReed_20 (by decide) ?_
    exact bc_ireturn dX0_isReed_21 rfl rfl (⟨by simp only [b01, h13]; rfl, rfl⟩)
  · refine bc_iconst (v := 1) dX0_isReed_16 (by decide) ?_
    refine bc_goto (tgt := 21) dX0_isReed_17 (by decide) ?_
    exact bc_ireturn dX0_isReed_21 rfl rfl (⟨by simp only [b01, h13]; rfl, rfl⟩)
def opn (μ : bc_M) (b : Nat) (x y : Int32) : Prop := 0 ≤ x ∧ x ≤ 30 ∧ 0 ≤ y ∧ y ≤ 30 ∧ en μ (b + 7) 31 y >>> (x &&& 31) &&& 1 = 0
theorem s_isOpen {d : Nat} {L : bc_L} {μ : bc_M} {b : Nat} (hb : bc_isB L b) (x y : Int32) : bc_C (d + 1) L mX0_isOpen [.ref b, .int x, .int y] μ (fun r μ' => ((opn μ b x y ∧ r = some (.int 1)) ∨ (¬ opn μ b x y ∧ r = some (.int 0))) ∧ μ' = μ) := by
  refine bc_enter (by decide) (Nat.le_of_ble_eq_true rfl) rfl ?_
  refine bc_iload_n dX0_isOpen_0 rfl ?_
  refine bc_if_lt (tgt := 39) dX0_isOpen_1 (by decide) (fun h1 => ?_) (fun h1 => ?_)
  · refine bc_iconst (v := 0) dX0_isOpen_39 (by decide) ?_
    exact bc_ireturn dX0_isOpen_40 rfl rfl (⟨by first | exact Or.inr ⟨fun q => absurd q.1 (by simpa [bn_le, bn_lt] using h1), rfl⟩ | exact Or.inr ⟨fun q => absurd q.2.1 (by simpa [bn_le, bn_lt] using h7), rfl⟩ | exact Or.inr ⟨fun q => absurd q.2.2.1 (by simpa [bn_le, bn_lt] using h11), rfl⟩ | exact Or.inr ⟨fun q => absurd q.2.2.2.1 (by simpa [bn_le, bn_lt] using h17), rfl⟩ | exact Or.inr ⟨fun q => h32 q.2.2.2.2, rfl⟩ | exact Or.inl ⟨⟨by simpa [bn_le, bn_lt] using h1, by simpa [bn_le, bn_lt] using h7, by simpa [bn_le, bn_lt] using h11, by simpa [bn_le, bn_lt] using h17, h32⟩, rfl⟩, rfl⟩)
  · refine bc_iload_n dX0_isOpen_4 rfl ?_
    refine bc_bipush (v := 30) dX0_isOpen_5 (by decide) ?_
    refine bc_icmp_gt (tgt := 39) dX0_isOpen_7 (by decide) (fun h7 => ?_) (fun h7 => ?_)
    · refine bc_iconst (v := 0) dX0_isOpen_39 (by decide) ?_
      exact bc_ireturn dX0_isOpen_40 rfl rfl (⟨by first | exact Or.inr ⟨fun q => absurd q.1 (by simpa [bn_le, bn_lt] using h1), rfl⟩ | exact Or.inr ⟨fun q => absurd q.2.1 (by simpa [bn_le, bn_lt] using h7), rfl⟩ | exact Or.inr ⟨fun q => absurd q.2.2.1 (by simpa [bn_le, bn_lt] using h11), rfl⟩ | exact Or.inr ⟨fun q => absurd q.2.2.2.1 (by simpa [bn_le, bn_lt] using h17), rfl⟩ | exact Or.inr ⟨fun q => h32 q.2.2.2.2, rfl⟩ | exact Or.inl ⟨⟨by simpa [bn_le, bn_lt] using h1, by simpa [bn_le, bn_lt] using h7, by simpa [bn_le, bn_lt] using h11, by simpa [bn_le, bn_lt] using h17, h32⟩, rfl⟩, rfl⟩)
    · refine bc_iload_n dX0_isOpen_10 rfl ?_
      refine bc_if_lt (tgt := 39) dX0_isOpen_11 (by decide) (fun h11 => ?_) (fun h11 => ?_)
      · refine bc_iconst (v := 0) dX0_isOpen_39 (by decide) ?_
        exact bc_ireturn dX0_isOpen_40 rfl rfl (⟨by first | exact Or.inr ⟨fun q => absurd q.1 (by simpa [bn_le, bn_lt] using h1), rfl⟩ | exact Or.inr ⟨fun q => absurd q.2.1 (by simpa [bn_le, bn_lt] using h7), rfl⟩ | exact Or.inr ⟨fun q => absurd q.2.2.1 (by simpa [bn_le, bn_lt] using h11), rfl⟩ | exact Or.inr ⟨fun q => absurd q.2.2.2.1 (by simpa [bn_le, bn_lt] using h17), rfl⟩ | exact Or.inr ⟨fun q => h32 q.2.2.2.2, rfl⟩ | exact Or.inl ⟨⟨by simpa [bn_le, bn_lt] using h1, by simpa [bn_le, bn_lt] using h7, by simpa [bn_le, bn_lt] using h11, by simpa [bn_le, bn_lt] using h17, h32⟩, rfl⟩, rfl⟩)
      · refine bc_iload_n dX0_isOpen_14 rfl ?_
        refine bc_bipush (v := 30) dX0_isOpen_15 (by decide) ?_
        refine bc_icmp_gt (tgt := 39) dX0_isOpen_17 (by decide) (fun h17 => ?_) (fun h17 => ?_)
        · refine bc_iconst (v := 0) dX0_isOpen_39 (by decide) ?_
          exact bc_ireturn dX0_isOpen_40 rfl rfl (⟨by first | exact Or.inr ⟨fun q => absurd q.1 (by simpa [bn_le, bn_lt] using h1), rfl⟩ | exact Or.inr ⟨fun q => absurd q.2.1 (by simpa [bn_le, bn_lt] using h7), rfl⟩ | exact Or.inr ⟨fun q => absurd q.2.2.1 (by simpa [bn_le, bn_lt] using h11), rfl⟩ | exact Or.inr ⟨fun q => absurd q.2.2.2.1 (by simpa [bn_le, bn_lt] using h17), rfl⟩ | exact Or.inr ⟨fun q => h32 q.2.2.2.2, rfl⟩ | exact Or.inl ⟨⟨by simpa [bn_le, bn_lt] using h1, by simpa [bn_le, bn_lt] using h7, by simpa [bn_le, bn_lt] using h11, by simpa [bn_le, bn_lt] using h17, h32⟩, rfl⟩, rfl⟩)
        · refine bc_aload_n dX0_isOpen_20 rfl ?_
          refine bc_getr dX0_isOpen_21 fX0_30 (hb.1) rfl ?_
          refine bc_iload_n dX0_isOpen_24 rfl ?_
          refine bc_callSN (z := mX9_entry) dX0_isOpen_25 lX0_109 qX9_entry (by rfl) (by rfl) (Nat.le_of_ble_eq_true rfl) (s_entry hb.2.2.2.2.2.2.2 (by decide) y) (fun r25 μ25 e25 => ?_)
          obtain ⟨rfl, q25⟩ := e25
          obtain rfl := q25.symm
          refine bc_iload_n dX0_isOpen_28 rfl ?_
          refine bc_ishr dX0_isOpen_29 ?_
          refine bc_iconst (v := 1) dX0_isOpen_30 (by decide) ?_
          refine bc_iand dX0_isOpen_31 ?_
          refine bc_if_ne (tgt := 39) dX0_isOpen_32 (by decide) (fun h32 => ?_) (fun h32 => ?_)
          · refine bc_iconst (v := 0) dX0_isOpen_39 (by decide) ?_
            exact bc_ireturn dX0_isOpen_40 rfl rfl (⟨by first | exact Or.inr ⟨fun q => absurd q.1 (by simpa [bn_le, bn_lt] using h1), rfl⟩ | exact Or.inr ⟨fun q => absurd q.2.1 (by simpa [bn_le, bn_lt] using h7), rfl⟩ | exact Or.inr ⟨fun q => absurd q.2.2.1 (by simpa [bn_le, bn_lt] using h11), rfl⟩ | exact Or.inr ⟨fun q => absurd q.2.2.2.1 (by simpa [bn_le, bn_lt] using h17), rfl⟩ | exact Or.inr ⟨fun q => h32 q.2.2.2.2, rfl⟩ | exact Or.inl ⟨⟨by simpa [bn_le, bn_lt] using h1, by simpa [bn_le, bn_lt] using h7, by simpa [bn_le, bn_lt] using h11, by simpa [bn_le, bn_lt] using h17, h32⟩, rfl⟩, rfl⟩)
          · refine bc_iconst (v := 1) dX0_isOpen_35 (by decide) ?_
            refine bc_goto (tgt := 40) dX0_isOpen_36 (by decide) ?_
            exact bc_ireturn dX0_isOpen_40 rfl rfl (⟨by first | exact Or.inr ⟨fun q => absurd q.1 (by simpa [bn_le, bn_lt] using h1), rfl⟩ | exact Or.inr ⟨fun q => absurd q.2.1 (by simpa [bn_le, bn_lt] using h7), rfl⟩ | exact Or.inr ⟨fun q => absurd q.2.2.1 (by simpa [bn_le, bn_lt] using h11), rfl⟩ | exact Or.inr ⟨fun q => absurd q.2.2.2.1 (by simpa [bn_le, bn_lt] using h17), rfl⟩ | exact Or.inr ⟨fun q => h32 q.2.2.2.2, rfl⟩ | exact Or.inl ⟨⟨by simpa [bn_le, bn_lt] using h1, by simpa [bn_le, bn_lt] using h7, by simpa [bn_le, bn_lt] using h11, by simpa [bn_le, bn_lt] using h17, h32⟩, rfl⟩, rfl⟩)
