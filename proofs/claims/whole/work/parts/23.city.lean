/-! BreadCity$City: what is smelled, who leans how, where it drifts -/
/-- the city's scratch, and the law's -/
def scr (c i k : Nat) : Prop := i = 22 ∨ i = 23 ∨ i = c + 4 ∨ i = c + 5 ∨ i = c + 6 ∨ (i = c ∧ (k = 13 ∨ k = 15 ∨ k = 16))
def sameS (c : Nat) (μ ν : bc_M) : Prop := ∀ i k, ¬ scr c i k → ν i k = μ i k
theorem sameS.rf (c : Nat) (μ : bc_M) : sameS c μ μ := fun _ _ _ => rfl
theorem sameS.tr {c : Nat} {μ ν ξ : bc_M} (h : sameS c μ ν) (h2 : sameS c ν ξ) : sameS c μ ξ := fun i k q => (h2 i k q).trans (h i k q)
theorem sameS.u {c : Nat} {μ ν : bc_M} (h : sameS c μ ν) {i k : Nat} (v : Int32) (hs : scr c i k) : sameS c μ (bc_u ν i k v) := by
  intro a b hn
  rw [bc_u_r, if_neg (fun q => hn (by rw [q.1, q.2]; exact hs))]
  exact h a b hn
theorem sameS.us {c : Nat} {μ ν : bc_M} (h : sameS c μ ν) {i : Nat} (f : Nat → Int32) (hs : ∀ k, scr c i k) : sameS c μ (bc_us ν i f) := by
  intro a b hn
  rw [bc_us_r, if_neg (fun q => hn (by rw [q]; exact hs b))]
  exact h a b hn
theorem s_entB {d : Nat} {L : bc_L} {μ : bc_M} {b k : Nat} (hb : bc_isB L b) (hk : k < 8) : bc_C (d + 1) L mX0_quarterOf [.ref b, .int (nI k)] μ (fun r μ' => r = some (.int (μ (b + 3) k)) ∧ μ' = μ) := by
  have h := s_quarterOf (d := d) (μ := μ) hb (nI k)
  rw [en_N hk (by decide)] at h
  exact h
theorem s_strB {d : Nat} {L : bc_L} {μ : bc_M} {b k : Nat} (hb : bc_isB L b) (hk : k < 8) : bc_C (d + 1) L mX0_strongOf [.ref b, .int (nI k)] μ (fun r μ' => r = some (.int (μ (b + 4) k)) ∧ μ' = μ) := by
  have h := s_strongOf (d := d) (μ := μ) hb (nI k)
  rw [en_N hk (by decide)] at h
  exact h
theorem s_sidB {d : Nat} {L : bc_L} {μ : bc_M} {b k : Nat} (hb : bc_isB L b) (hk : k < 6) : bc_C (d + 1) L mX0_sideOf [.ref b, .int (nI k)] μ (fun r μ' => r = some (.int (μ (b + 1) k)) ∧ μ' = μ) := by
  have h := s_sideOf (d := d) (μ := μ) hb (nI k)
  rw [en_N hk (by decide)] at h
  exact h
theorem s_nosB {d : Nat} {L : bc_L} {μ : bc_M} {b k : Nat} (hb : bc_isB L b) (hk : k < 6) : bc_C (d + 1) L mX0_nosesOf [.ref b, .int (nI k)] μ (fun r μ' => r = some (.int (μ (b + 2) k)) ∧ μ' = μ) := by
  have h := s_nosesOf (d := d) (μ := μ) hb (nI k)
  rw [en_N hk (by decide)] at h
  exact h
/-- what smell leaves: k ovens counted -/
def smI (c : Nat) (μ : bc_M) (lit : Int32) (k : Nat) (ν : bc_M) : Prop := sameS c μ ν ∧ ν c 13 = mA k (μ 7) lit ∧ (∀ j, j < 6 → ν (c + 4) j = mB k (μ 6) (μ 7) lit (nI j)) ∧ (∀ j, j < 6 → ν (c + 5) j = mN k (μ 6) lit (nI j))
/-- the bog's ovens lie in quarters -/
def homB (μ : bc_M) (no : Nat) : Prop := μ 3 1 = nI no ∧ no ≤ 8 ∧ ∀ o, o < no → ∃ j, j < 6 ∧ μ 6 o = nI j
def cok (c : Nat) : Prop := c = 31 ∨ c = 38
theorem cok.isC {c : Nat} (h : cok c) : bc_isC LC c := by rcases h with rfl | rfl; exact LC_c31; exact LC_c38
theorem smI.step {c : Nat} {μ ν : bc_M} {lit : Int32} {k j : Nat} (hc : cok c) (h : smI c μ lit k ν) (hj : j < 6) (ej : μ 6 k = nI j) (hb : lit >>> (nI k &&& 31) &&& 1 = 1) : smI c μ lit (k + 1) (bc_u (bc_u (bc_u ν (c + 4) j (ν (c + 4) j + μ 7 k)) (c + 5) j (ν (c + 5) j + 1)) c 13 (ν c 13 + μ 7 k)) := by
  obtain ⟨h1, h2, h3, h4⟩ := h
  have hjj : ∀ i, i < 6 → (nI j = nI i ↔ i = j) := fun i hi => by rw [bn_eqN (by omega) (by omega)]; omega
  refine ⟨((h1.u _ (by unfold scr; omega)).u _ (by unfold scr; omega)).u _ (by unfold scr; omega), ?_, fun i hi => ?_, fun i hi => ?_⟩
  · rw [bc_u_r, if_pos ⟨rfl, rfl⟩, h2]
    simp only [mA, sm, hb, if_true]
  · rw [bc_u_r, if_neg (by omega), bc_u_r, if_neg (by omega), bc_u_r]
    simp only [mB, sm, hb, ej, hjj i hi]
    by_cases e : i = j
    · subst e; simp [h3 i hi, mB]
    · simp [e, h3 i hi, mB]
  · rw [bc_u_r, if_neg (by omega), bc_u_r]
    simp only [mN, sm, hb, ej, hjj i hi]
    by_cases e : i = j
    · subst e; simp [h4 i hi, mN]
    · rw [if_neg (by omega), bc_u_r, if_neg (by omega)]; simp [e, h4 i hi, mN]
theorem smI.skip {c : Nat} {μ ν : bc_M} {lit : Int32} {k : Nat} (h : smI c μ lit k ν) (hb : ¬ lit >>> (nI k &&& 31) &&& 1 = 1) : smI c μ lit (k + 1) ν := by
  obtain ⟨h1, h2, h3, h4⟩ := h
  refine ⟨h1, ?_, fun i hi => ?_, fun i hi => ?_⟩
  · rw [h2]; simp [mA, sm, hb]
  · rw [h3 i hi]; simp [mB, sm, hb]
  · rw [h4 i hi]; simp [mN, sm, hb]
theorem s_smell {d : Nat} {μ : bc_M} {c no : Nat} (hk0 : cok c) (hh : homB μ no) (lit : Int32) : bc_C (d + 2) LC mX1_smell [.ref c, .int lit] μ (fun r ν => r = none ∧ smI c μ lit no ν) := by
  have hc := hk0.isC
  have hno := hh.2.1
  refine bc_enter (by decide) (Nat.le_of_ble_eq_true rfl) rfl ?_
  have loop : ∀ (m k : Nat) (v : Value) (ν : bc_M), k + m = no → smI c μ lit k ν → bc_W (d + 2) LC mX1_smell 21 [.ref c, .int lit, .int (nI k), v] [] ν (fun r ν => r = none ∧ smI c μ lit no ν) := by
    intro m
    induction m with
    | zero =>
      intro k v ν hk hI
      have hk : k = no := by omega
      subst hk
      have e1 : ν 3 1 = nI k := (hI.1 3 1 (by rcases hk0 with rfl | rfl <;> (unfold scr; omega))).trans hh.1
      refine bc_iload_n dX1_smell_21 rfl ?_
      refine bc_aload_n dX1_smell_22 rfl ?_
      refine bc_getr dX1_smell_23 fX1_30 (hc.1) rfl ?_
      refine bc_geti dX1_smell_26 fX1_89 (rfl) rfl ?_
      refine bc_icmp_ge (tgt := 122) dX1_smell_29 (by decide) (fun h29 => ?_) (fun h29 => absurd h29 (fun h => h (by rw [e1]; exact Int32.le_refl _)))
      exact bc_return dX1_smell_122 rfl (⟨rfl, hI⟩)
    | succ m ih =>
      intro k v ν hk hI
      have hk8 : k < 8 := by have := hh.2.1; omega
      have e1 : ν 3 1 = nI no := (hI.1 3 1 (by rcases hk0 with rfl | rfl <;> (unfold scr; omega))).trans hh.1
      obtain ⟨j, hj, ej⟩ := hh.2.2 k (by omega)
      have e2 : ν 6 k = nI j := (hI.1 6 k (by rcases hk0 with rfl | rfl <;> (unfold scr; omega))).trans ej
      have e3 : ν 7 k = μ 7 k := hI.1 7 k (by rcases hk0 with rfl | rfl <;> (unfold scr; omega))
      refine bc_iload_n dX1_smell_21 rfl ?_
      refine bc_aload_n dX1_smell_22 rfl ?_
      refine bc_getr dX1_smell_23 fX1_30 (hc.1) rfl ?_
      refine bc_geti dX1_smell_26 fX1_89 (rfl) rfl ?_
      refine bc_icmp_ge (tgt := 122) dX1_smell_29 (by decide) (fun h29 => absurd h29 (by rw [e1, bn_leN (by omega) (by omega)]; omega)) (fun h29 => ?_)
      refine bc_aload_n dX1_smell_32 rfl ?_
      refine bc_getr dX1_smell_33 fX1_30 (hc.1) rfl ?_
      refine bc_iload_n dX1_smell_36 rfl ?_
      refine bc_callV (z := mX0_quarterOf) (ci := 0) dX1_smell_37 lX1_119 qX0_quarterOf (by rfl) (by rfl) (by rfl) (by rfl) (Nat.le_of_ble_eq_true rfl) (s_entB LC_b3 hk8) (fun r37 μ37 e37 => ?_)
      obtain ⟨rfl, q37⟩ := e37
      obtain rfl := q37.symm
      rw [show ν (3 + 3) k = nI j from e2]
      refine bc_istore_n dX1_smell_40 (by decide) rfl ?_
      refine bc_iload_n dX1_smell_41 rfl ?_
      refine bc_iload_n dX1_smell_42 rfl ?_
      refine bc_ishr dX1_smell_43 ?_
      refine bc_iconst (v := 1) dX1_smell_44 (by decide) ?_
      refine bc_iand dX1_smell_45 ?_
      refine bc_iconst (v := 1) dX1_smell_46 (by decide) ?_
      refine bc_icmp_ne (tgt := 116) dX1_smell_47 (by decide) (fun h47 => ?_) (fun h47 => ?_)
      · refine bc_iinc1 dX1_smell_116 rfl (by decide) rfl ?_
        refine bc_goto (tgt := 21) dX1_smell_119 (by decide) ?_
        rw [bn_add1]
        exact ih (k + 1) (.int (nI j)) ν (by omega) (hI.skip h47)
      · refine bc_iload_n dX1_smell_50 rfl ?_
        refine bc_if_lt (tgt := 116) dX1_smell_51 (by decide) (fun h51 => absurd h51 (bn_nn (by omega))) (fun h51 => ?_)
        refine bc_iload_n dX1_smell_54 rfl ?_
        refine bc_aload_n dX1_smell_55 rfl ?_
        refine bc_getr dX1_smell_56 fX1_21 (hc.1) rfl ?_
        refine bc_len0 dX1_smell_59 (hc.2.2.2.2.1) ?_
        refine bc_icmp_ge (tgt := 116) dX1_smell_60 (by decide) (fun h60 => absurd h60 (by rw [bn_leN (by omega) (by omega)]; omega)) (fun h60 => ?_)
        refine bc_iload_n dX1_smell_63 rfl ?_
        refine bc_aload_n dX1_smell_64 rfl ?_
        refine bc_getr dX1_smell_65 fX1_24 (hc.1) rfl ?_
        refine bc_len0 dX1_smell_68 (hc.2.2.2.2.2.1) ?_
        refine bc_icmp_ge (tgt := 116) dX1_smell_69 (by decide) (fun h69 => absurd h69 (by rw [bn_leN (by omega) (by omega)]; omega)) (fun h69 => ?_)
        refine bc_aload_n dX1_smell_72 rfl ?_
        refine bc_getr dX1_smell_73 fX1_21 (hc.1) rfl ?_
        refine bc_iload_n dX1_smell_76 rfl ?_
        refine bc_dup2 dX1_smell_77 rfl rfl ?_
        refine bc_ialdE dX1_smell_78 (hc.2.2.2.2.1) (rfl) (⟨hj, by decide⟩) ?_
        refine bc_aload_n dX1_smell_79 rfl ?_
        refine bc_getr dX1_smell_80 fX1_30 (hc.1) rfl ?_
        refine bc_iload_n dX1_smell_83 rfl ?_
        refine bc_callV (z := mX0_strongOf) (ci := 0) dX1_smell_84 lX1_122 qX0_strongOf (by rfl) (by rfl) (by rfl) (by rfl) (Nat.le_of_ble_eq_true rfl) (s_strB LC_b3 hk8) (fun r84 μ84 e84 => ?_)
        obtain ⟨rfl, q84⟩ := e84
        obtain rfl := q84.symm
        refine bc_iadd dX1_smell_87 ?_
        refine bc_iastE dX1_smell_88 (hc.2.2.2.2.1) (rfl) (⟨hj, by decide⟩) ?_
        refine bc_aload_n dX1_smell_89 rfl ?_
        refine bc_getr dX1_smell_90 fX1_24 (hc.1) rfl ?_
        refine bc_iload_n dX1_smell_93 rfl ?_
        refine bc_dup2 dX1_smell_94 rfl rfl ?_
        refine bc_ialdE dX1_smell_95 (hc.2.2.2.2.2.1) (rfl) (⟨hj, by decide⟩) ?_
        refine bc_iconst (v := 1) dX1_smell_96 (by decide) ?_
        refine bc_iadd dX1_smell_97 ?_
        refine bc_iastE dX1_smell_98 (hc.2.2.2.2.2.1) (rfl) (⟨hj, by decide⟩) ?_
        refine bc_aload_n dX1_smell_99 rfl ?_
        refine bc_dup dX1_smell_100 rfl ?_
        refine bc_geti dX1_smell_101 fX1_116 (hc.1) rfl ?_
        refine bc_aload_n dX1_smell_104 rfl ?_
        refine bc_getr dX1_smell_105 fX1_30 (hc.1) rfl ?_
        refine bc_iload_n dX1_smell_108 rfl ?_
        refine bc_callV (z := mX0_strongOf) (ci := 0) dX1_smell_109 lX1_122 qX0_strongOf (by rfl) (by rfl) (by rfl) (by rfl) (Nat.le_of_ble_eq_true rfl) (s_strB LC_b3 hk8) (fun r109 μ109 e109 => ?_)
        obtain ⟨rfl, q109⟩ := e109
        obtain rfl := q109.symm
        refine bc_iadd dX1_smell_112 ?_
        refine bc_put dX1_smell_113 fX1_116 ftX1 fpX1_13 rfl rfl (hc.1) rfl ?_
        refine bc_iinc1 dX1_smell_116 rfl (by decide) rfl ?_
        refine bc_goto (tgt := 21) dX1_smell_119 (by decide) ?_
        have h2 := ih (k + 1) (.int (nI j)) _ (by omega) (hI.step hk0 hj ej h47)
        rw [bn_add1]
        have r1 : bc_u ν (c + 4) j (ν (c + 4) j + ν (3 + 4) k) (c + 5) j = ν (c + 5) j := by rw [bc_u_r, if_neg (by omega)]
        have r2 : (bc_u (bc_u ν (c + 4) j (ν (c + 4) j + ν (3 + 4) k)) (c + 5) j (bc_u ν (c + 4) j (ν (c + 4) j + ν (3 + 4) k) (c + 5) j + 1)) c 13 = ν c 13 := by rw [bc_u_r, if_neg (by omega), bc_u_r, if_neg (by omega)]
        have r3 : (bc_u (bc_u ν (c + 4) j (ν (c + 4) j + ν (3 + 4) k)) (c + 5) j (bc_u ν (c + 4) j (ν (c + 4) j + ν (3 + 4) k) (c + 5) j + 1)) (3 + 4) k = ν 7 k := by rcases hk0 with rfl | rfl <;> rfl
        rw [r2, r3, r1, show ν (3 + 4) k = μ 7 k from e3]
        exact h2
  refine bc_aload_n dX1_smell_0 rfl ?_
  refine bc_getr dX1_smell_1 fX1_21 (hc.1) rfl ?_
  refine bc_callSN (z := mX9_clearRow) dX1_smell_4 lX1_71 qX9_clearRow (by rfl) (by rfl) (Nat.le_of_ble_eq_true rfl) (s_clearRow hc.2.2.2.2.1 (by decide)) (fun r4 μ4 e4 => ?_)
  obtain ⟨rfl, q4⟩ := e4
  obtain rfl := q4.symm
  refine bc_aload_n dX1_smell_7 rfl ?_
  refine bc_getr dX1_smell_8 fX1_24 (hc.1) rfl ?_
  refine bc_callSN (z := mX9_clearRow) dX1_smell_11 lX1_71 qX9_clearRow (by rfl) (by rfl) (Nat.le_of_ble_eq_true rfl) (s_clearRow hc.2.2.2.2.2.1 (by decide)) (fun r11 μ11 e11 => ?_)
  obtain ⟨rfl, q11⟩ := e11
  obtain rfl := q11.symm
  refine bc_aload_n dX1_smell_14 rfl ?_
  refine bc_iconst (v := 0) dX1_smell_15 (by decide) ?_
  refine bc_put dX1_smell_16 fX1_116 ftX1 fpX1_13 rfl rfl (hc.1) rfl ?_
  refine bc_iconst (v := 0) dX1_smell_19 (by decide) ?_
  refine bc_istore_n dX1_smell_20 (by decide) rfl ?_
  refine loop no 0 .null _ (by omega) ⟨((sameS.rf c μ).us _ (fun k => by unfold scr; omega)).us _ (fun k => by unfold scr; omega) |>.u _ (by unfold scr; omega), ?_, fun j hj => ?_, fun j hj => ?_⟩
  · rw [bc_u_r, if_pos ⟨rfl, rfl⟩]; rfl
  · rw [bc_u_r, if_neg (by omega), bc_us_r, if_neg (by omega), bc_us_r, if_pos rfl, clr, if_pos hj]; rfl
  · rw [bc_u_r, if_neg (by omega), bc_us_r, if_pos rfl, clr, if_pos hj]; rfl
theorem s_leanOf {d : Nat} {μ : bc_M} {c n k : Nat} (hk0 : cok c) (hk : k < 6) (hn : μ 19 1 = nI n) (hw : wfS (μ 20) n) (h : Int32) : bc_C (d + 3) LC mX1_leanOf [.ref c, .int (nI k), .int h] μ (fun r μ' => r = some (.int (lawV (μ 20) n (fcs (μ (c + 4) k) (half (μ 5 k) (μ c 7 >>> (nI k &&& 31) &&& 1)) (μ (c + 5) k) (μ c 13 - μ (c + 4) k) (μ (c + 3) k) (μ 4 k) h))) ∧ ∃ f g, μ' = bc_us (bc_us μ 23 g) 22 f) := by
  have hc := hk0.isC
  refine bc_enter (by decide) (Nat.le_of_ble_eq_true rfl) rfl ?_
  refine bc_aload_n dX1_leanOf_0 rfl ?_
  refine bc_iload_n dX1_leanOf_1 rfl ?_
  refine bc_callV (z := mX1_breadOf) (ci := 1) dX1_leanOf_2 lX1_125 qX1_breadOf (hc.1) (by rfl) (by rfl) (by rfl) (Nat.le_of_ble_eq_true rfl) (s_breadOf hc (nI k)) (fun r2 μ2 e2 => ?_)
  obtain ⟨rfl, q2⟩ := e2
  obtain rfl := q2.symm
  rw [en_N hk (by decide)]
  refine bc_istore_n dX1_leanOf_5 (by decide) rfl ?_
  refine bc_aload_n dX1_leanOf_6 rfl ?_
  refine bc_getr dX1_leanOf_7 fX1_30 (hc.1) rfl ?_
  refine bc_iload_n dX1_leanOf_10 rfl ?_
  refine bc_callV (z := mX0_nosesOf) (ci := 0) dX1_leanOf_11 lX1_128 qX0_nosesOf (by rfl) (by rfl) (by rfl) (by rfl) (Nat.le_of_ble_eq_true rfl) (s_nosB LC_b3 hk) (fun r11 μ11 e11 => ?_)
  obtain ⟨rfl, q11⟩ := e11
  obtain rfl := q11.symm
  refine bc_istore dX1_leanOf_14 (by decide) rfl ?_
  refine bc_aload_n dX1_leanOf_16 rfl ?_
  refine bc_iload_n dX1_leanOf_17 rfl ?_
  refine bc_callV (z := mX1_coldOf) (ci := 1) dX1_leanOf_18 lX1_131 qX1_coldOf (hc.1) (by rfl) (by rfl) (by rfl) (Nat.le_of_ble_eq_true rfl) (s_coldOf hc (nI k)) (fun r18 μ18 e18 => ?_)
  obtain ⟨rfl, q18⟩ := e18
  obtain rfl := q18.symm
  refine bc_iconst (v := 1) dX1_leanOf_21 (by decide) ?_
  refine bc_icmp_ne (tgt := 31) dX1_leanOf_22 (by decide) (fun h22 => ?_) (fun h22 => ?_)
  · refine bc_aload_n dX1_leanOf_31 rfl ?_
    refine bc_getr dX1_leanOf_32 fX1_34 (hc.1) rfl ?_
    refine bc_iload_n dX1_leanOf_35 rfl ?_
    refine bc_iload dX1_leanOf_36 rfl ?_
    refine bc_aload_n dX1_leanOf_38 rfl ?_
    refine bc_getr dX1_leanOf_39 fX1_24 (hc.1) rfl ?_
    refine bc_iload_n dX1_leanOf_42 rfl ?_
    refine bc_callSN (z := mX9_entry) dX1_leanOf_43 lX1_85 qX9_entry (by rfl) (by rfl) (Nat.le_of_ble_eq_true rfl) (s_entryN hc.2.2.2.2.2.1 (by decide) hk) (fun r43 μ43 e43 => ?_)
    obtain ⟨rfl, q43⟩ := e43
    obtain rfl := q43.symm
    refine bc_aload_n dX1_leanOf_46 rfl ?_
    refine bc_geti dX1_leanOf_47 fX1_116 (hc.1) rfl ?_
    refine bc_iload_n dX1_leanOf_50 rfl ?_
    refine bc_isub dX1_leanOf_51 ?_
    refine bc_aload_n dX1_leanOf_52 rfl ?_
    refine bc_iload_n dX1_leanOf_53 rfl ?_
    refine bc_callV (z := mX1_onionsOf) (ci := 1) dX1_leanOf_54 lX1_103 qX1_onionsOf (hc.1) (by rfl) (by rfl) (by rfl) (Nat.le_of_ble_eq_true rfl) (s_onionsOf hc (nI k)) (fun r54 μ54 e54 => ?_)
    obtain ⟨rfl, q54⟩ := e54
    obtain rfl := q54.symm
    rw [en_N hk (by decide)]
    refine bc_aload_n dX1_leanOf_57 rfl ?_
    refine bc_getr dX1_leanOf_58 fX1_30 (hc.1) rfl ?_
    refine bc_iload_n dX1_leanOf_61 rfl ?_
    refine bc_callV (z := mX0_sideOf) (ci := 0) dX1_leanOf_62 lX1_134 qX0_sideOf (by rfl) (by rfl) (by rfl) (by rfl) (Nat.le_of_ble_eq_true rfl) (s_sidB LC_b3 hk) (fun r62 μ62 e62 => ?_)
    obtain ⟨rfl, q62⟩ := e62
    obtain rfl := q62.symm
    refine bc_iload_n dX1_leanOf_65 rfl ?_
    refine bc_callV (z := mX2_lean) (ci := 2) dX1_leanOf_66 lX1_137 qX2_lean (by rfl) (by rfl) (by rfl) (by rfl) (Nat.le_of_ble_eq_true rfl) (s_lean hn hw _ _ _ _ _ _ _) (fun r66 μ66 e66 => ?_)
    obtain ⟨rfl, f9, g9, rfl⟩ := e66
    exact bc_ireturn dX1_leanOf_69 rfl rfl (⟨by rw [half, if_neg h22], _, _, rfl⟩)
  · refine bc_iload dX1_leanOf_25 rfl ?_
    refine bc_iconst (v := 2) dX1_leanOf_27 (by decide) ?_
    refine bc_idiv dX1_leanOf_28 (by decide) ?_
    refine bc_istore dX1_leanOf_29 (by decide) rfl ?_
    refine bc_aload_n dX1_leanOf_31 rfl ?_
    refine bc_getr dX1_leanOf_32 fX1_34 (hc.1) rfl ?_
    refine bc_iload_n dX1_leanOf_35 rfl ?_
    refine bc_iload dX1_leanOf_36 rfl ?_
    refine bc_aload_n dX1_leanOf_38 rfl ?_
    refine bc_getr dX1_leanOf_39 fX1_24 (hc.1) rfl ?_
    refine bc_iload_n dX1_leanOf_42 rfl ?_
    refine bc_callSN (z := mX9_entry) dX1_leanOf_43 lX1_85 qX9_entry (by rfl) (by rfl) (Nat.le_of_ble_eq_true rfl) (s_entryN hc.2.2.2.2.2.1 (by decide) hk) (fun r43 μ43 e43 => ?_)
    obtain ⟨rfl, q43⟩ := e43
    obtain rfl := q43.symm
    refine bc_aload_n dX1_leanOf_46 rfl ?_
    refine bc_geti dX1_leanOf_47 fX1_116 (hc.1) rfl ?_
    refine bc_iload_n dX1_leanOf_50 rfl ?_
    refine bc_isub dX1_leanOf_51 ?_
    refine bc_aload_n dX1_leanOf_52 rfl ?_
    refine bc_iload_n dX1_leanOf_53 rfl ?_
    refine bc_callV (z := mX1_onionsOf) (ci := 1) dX1_leanOf_54 lX1_103 qX1_onionsOf (hc.1) (by rfl) (by rfl) (by rfl) (Nat.le_of_ble_eq_true rfl) (s_onionsOf hc (nI k)) (fun r54 μ54 e54 => ?_)
    obtain ⟨rfl, q54⟩ := e54
    obtain rfl := q54.symm
    rw [en_N hk (by decide)]
    refine bc_aload_n dX1_leanOf_57 rfl ?_
    refine bc_getr dX1_leanOf_58 fX1_30 (hc.1) rfl ?_
    refine bc_iload_n dX1_leanOf_61 rfl ?_
    refine bc_callV (z := mX0_sideOf) (ci := 0) dX1_leanOf_62 lX1_134 qX0_sideOf (by rfl) (by rfl) (by rfl) (by rfl) (Nat.le_of_ble_eq_true rfl) (s_sidB LC_b3 hk) (fun r62 μ62 e62 => ?_)
    obtain ⟨rfl, q62⟩ := e62
    obtain rfl := q62.symm
    refine bc_iload_n dX1_leanOf_65 rfl ?_
    refine bc_callV (z := mX2_lean) (ci := 2) dX1_leanOf_66 lX1_137 qX2_lean (by rfl) (by rfl) (by rfl) (by rfl) (Nat.le_of_ble_eq_true rfl) (s_lean hn hw _ _ _ _ _ _ _) (fun r66 μ66 e66 => ?_)
    obtain ⟨rfl, f9, g9, rfl⟩ := e66
    exact bc_ireturn dX1_leanOf_69 rfl rfl (⟨by rw [half, if_pos h22], _, _, rfl⟩)
theorem s_pace {d : Nat} {L : bc_L} {μ : bc_M} (v : Int32) : bc_C (d + 1) L mX1_pace [.int v] μ (fun r μ' => r = some (.int (pc3 (v / 10))) ∧ μ' = μ) := by
  refine bc_enter (by decide) (Nat.le_of_ble_eq_true rfl) rfl ?_
  refine bc_bipush (v := (-3)) dX1_pace_0 (by decide) ?_
  refine bc_iconst (v := 3) dX1_pace_2 (by decide) ?_
  refine bc_iload_n dX1_pace_3 rfl ?_
  refine bc_bipush (v := 10) dX1_pace_4 (by decide) ?_
  refine bc_idiv dX1_pace_6 (by decide) ?_
  refine bc_min dX1_pace_7 wX1_166 (Nat.le_of_ble_eq_true rfl) ?_
  refine bc_max dX1_pace_10 wX1_171 (Nat.le_of_ble_eq_true rfl) ?_
  exact bc_ireturn dX1_pace_13 rfl rfl (⟨rfl, rfl⟩)
/-- the bog's quarters look to a side -/
def sidB (μ : bc_M) (nq : Nat) : Prop := μ 3 0 = nI nq ∧ nq ≤ 6 ∧ ∀ q, q < nq → ∃ j, j < 4 ∧ μ 4 q = nI j
def lawB (μ : bc_M) (n : Nat) : Prop := μ 19 1 = nI n ∧ wfS (μ 20) n
def rkI (c n no : Nat) (μ : bc_M) (lit h : Int32) (k : Nat) (ν : bc_M) : Prop := smI c μ lit no ν ∧ ∀ j, j < 4 → ν (c + 6) j = mS μ c n no lit h j k
theorem smI.off {c : Nat} {μ ν ξ : bc_M} {lit : Int32} {no : Nat} (h : smI c μ lit no ν) (hx : ∀ i k, i ≠ 22 → i ≠ 23 → i ≠ c + 6 → ξ i k = ν i k) (hc : cok c) : smI c μ lit no ξ := by
  obtain ⟨h1, h2, h3, h4⟩ := h
  rcases hc with rfl | rfl <;>
  refine ⟨fun i k q => (hx i k (fun e => q (Or.inl e)) (fun e => q (Or.inr (Or.inl e))) (fun e => q (by unfold scr; omega))).trans (h1 i k q), (hx _ _ (by decide) (by decide) (by decide)).trans h2, fun j hj => (hx _ _ (by decide) (by decide) (by decide)).trans (h3 j hj), fun j hj => (hx _ _ (by decide) (by decide) (by decide)).trans (h4 j hj)⟩
theorem rkI.step {c n no : Nat} {μ ν : bc_M} {lit h : Int32} {k j : Nat} {f g : Nat → Int32} (hc : cok c) (hI : rkI c n no μ lit h k ν) (hj : j < 4) (ej : μ 4 k = nI j) : rkI c n no μ lit h (k + 1) (bc_u (bc_us (bc_us ν 23 g) 22 f) (c + 6) j (ν (c + 6) j + mL μ c n no lit h k)) := by
  have hjj : ∀ i, i < 4 → (nI j = nI i ↔ i = j) := fun i hi => by rw [bn_eqN (by omega) (by omega)]; omega
  refine ⟨hI.1.off (fun i k q1 q2 q3 => ?_) hc, fun i hi => ?_⟩
  · rw [bc_u_r, if_neg (by omega), bc_us_r, if_neg q1, bc_us_r, if_neg q2]
  · have e1 : bc_us (bc_us ν 23 g) 22 f (c + 6) i = ν (c + 6) i := by
      rw [bc_us_r, if_neg (by rcases hc with rfl | rfl <;> decide), bc_us_r, if_neg (by rcases hc with rfl | rfl <;> decide)]
    rw [bc_u_r, e1]
    simp only [mS, sm, ej, hjj i hi]
    by_cases e : i = j
    · subst e; simp [hI.2 i hi, mS]
    · simp [e, hI.2 i hi, mS]
theorem rkI.val {c n no : Nat} {μ ν : bc_M} {lit h : Int32} {k : Nat} (hc : cok c) (hI : smI c μ lit no ν) (hk : k < 6) : lawV (ν 20) n (fcs (ν (c + 4) k) (half (ν 5 k) (ν c 7 >>> (nI k &&& 31) &&& 1)) (ν (c + 5) k) (ν c 13 - ν (c + 4) k) (ν (c + 3) k) (ν 4 k) h) = mL μ c n no lit h k := by
  have g0 : ν 20 = μ 20 := funext fun q => hI.1 20 q (by rcases hc with rfl | rfl <;> (unfold scr; omega))
  have g1 : ν 5 k = μ 5 k := hI.1 5 k (by rcases hc with rfl | rfl <;> (unfold scr; omega))
  have g2 : ν c 7 = μ c 7 := hI.1 c 7 (by rcases hc with rfl | rfl <;> (unfold scr; omega))
  have g3 : ν (c + 3) k = μ (c + 3) k := hI.1 (c + 3) k (by rcases hc with rfl | rfl <;> (unfold scr; omega))
  have g4 : ν 4 k = μ 4 k := hI.1 4 k (by rcases hc with rfl | rfl <;> (unfold scr; omega))
  rw [g0, g1, g2, g3, g4, hI.2.1, hI.2.2.1 k hk, hI.2.2.2 k hk, mL]
theorem s_reckon {d : Nat} {μ : bc_M} {c n no nq : Nat} (hk0 : cok c) (hh : homB μ no) (hs : sidB μ nq) (hl : lawB μ n) (lit h : Int32) : bc_C (d + 4) LC mX1_reckon [.ref c, .int lit, .int h] μ (fun r ν => r = none ∧ sameS c μ ν ∧ (∀ j, j < 4 → ν (c + 6) j = mS μ c n no lit h j nq) ∧ ν c 15 = pc3 ((mS μ c n no lit h 1 nq - mS μ c n no lit h 3 nq) / 10) ∧ ν c 16 = pc3 ((mS μ c n no lit h 0 nq - mS μ c n no lit h 2 nq) / 10)) := by
  have hc := hk0.isC
  have hnq := hs.2.1
  refine bc_enter (by decide) (Nat.le_of_ble_eq_true rfl) rfl ?_
  have loop : ∀ (m k : Nat) (v : Value) (ν : bc_M), k + m = nq → rkI c n no μ lit h k ν → bc_W (d + 4) LC mX1_reckon 14 [.ref c, .int lit, .int h, .int (nI k), v] [] ν (fun r ν => r = none ∧ sameS c μ ν ∧ (∀ j, j < 4 → ν (c + 6) j = mS μ c n no lit h j nq) ∧ ν c 15 = pc3 ((mS μ c n no lit h 1 nq - mS μ c n no lit h 3 nq) / 10) ∧ ν c 16 = pc3 ((mS μ c n no lit h 0 nq - mS μ c n no lit h 2 nq) / 10)) := by
    intro m
    induction m with
    | zero =>
      intro k v ν hk hI
      have hk : k = nq := by omega
      subst hk
      have e1 : ν 3 0 = nI k := (hI.1.1 3 0 (by rcases hk0 with rfl | rfl <;> (unfold scr; omega))).trans hs.1
      have r0 : ∀ (j : Nat) (ξ : bc_M), j < 4 → (∀ q, ξ (c + 6) q = ν (c + 6) q) → en ξ (c + 5 + 1) 4 (nI j) = mS μ c n no lit h j k := fun j ξ hj hx => by rw [en_N hj (by decide)]; exact (hx j).trans (hI.2 j hj)
      refine bc_iload_n dX1_reckon_14 rfl ?_
      refine bc_aload_n dX1_reckon_15 rfl ?_
      refine bc_getr dX1_reckon_16 fX1_30 (hc.1) rfl ?_
      refine bc_geti dX1_reckon_19 fX1_147 (rfl) rfl ?_
      refine bc_icmp_ge (tgt := 72) dX1_reckon_22 (by decide) (fun h22 => ?_) (fun h22 => absurd h22 (fun h => h (by rw [e1]; exact Int32.le_refl _)))
      refine bc_aload_n dX1_reckon_72 rfl ?_
      refine bc_aload_n dX1_reckon_73 rfl ?_
      refine bc_iconst (v := 1) dX1_reckon_74 (by decide) ?_
      refine bc_callV (z := mX1_leansTo) (ci := 1) dX1_reckon_75 lX1_154 qX1_leansTo (hc.1) (by rfl) (by rfl) (by rfl) (Nat.le_of_ble_eq_true rfl) (s_leansTo hc 1) (fun r75 μ75 e75 => ?_)
      obtain ⟨rfl, q75⟩ := e75
      obtain rfl := q75.symm
      refine bc_aload_n dX1_reckon_78 rfl ?_
      refine bc_iconst (v := 3) dX1_reckon_79 (by decide) ?_
      refine bc_callV (z := mX1_leansTo) (ci := 1) dX1_reckon_80 lX1_154 qX1_leansTo (hc.1) (by rfl) (by rfl) (by rfl) (Nat.le_of_ble_eq_true rfl) (s_leansTo hc 3) (fun r80 μ80 e80 => ?_)
      obtain ⟨rfl, q80⟩ := e80
      obtain rfl := q80.symm
      refine bc_isub dX1_reckon_83 ?_
      refine bc_callS (z := mX1_pace) dX1_reckon_84 lX1_157 qX1_pace (by rfl) (by rfl) (Nat.le_of_ble_eq_true rfl) (s_pace _) (fun r84 μ84 e84 => ?_)
      obtain ⟨rfl, q84⟩ := e84
      obtain rfl := q84.symm
      refine bc_put dX1_reckon_87 fX1_160 ftX1 fpX1_15 rfl rfl (hc.1) rfl ?_
      refine bc_aload_n dX1_reckon_90 rfl ?_
      refine bc_aload_n dX1_reckon_91 rfl ?_
      refine bc_iconst (v := 0) dX1_reckon_92 (by decide) ?_
      refine bc_callV (z := mX1_leansTo) (ci := 1) dX1_reckon_93 lX1_154 qX1_leansTo (hc.1) (by rfl) (by rfl) (by rfl) (Nat.le_of_ble_eq_true rfl) (s_leansTo hc 0) (fun r93 μ93 e93 => ?_)
      obtain ⟨rfl, q93⟩ := e93
      obtain rfl := q93.symm
      refine bc_aload_n dX1_reckon_96 rfl ?_
      refine bc_iconst (v := 2) dX1_reckon_97 (by decide) ?_
      refine bc_callV (z := mX1_leansTo) (ci := 1) dX1_reckon_98 lX1_154 qX1_leansTo (hc.1) (by rfl) (by rfl) (by rfl) (Nat.le_of_ble_eq_true rfl) (s_leansTo hc 2) (fun r98 μ98 e98 => ?_)
      obtain ⟨rfl, q98⟩ := e98
      obtain rfl := q98.symm
      refine bc_isub dX1_reckon_101 ?_
      refine bc_callS (z := mX1_pace) dX1_reckon_102 lX1_157 qX1_pace (by rfl) (by rfl) (Nat.le_of_ble_eq_true rfl) (s_pace _) (fun r102 μ102 e102 => ?_)
      obtain ⟨rfl, q102⟩ := e102
      obtain rfl := q102.symm
      refine bc_put dX1_reckon_105 fX1_163 ftX1 fpX1_16 rfl rfl (hc.1) rfl ?_
      exact bc_return dX1_reckon_108 rfl (⟨rfl, (hI.1.1.u _ (by unfold scr; omega)).u _ (by unfold scr; omega), fun j hj => by rw [bc_u_r, if_neg (by omega), bc_u_r, if_neg (by omega)]; exact hI.2 j hj, by rw [bc_u_r, if_neg (by omega), bc_u_r, if_pos ⟨rfl, rfl⟩]; exact congrArg (fun z => pc3 (z / 10)) (congr (congrArg HSub.hSub (r0 1 _ (by omega) (fun _ => rfl))) (r0 3 _ (by omega) (fun _ => rfl))), by rw [bc_u_r, if_pos ⟨rfl, rfl⟩]; exact congrArg (fun z => pc3 (z / 10)) (congr (congrArg HSub.hSub (r0 0 _ (by omega) (fun q => by rw [bc_u_r, if_neg (by omega)]))) (r0 2 _ (by omega) (fun q => by rw [bc_u_r, if_neg (by omega)])))⟩)
    | succ m ih =>
      intro k v ν hk hI
      have hk6 : k < 6 := by omega
      have e1 : ν 3 0 = nI nq := (hI.1.1 3 0 (by rcases hk0 with rfl | rfl <;> (unfold scr; omega))).trans hs.1
      obtain ⟨j, hj, ej⟩ := hs.2.2 k (by omega)
      have e2 : ν 4 k = nI j := (hI.1.1 4 k (by rcases hk0 with rfl | rfl <;> (unfold scr; omega))).trans ej
      have e3 : ν 19 1 = nI n := (hI.1.1 19 1 (by rcases hk0 with rfl | rfl <;> (unfold scr; omega))).trans hl.1
      have e4 : ν 20 = μ 20 := funext fun q => hI.1.1 20 q (by rcases hk0 with rfl | rfl <;> (unfold scr; omega))
      refine bc_iload_n dX1_reckon_14 rfl ?_
      refine bc_aload_n dX1_reckon_15 rfl ?_
      refine bc_getr dX1_reckon_16 fX1_30 (hc.1) rfl ?_
      refine bc_geti dX1_reckon_19 fX1_147 (rfl) rfl ?_
      refine bc_icmp_ge (tgt := 72) dX1_reckon_22 (by decide) (fun h22 => absurd h22 (by rw [e1, bn_leN (by omega) (by omega)]; omega)) (fun h22 => ?_)
      refine bc_aload_n dX1_reckon_25 rfl ?_
      refine bc_getr dX1_reckon_26 fX1_30 (hc.1) rfl ?_
      refine bc_iload_n dX1_reckon_29 rfl ?_
      refine bc_callV (z := mX0_sideOf) (ci := 0) dX1_reckon_30 lX1_134 qX0_sideOf (by rfl) (by rfl) (by rfl) (by rfl) (Nat.le_of_ble_eq_true rfl) (s_sidB LC_b3 hk6) (fun r30 μ30 e30 => ?_)
      obtain ⟨rfl, q30⟩ := e30
      obtain rfl := q30.symm
      rw [show ν (3 + 1) k = nI j from e2]
      refine bc_istore dX1_reckon_33 (by decide) rfl ?_
      refine bc_iload dX1_reckon_35 rfl ?_
      refine bc_if_lt (tgt := 66) dX1_reckon_37 (by decide) (fun h37 => absurd h37 (bn_nn (by omega))) (fun h37 => ?_)
      refine bc_iload dX1_reckon_40 rfl ?_
      refine bc_aload_n dX1_reckon_42 rfl ?_
      refine bc_getr dX1_reckon_43 fX1_27 (hc.1) rfl ?_
      refine bc_len0 dX1_reckon_46 (hc.2.2.2.2.2.2) ?_
      refine bc_icmp_ge (tgt := 66) dX1_reckon_47 (by decide) (fun h47 => absurd h47 (by rw [bn_leN (by omega) (by omega)]; omega)) (fun h47 => ?_)
      refine bc_aload_n dX1_reckon_50 rfl ?_
      refine bc_getr dX1_reckon_51 fX1_27 (hc.1) rfl ?_
      refine bc_iload dX1_reckon_54 rfl ?_
      refine bc_dup2 dX1_reckon_56 rfl rfl ?_
      refine bc_ialdE dX1_reckon_57 (hc.2.2.2.2.2.2) (rfl) (⟨hj, by decide⟩) ?_
      refine bc_aload_n dX1_reckon_58 rfl ?_
      refine bc_iload_n dX1_reckon_59 rfl ?_
      refine bc_iload_n dX1_reckon_60 rfl ?_
      refine bc_callV (z := mX1_leanOf) (ci := 1) dX1_reckon_61 lX1_150 qX1_leanOf (hc.1) (by rfl) (by rfl) (by rfl) (Nat.le_of_ble_eq_true rfl) (s_leanOf hk0 hk6 e3 (by rw [e4]; exact hl.2) h) (fun r61 μ61 e61 => ?_)
      obtain ⟨rfl, f9, g9, rfl⟩ := e61
      refine bc_iadd dX1_reckon_64 ?_
      refine bc_iastE dX1_reckon_65 (hc.2.2.2.2.2.2) (rfl) (⟨hj, by decide⟩) ?_
      refine bc_iinc1 dX1_reckon_66 rfl (by decide) rfl ?_
      refine bc_goto (tgt := 14) dX1_reckon_69 (by decide) ?_
      have h2 := ih (k + 1) (.int (nI j)) _ (by omega) (hI.step (f := f9) (g := g9) hk0 hj ej)
      rw [bn_add1, rkI.val hk0 hI.1 hk6]
      exact h2
  refine bc_aload_n dX1_reckon_0 rfl ?_
  refine bc_iload_n dX1_reckon_1 rfl ?_
  refine bc_callV (z := mX1_smell) (ci := 1) dX1_reckon_2 lX1_143 qX1_smell (hc.1) (by rfl) (by rfl) (by rfl) (Nat.le_of_ble_eq_true rfl) (s_smell hk0 hh lit) (fun r2 μ2 e2 => ?_)
  obtain ⟨rfl, hI0⟩ := e2
  refine bc_aload_n dX1_reckon_5 rfl ?_
  refine bc_getr dX1_reckon_6 fX1_27 (hc.1) rfl ?_
  refine bc_callSN (z := mX9_clearRow) dX1_reckon_9 lX1_71 qX9_clearRow (by rfl) (by rfl) (Nat.le_of_ble_eq_true rfl) (s_clearRow hc.2.2.2.2.2.2 (by decide)) (fun r9 μ9 e9 => ?_)
  obtain ⟨rfl, q9⟩ := e9
  obtain rfl := q9.symm
  refine bc_iconst (v := 0) dX1_reckon_12 (by decide) ?_
  refine bc_istore_n dX1_reckon_13 (by decide) rfl ?_
  refine loop nq 0 .null _ (by omega) ⟨hI0.off (fun i k q1 q2 q3 => by rw [bc_us_r, if_neg q3]) hk0, fun j hj => ?_⟩
  rw [bc_us_r, if_pos rfl, clr, if_pos hj]
  rfl
