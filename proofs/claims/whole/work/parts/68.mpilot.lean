/-! the reference: which ovens it was -/
def pcS (s : Nat) : Nat → Nat
  | 0 => 0
  | k + 1 => pcS s k + (if bt (nI s) k = true then 1 else 0)
theorem pc_pop : ∀ b, b ≤ 8 → ∀ s, s < 2 ^ b → pop8 s = pcS s b := by decide +kernel
theorem bt_hi : ∀ b, b ≤ 8 → ∀ s, s < 2 ^ b → ∀ i, i < 32 → b ≤ i → bt (nI s) i = false := by decide +kernel
theorem pc_le (s : Nat) : ∀ k, pcS s k ≤ k := by
  intro k
  induction k with
  | zero => exact Nat.le_refl 0
  | succ k ih => rw [pcS]; split <;> omega
def laM (A : Row) (s : Nat) : Nat → Bool × Row
  | 0 => (true, A)
  | k + 1 => if (laM A s k).1 = true then (if bt (nI s) k = true then (!decide (0 < (laM A s k).2 (k + 6) ∨ ¬ 0 < (laM A s k).2 3), liR (laM A s k).2 k) else laM A s k) else laM A s k
/-- the row when the set has been lit -/
def laR (A : Row) (s k : Nat) : Row := fun j => if 6 ≤ j ∧ j < 14 then (if j - 6 < k ∧ bt (nI s) (j - 6) = true then 4 else A j) else if 14 ≤ j ∧ j < 22 then (if j - 14 < k ∧ bt (nI s) (j - 14) = true then A j + 1 else A j) else if j = 3 then A 3 - nI (pcS s k) else A j
section T68p
variable {M : bc_M} {n no nq : Nat} {A : Row}
theorem laR_hl {s k o : Nat} (h : o < 8) : laR A s k (o + 6) = if o < k ∧ bt (nI s) o = true then 4 else A (o + 6) := by
  unfold laR
  rw [if_pos (by omega), Nat.add_sub_cancel]
theorem laR_tl {s k o : Nat} (h : o < 8) : laR A s k (o + 14) = if o < k ∧ bt (nI s) o = true then A (o + 14) + 1 else A (o + 14) := by
  unfold laR
  rw [if_neg (by omega), if_pos (by omega), Nat.add_sub_cancel]
theorem laR_3 {s k : Nat} : laR A s k 3 = A 3 - nI (pcS s k) := by
  unfold laR
  rw [if_neg (by omega), if_neg (by omega), if_pos rfl]
theorem laR_o {s k j : Nat} (h : j < 3 ∨ j = 4 ∨ j = 5 ∨ 22 ≤ j) : laR A s k j = A j := by
  unfold laR
  rw [if_neg (by omega), if_neg (by omega), if_neg (by omega)]
theorem fl_sub (hF : 0 ≤ (A 3).toInt ∧ (A 3).toInt ≤ 99) {p : Nat} (hp : p ≤ 8) : (A 3 - nI p).toInt = (A 3).toInt - p := by
  rw [Int32.toInt_sub, bn_ti (by omega), Int.bmod_eq_of_le (by omega) (by omega)]
theorem la_ok (hF : 0 ≤ (A 3).toInt ∧ (A 3).toInt ≤ 99) (s : Nat) : ∀ k, k ≤ 8 → ((laM A s k).1 = true ↔ (∀ o, o < k → bt (nI s) o = true → ¬ 0 < A (o + 6)) ∧ (pcS s k : Int) ≤ (A 3).toInt) ∧ ((laM A s k).1 = true → (laM A s k).2 = laR A s k) := by
  intro k
  induction k with
  | zero =>
    intro _
    refine ⟨⟨fun _ => ⟨fun o ho => absurd ho (by omega), by show (0 : Int) ≤ _; exact hF.1⟩, fun _ => rfl⟩, fun _ => ?_⟩
    show A = laR A s 0
    funext j
    unfold laR
    split
    · rw [if_neg (by omega)]
    · split
      · rw [if_neg (by omega)]
      · split
        · rename_i h; subst h; show A 3 = A 3 - 0; rw [Int32.sub_zero]
        · rfl
  | succ k ih =>
    intro hk
    obtain ⟨i1, i2⟩ := ih (by omega)
    have hpk := pc_le s k
    rw [laM]
    by_cases hb : (laM A s k).1 = true
    · rw [if_pos hb]
      have hR := i2 hb
      have hpre := i1.mp hb
      by_cases ht : bt (nI s) k = true
      · rw [if_pos ht, hR, laR_hl (by omega), if_neg (fun q => absurd q.1 (Nat.lt_irrefl k)), laR_3]
        have hpc : pcS s (k + 1) = pcS s k + 1 := by rw [pcS, if_pos ht]
        have hfl := fl_sub hF (p := pcS s k) (by omega)
        have hcond : (!decide (0 < A (k + 6) ∨ ¬ 0 < A 3 - nI (pcS s k))) = true ↔ ¬ 0 < A (k + 6) ∧ (pcS s k : Int) + 1 ≤ (A 3).toInt := by
          rw [Bool.not_eq_true', decide_eq_false_iff_not, not_or, Decidable.not_not]
          refine and_congr_right (fun _ => ?_)
          rw [bn_lt, bn_0, hfl]
          omega
        refine ⟨⟨fun h => ?_, fun h => hcond.mpr ⟨h.1 k (by omega) ht, by have := h.2; rw [hpc] at this; omega⟩⟩, fun h => ?_⟩
        · have h2 := hcond.mp h
          refine ⟨fun o ho hbo => ?_, by rw [hpc]; have := h2.2; omega⟩
          by_cases e : o = k
          · subst e; exact h2.1
          · exact hpre.1 o (by omega) hbo
        · have h2 := hcond.mp h
          show liR (laR A s k) k = laR A s (k + 1)
          have hc2 : ¬ (0 < laR A s k (k + 6) ∨ ¬ 0 < laR A s k 3) := by
            rw [laR_hl (by omega), if_neg (fun q => absurd q.1 (Nat.lt_irrefl k)), laR_3]
            rintro (q | q)
            · exact h2.1 q
            · refine q ?_
              rw [bn_lt, bn_0, hfl]
              have := h2.2
              omega
          rw [liR, if_neg hc2]
          have i3 : laR A s k (k + 14) = A (k + 14) := by rw [laR_tl (by omega), if_neg (fun q => absurd q.1 (Nat.lt_irrefl k))]
          rw [i3, laR_3]
          funext j
          by_cases j3 : j = 3
          · subst j3
            rw [laR_3, hpc]
            simp only [upd, if_true]
            rw [← bn_add1, i32r3]
          · by_cases j6 : 6 ≤ j ∧ j < 14
            · obtain ⟨o, rfl⟩ : ∃ o, j = o + 6 := ⟨j - 6, by omega⟩
              rw [laR_hl (by omega)]
              simp only [upd]
              rw [if_neg (show ¬ o + 6 = 3 by omega), if_neg (show ¬ o + 6 = k + 14 by omega), laR_hl (by omega)]
              by_cases e : o = k
              · subst e; rw [if_pos rfl, if_pos ⟨by omega, ht⟩]
              · rw [if_neg (show ¬ o + 6 = k + 6 by omega)]
                by_cases q : o < k ∧ bt (nI s) o = true
                · rw [if_pos q, if_pos ⟨by omega, q.2⟩]
                · rw [if_neg q, if_neg (fun z => q ⟨by omega, z.2⟩)]
            · by_cases j14 : 14 ≤ j ∧ j < 22
              · obtain ⟨o, rfl⟩ : ∃ o, j = o + 14 := ⟨j - 14, by omega⟩
                rw [laR_tl (by omega)]
                simp only [upd]
                rw [if_neg (show ¬ o + 14 = 3 by omega), if_neg (show ¬ o + 14 = k + 6 by omega), laR_tl (by omega)]
                by_cases e : o = k
                · subst e; rw [if_pos rfl, if_pos ⟨by omega, ht⟩]
                · rw [if_neg (show ¬ o + 14 = k + 14 by omega)]
                  by_cases q : o < k ∧ bt (nI s) o = true
                  · rw [if_pos q, if_pos ⟨by omega, q.2⟩]
                  · rw [if_neg q, if_neg (fun z => q ⟨by omega, z.2⟩)]
              · rw [laR_o (by omega)]
                simp only [upd]
                rw [if_neg j3, if_neg (by omega), if_neg (by omega), laR_o (by omega)]
      · have hpc : pcS s (k + 1) = pcS s k := by rw [pcS, if_neg ht]; rfl
        rw [if_neg ht]
        refine ⟨⟨fun h => ⟨fun o ho hbo => ?_, by rw [hpc]; exact hpre.2⟩, fun h => hb⟩, fun h => ?_⟩
        · by_cases e : o = k
          · subst e; exact absurd hbo ht
          · exact hpre.1 o (by omega) hbo
        · rw [hR]
          funext j
          unfold laR
          rw [hpc]
          split
          · by_cases e : j - 6 = k
            · rw [if_neg (by omega), if_neg (fun z => ht (by rw [← e]; exact z.2))]
            · by_cases q : j - 6 < k ∧ bt (nI s) (j - 6) = true
              · rw [if_pos q, if_pos ⟨by omega, q.2⟩]
              · rw [if_neg q, if_neg (fun z => q ⟨by omega, z.2⟩)]
          · split
            · by_cases e : j - 14 = k
              · rw [if_neg (by omega), if_neg (fun z => ht (by rw [← e]; exact z.2))]
              · by_cases q : j - 14 < k ∧ bt (nI s) (j - 14) = true
                · rw [if_pos q, if_pos ⟨by omega, q.2⟩]
                · rw [if_neg q, if_neg (fun z => q ⟨by omega, z.2⟩)]
            · rfl
    · rw [if_neg hb]
      refine ⟨⟨fun h => absurd h hb, fun h => absurd (i1.mpr ⟨fun o ho => h.1 o (by omega), ?_⟩) hb⟩, fun h => absurd h hb⟩
      have := h.2
      rw [pcS] at this
      split at this <;> omega
theorem off_la (hA : okA no (row 31 M)) (h8 : no ≤ 8) {s : Nat} (hs : s < 2 ^ no) : (laM (row 31 M) s no).1 = offS M no s := by
  have h1 := (la_ok (A := row 31 M) hA.2.2.1 s no h8).1
  have h256 : s < 256 := Nat.lt_of_lt_of_le hs (ovs no h8).2
  have e1 : (nI s &&& (coolv M no ^^^ -1) = 0) ↔ ∀ o, o < no → bt (nI s) o = true → ¬ 0 < row 31 M (o + 6) := by
    constructor
    · intro h o ho hb
      have h2 : bt (nI s &&& (coolv M no ^^^ -1)) o = false := by rw [h]; exact b_0 o
      rw [b_and, b_xor, b_m1 o (by omega), hb, ← cb_coolv h8, cb_bt _ no (by omega) o (by omega), decide_eq_true ho] at h2
      rw [row_hl (by omega)]
      simpa using h2
    · intro h
      refine b_ext (fun i hi => ?_)
      rw [b_0, b_and, b_xor, b_m1 i hi, ← cb_coolv h8, cb_bt _ no (by omega) i hi]
      by_cases hin : i < no
      · rw [decide_eq_true hin]
        by_cases hb : bt (nI s) i = true
        · have h3 := h i hin hb
          rw [row_hl (by omega)] at h3
          rw [hb, decide_eq_false h3]; rfl
        · rw [show bt (nI s) i = false by simpa using hb]; rfl
      · rw [bt_hi no h8 s hs i hi (by omega)]; rfl
  have e2 : bcnt (nI s) ≤ M 31 5 ↔ (pcS s no : Int) ≤ (row 31 M 3).toInt := by
    rw [bcnt_pop s h256, pc_pop no h8 s hs, bn_le, bn_ti (by have := pc_le s no; omega)]
    rfl
  unfold offS
  rw [Bool.eq_iff_iff, h1, decide_eq_true_iff, e1, e2]
theorem okA_la (hA : okA no A) (h8 : no ≤ 8) (s : Nat) : ∀ k, k ≤ no → okA no (laM A s k).2 := by
  intro k
  induction k with
  | zero => intro _; exact hA
  | succ k ih =>
    intro hk
    rw [laM]
    split
    · split
      · exact okA_li (ih (by omega)) (by omega)
      · exact ih (by omega)
    · exact ih (by omega)
theorem dec1_i {v : Int32} (h0 : 0 ≤ v.toInt) : (dec1 v).toInt = if 0 < v.toInt then v.toInt - 1 else 0 := by
  unfold dec1
  by_cases h : 0 < v
  · rw [if_pos h]
    rw [bn_lt, bn_0] at h
    rw [if_pos h, Int32.toInt_sub, show (1 : Int32).toInt = 1 from rfl]
    have h2 := Int32.toInt_lt v
    rw [Int.bmod_eq_of_le (by omega) (by omega)]
  · rw [if_neg h]
    rw [bn_lt, bn_0] at h
    rw [if_neg h]; omega
theorem trk_ok (hB : okB M n no nq) (hA : okA no (row 31 M)) {s : Nat} (hs : s < 2 ^ no) (hoff : (laM (row 31 M) s no).1 = true) : ∀ h, h ≤ 12 → (itH (hourR M n no nq) h (laR (row 31 M) s no) 0, itH (hourR M n no nq) h (laR (row 31 M) s no) 1) = trP M n no nq h s ∧ itH (hourR M n no nq) h (laR (row 31 M) s no) 2 = M 31 4 + nI h ∧ itH (hourR M n no nq) h (laR (row 31 M) s no) 5 = M 31 7 ∧ (∀ q, q < 6 → itH (hourR M n no nq) h (laR (row 31 M) s no) (q + 22) = M 34 q) ∧ ∀ o, o < 8 → (itH (hourR M n no nq) h (laR (row 31 M) s no) (o + 6)).toInt = if o < no ∧ bt (nI s) o = true then (if h < 4 then 4 - (h : Int) else 0) else (if (h : Int) < (M 32 o).toInt then (M 32 o).toInt - h else 0) := by
  have h8 : no ≤ 8 := hB.1.2.1
  have h6 : nq ≤ 6 := hB.2.1.2.1
  have hla := ((la_ok (A := row 31 M) hA.2.2.1 s no h8).1.mp hoff).1
  intro h
  induction h with
  | zero =>
    intro _
    refine ⟨?_, ?_, ?_, fun q hq => ?_, fun o ho => ?_⟩
    · show (laR (row 31 M) s no 0, laR (row 31 M) s no 1) = _
      rw [laR_o (by omega), laR_o (by omega)]; rfl
    · show laR (row 31 M) s no 2 = _
      rw [laR_o (by omega)]
      show M 31 4 = M 31 4 + 0
      rw [Int32.add_zero]
    · show laR (row 31 M) s no 5 = _
      rw [laR_o (by omega)]; rfl
    · show laR (row 31 M) s no (q + 22) = _
      rw [laR_o (by omega), row_on hq]
    · show (laR (row 31 M) s no (o + 6)).toInt = _
      have h0 := (hA.1 o ho).1
      rw [laR_hl ho]
      by_cases c : o < no ∧ bt (nI s) o = true
      · rw [if_pos c, if_pos c, if_pos (by omega)]; rfl
      · rw [if_neg c, if_neg c]
        rw [row_hl ho] at h0 ⊢
        by_cases z : ((0 : Nat) : Int) < (M 32 o).toInt
        · rw [if_pos z]; show (M 32 o).toInt = _; omega
        · rw [if_neg z]; show (M 32 o).toInt = _; show (M 32 o).toInt = 0; have : 0 ≤ (M 32 o).toInt := h0; omega
  | succ h ih =>
    intro hh
    obtain ⟨i1, i2, i3, i4, i5⟩ := ih (by omega)
    obtain ⟨B, hBB⟩ : ∃ B, B = itH (hourR M n no nq) h (laR (row 31 M) s no) := ⟨_, rfl⟩
    have hS : itH (hourR M n no nq) (h + 1) (laR (row 31 M) s no) = hourR M n no nq B := by rw [hBB]; rfl
    rw [hS]
    rw [← hBB] at i1 i2 i3 i4 i5
    have elit : litA no B = litH M no h s := by
      refine b_ext (fun i hi => ?_)
      rw [lbM_bt _ _ no (by omega) i hi, litH, b_or, lbM_bt _ _ no (by omega) i hi]
      by_cases hin : i < no
      · have h5 := i5 i (by omega)
        rw [decide_eq_true hin, Bool.true_and, Bool.true_and]
        by_cases hb : bt (nI s) i = true
        · have hz := hla i hin hb
          rw [row_hl (by omega)] at hz
          have hz0 := (hA.1 i (by omega)).1
          rw [row_hl (by omega)] at hz0
          rw [if_pos ⟨hin, hb⟩] at h5
          have d2 : ¬ nI h < M 32 i := by
            have hz : ¬ 0 < M 32 i := hz
            rw [bn_lt, bn_0] at hz
            rw [bn_lt, bn_ti (by omega)]
            omega
          rw [decide_eq_false d2, Bool.false_or]
          by_cases h4 : h < 4
          · rw [if_pos h4] at h5 ⊢
            rw [hb]
            exact decide_eq_true (by rw [bn_lt, bn_0]; show 0 < (B (i + 6)).toInt; omega)
          · rw [if_neg h4] at h5 ⊢
            rw [b_0]
            exact decide_eq_false (by rw [bn_lt, bn_0]; show ¬ 0 < (B (i + 6)).toInt; omega)
        · rw [if_neg (fun q => hb q.2)] at h5
          have d2 : bt (if h < 4 then nI s else 0) i = false := by
            split
            · simpa using hb
            · exact b_0 i
          rw [d2, Bool.or_false]
          refine decide_eq_decide.mpr ?_
          rw [bn_lt, bn_lt, bn_0, bn_ti (by omega)]
          show 0 < (B (i + 6)).toInt ↔ _
          rw [h5]
          split <;> omega
      · have d2 : bt (if h < 4 then nI s else 0) i = false := by
          split
          · exact bt_hi no h8 s hs i hi (by omega)
          · exact b_0 i
        rw [decide_eq_false hin, d2]; rfl
    have ep : ∀ i j, i < 31 → plug M B i j = M i j := fun i j hi => by unfold plug; rw [if_neg (by omega), if_neg (by omega), if_neg (by omega), if_neg (by omega)]
    have hV : eqV n no nq 31 31 M (plug M B) := by
      refine ⟨fun q hq => ⟨ep 4 q (by omega), ep 5 q (by omega), ?_⟩, fun o ho => ⟨ep 6 o (by omega), ep 7 o (by omega)⟩, fun k hk => ep 20 k (by omega), ?_⟩
      · show plug M B 34 q = M 34 q
        rw [← i4 q (by omega)]
        unfold plug
        rw [if_neg (by omega), if_neg (by omega), if_neg (by omega), if_pos (by omega)]
      · rw [← i3]
        unfold plug
        rw [if_pos (by omega)]
    refine ⟨?_, ?_, ?_, fun q hq => ?_, fun o ho => ?_⟩
    · rw [hourR_0, hourR_1]
      show xy2 (mvA M n no nq B) = _
      rw [mvA, mvM_xy]
      show mv2 (opB M) (eaM (plug M B) 31 n no nq (litA no B) (B 2)) (noM (plug M B) 31 n no nq (litA no B) (B 2)) (B 0, B 1) = _
      rw [elit, i2, i1, ea_eqV hV, no_eqV hV]
      rfl
    · rw [hourR_2, i2, Int32.add_assoc, bn_add1]
    · rw [hourR_o (by omega)]; exact i3
    · rw [hourR_o (by omega)]; exact i4 q hq
    · rw [hourR_hl ho]
      have h5 := i5 o ho
      have hm := (hA.1 o ho).1
      rw [row_hl ho] at hm
      have hnn : 0 ≤ (B (o + 6)).toInt := by rw [h5]; split <;> (split <;> omega)
      rw [dec1_i hnn, h5]
      have hm : 0 ≤ (M 32 o).toInt := hm
      by_cases c : o < no ∧ bt (nI s) o = true
      · rw [if_pos c, if_pos c]
        by_cases z : h < 4
        · rw [if_pos z]
          by_cases z2 : h + 1 < 4
          · rw [if_pos z2, if_pos (by omega)]; omega
          · rw [if_neg z2]; split <;> omega
        · rw [if_neg z, if_neg (by omega), if_neg (by omega)]
      · rw [if_neg c, if_neg c]
        by_cases z : (h : Int) < (M 32 o).toInt
        · rw [if_pos z, if_pos (by omega)]
          by_cases z2 : ((h + 1 : Nat) : Int) < (M 32 o).toInt
          · rw [if_pos z2]; omega
          · rw [if_neg z2]; omega
        · rw [if_neg z, if_neg (by omega), if_neg (by omega)]
end T68p
section T68
variable {d : Nat} {m m1 ν M : bc_M} {n no nq nr nm : Nat} {A : Row}
theorem t_lightsAll {s : Nat} (hno : m 0 26 = nI no) (h8 : no ≤ 8) (hN : sR A (m 19)) (hA : okA no A) : bc_C (d + 2) LM mX10_lightsAll [.ref 0, .int (nI s)] m (fun r ν => r = some (.int (if (laM A s no).1 = true then 1 else 0)) ∧ (∀ i, i ≠ 20 → ν i = m i) ∧ sR (laM A s no).2 (ν 20)) := by
  refine bc_enter (by decide) (Nat.le_of_ble_eq_true rfl) rfl ?_
  have loop : ∀ (c k : Nat) (f : Nat → Int32), k + c = no → sR (laM A s k).2 f → bc_W (d + 2) LM mX10_lightsAll 8 [.ref 0, .int (nI s), .int (if (laM A s k).1 = true then 1 else 0), .int (nI k)] [] (bc_us m 20 f) (fun r ν => r = some (.int (if (laM A s no).1 = true then 1 else 0)) ∧ (∀ i, i ≠ 20 → ν i = m i) ∧ sR (laM A s no).2 (ν 20)) := by
    intro c
    induction c with
    | zero =>
      intro k f hk hs
      have hk : k = no := by omega
      subst hk
      refine bc_iload_n dX10_lightsAll_8 rfl ?_
      refine bc_aload_n dX10_lightsAll_9 rfl ?_
      refine bc_geti dX10_lightsAll_10 fX10_185 (rfl) rfl ?_
      refine bc_icmp_ge (tgt := 48) dX10_lightsAll_13 (by decide) (fun h13 => ?_) (fun h13 => absurd h13 (fun q => q (bx_out hno (Nat.le_refl _) (by omega))))
      refine bc_iload_n dX10_lightsAll_48 rfl ?_
      exact bc_ireturn dX10_lightsAll_49 rfl (by split <;> rfl) (⟨rfl, fun i hi => bc_us_ne _ _ hi, by rw [bc_us_at]; exact hs⟩)
    | succ c ih =>
      intro k f hk hs
      have hbit := b_get (nI s) (o := k) (by omega)
      have hAk := okA_la hA h8 s k (by omega)
      have next : ∀ (f' : Nat → Int32) (v : Int32), v = (if (laM A s (k + 1)).1 = true then 1 else 0) → sR (laM A s (k + 1)).2 f' → bc_W (d + 2) LM mX10_lightsAll 41 [.ref 0, .int (nI s), .int (if (laM A s k).1 = true then 1 else 0), .int (nI k)] [.int v] (bc_us m 20 f') (fun r ν => r = some (.int (if (laM A s no).1 = true then 1 else 0)) ∧ (∀ i, i ≠ 20 → ν i = m i) ∧ sR (laM A s no).2 (ν 20)) := by
        intro f' v hv hs'
        subst hv
        have h2 := ih (k + 1) f' (by omega) hs'
        refine bc_istore_n dX10_lightsAll_41 (by decide) rfl ?_
        refine bc_iinc1 dX10_lightsAll_42 rfl (by decide) rfl ?_
        refine bc_goto (tgt := 8) dX10_lightsAll_45 (by decide) ?_
        rw [bn_add1]
        exact h2
      by_cases hb : (laM A s k).1 = true
      · by_cases ht : bt (nI s) k = true
        · have hl : laM A s (k + 1) = (!decide (0 < (laM A s k).2 (k + 6) ∨ ¬ 0 < (laM A s k).2 3), liR (laM A s k).2 k) := by rw [laM, if_pos hb, if_pos ht]
          rw [hl] at next
          rw [if_pos hb] at next ⊢
          refine bc_iload_n dX10_lightsAll_8 rfl ?_
          refine bc_aload_n dX10_lightsAll_9 rfl ?_
          refine bc_geti dX10_lightsAll_10 fX10_185 (rfl) rfl ?_
          refine bc_icmp_ge (tgt := 48) dX10_lightsAll_13 (by decide) (fun h13 => absurd h13 (bx_in hno (by omega) (by omega))) (fun h13 => ?_)
          refine bc_iload_n dX10_lightsAll_16 rfl ?_
          refine bc_if_eq (tgt := 40) dX10_lightsAll_17 (by decide) (fun h17 => absurd h17 (by decide)) (fun h17 => ?_)
          refine bc_iload_n dX10_lightsAll_20 rfl ?_
          refine bc_iload_n dX10_lightsAll_21 rfl ?_
          refine bc_ishr dX10_lightsAll_22 ?_
          refine bc_iconst (v := 1) dX10_lightsAll_23 (by decide) ?_
          refine bc_iand dX10_lightsAll_24 ?_
          rw [hbit, if_pos ht]
          refine bc_if_eq (tgt := 36) dX10_lightsAll_25 (by decide) (fun h25 => absurd h25 (by decide)) (fun h25 => ?_)
          refine bc_aload_n dX10_lightsAll_28 rfl ?_
          refine bc_iload_n dX10_lightsAll_29 rfl ?_
          refine bc_callV (z := mX10_lights) (ci := 10) dX10_lightsAll_30 lX10_378 qX10_lights (by rfl) (by rfl) (by rfl) (by rfl) (Nat.le_of_ble_eq_true rfl) (t_lights (A := (laM A s k).2) (no := no) (by rw [bc_us_at]; exact hs) hAk (by omega)) (fun r30 μ30 e30 => ?_)
          obtain ⟨rfl, f30, q30, s30⟩ := e30
          obtain rfl := q30
          rw [bc_us_us]
          refine bc_if_eq (tgt := 40) dX10_lightsAll_33 (by decide) (fun h33 => ?_) (fun h33 => ?_)
          · refine bc_iconst (v := 0) dX10_lightsAll_40 (by decide) ?_
            refine next f30 0 ?_ s30
            have hc : 0 < (laM A s k).2 (k + 6) ∨ ¬ 0 < (laM A s k).2 3 := by
              by_cases q : 0 < (laM A s k).2 (k + 6) ∨ ¬ 0 < (laM A s k).2 3
              · exact q
              · rw [if_neg q] at h33; exact absurd h33 (by decide)
            rw [decide_eq_true hc]; rfl
          · refine bc_iconst (v := 1) dX10_lightsAll_36 (by decide) ?_
            refine bc_goto (tgt := 41) dX10_lightsAll_37 (by decide) ?_
            refine next f30 1 ?_ s30
            have hc : ¬ (0 < (laM A s k).2 (k + 6) ∨ ¬ 0 < (laM A s k).2 3) := by
              intro q
              rw [if_pos q] at h33
              exact h33 rfl
            rw [decide_eq_false hc]; rfl
        · have hl : laM A s (k + 1) = laM A s k := by rw [laM, if_pos hb, if_neg ht]
          rw [hl] at next
          rw [if_pos hb] at next ⊢
          refine bc_iload_n dX10_lightsAll_8 rfl ?_
          refine bc_aload_n dX10_lightsAll_9 rfl ?_
          refine bc_geti dX10_lightsAll_10 fX10_185 (rfl) rfl ?_
          refine bc_icmp_ge (tgt := 48) dX10_lightsAll_13 (by decide) (fun h13 => absurd h13 (bx_in hno (by omega) (by omega))) (fun h13 => ?_)
          refine bc_iload_n dX10_lightsAll_16 rfl ?_
          refine bc_if_eq (tgt := 40) dX10_lightsAll_17 (by decide) (fun h17 => absurd h17 (by decide)) (fun h17 => ?_)
          refine bc_iload_n dX10_lightsAll_20 rfl ?_
          refine bc_iload_n dX10_lightsAll_21 rfl ?_
          refine bc_ishr dX10_lightsAll_22 ?_
          refine bc_iconst (v := 1) dX10_lightsAll_23 (by decide) ?_
          refine bc_iand dX10_lightsAll_24 ?_
          rw [hbit, if_neg ht]
          refine bc_if_eq (tgt := 36) dX10_lightsAll_25 (by decide) (fun h25 => ?_) (fun h25 => absurd h25 (fun q => q rfl))
          refine bc_iconst (v := 1) dX10_lightsAll_36 (by decide) ?_
          refine bc_goto (tgt := 41) dX10_lightsAll_37 (by decide) ?_
          exact next f 1 rfl hs
      · have hl : laM A s (k + 1) = laM A s k := by rw [laM, if_neg hb]
        rw [hl] at next
        rw [if_neg hb] at next ⊢
        refine bc_iload_n dX10_lightsAll_8 rfl ?_
        refine bc_aload_n dX10_lightsAll_9 rfl ?_
        refine bc_geti dX10_lightsAll_10 fX10_185 (rfl) rfl ?_
        refine bc_icmp_ge (tgt := 48) dX10_lightsAll_13 (by decide) (fun h13 => absurd h13 (bx_in hno (by omega) (by omega))) (fun h13 => ?_)
        refine bc_iload_n dX10_lightsAll_16 rfl ?_
        refine bc_if_eq (tgt := 40) dX10_lightsAll_17 (by decide) (fun h17 => ?_) (fun h17 => absurd h17 (fun q => q rfl))
        refine bc_iconst (v := 0) dX10_lightsAll_40 (by decide) ?_
        exact next f 0 rfl hs
  refine bc_aload_n dX10_lightsAll_0 rfl ?_
  refine bc_callV (z := mX10_take) (ci := 10) dX10_lightsAll_1 lX10_333 qX10_take (by rfl) (by rfl) (by rfl) (by rfl) (Nat.le_of_ble_eq_true rfl) (t_take) (fun r1 μ1 e1 => ?_)
  obtain ⟨rfl, q1⟩ := e1
  obtain rfl := q1.symm
  refine bc_iconst (v := 1) dX10_lightsAll_4 (by decide) ?_
  refine bc_istore_n dX10_lightsAll_5 (by decide) rfl ?_
  refine bc_iconst (v := 0) dX10_lightsAll_6 (by decide) ?_
  refine bc_istore_n dX10_lightsAll_7 (by decide) rfl ?_
  exact loop no 0 _ (by omega) (sR_cp hN)
theorem t_ones {L : bc_L} {s : Nat} (hs : s < 256) : bc_C d L mX10_ones [.int (nI s)] m (fun r ν => r = some (.int (bcnt (nI s))) ∧ ν = m) := by
  refine bc_enter (by decide) (Nat.le_of_ble_eq_true rfl) rfl ?_
  have loop : ∀ (c k : Nat), k + c = 8 → bc_W d L mX10_ones 4 [.int (nI s), .int (nI (pcS s k)), .int (nI k)] [] m (fun r ν => r = some (.int (bcnt (nI s))) ∧ ν = m) := by
    intro c
    induction c with
    | zero =>
      intro k hk
      have hk : k = 8 := by omega
      subst hk
      refine bc_iload_n dX10_ones_4 rfl ?_
      refine bc_bipush (v := 8) dX10_ones_5 (by decide) ?_
      refine bc_icmp_ge (tgt := 24) dX10_ones_7 (by decide) (fun h7 => ?_) (fun h7 => absurd h7 (fun q => q (by decide)))
      refine bc_iload_n dX10_ones_24 rfl ?_
      exact bc_ireturn dX10_ones_25 rfl rfl (⟨by rw [bcnt_pop s hs, pc_pop 8 (by omega) s hs], rfl⟩)
    | succ c ih =>
      intro k hk
      have h2 := ih (k + 1) (by omega)
      have e : nI (pcS s k) + (nI s >>> (nI k &&& 31) &&& 1) = nI (pcS s (k + 1)) := by
        rw [b_get _ (by omega), pcS]
        by_cases h : bt (nI s) k = true
        · rw [if_pos h, if_pos h, bn_add1]
        · rw [if_neg h, if_neg h, Int32.add_zero]; rfl
      refine bc_iload_n dX10_ones_4 rfl ?_
      refine bc_bipush (v := 8) dX10_ones_5 (by decide) ?_
      refine bc_icmp_ge (tgt := 24) dX10_ones_7 (by decide) (fun h7 => absurd h7 (by rw [show (8 : Int32) = nI 8 from rfl, bn_leN (by omega) (by omega)]; omega)) (fun h7 => ?_)
      refine bc_iload_n dX10_ones_10 rfl ?_
      refine bc_iload_n dX10_ones_11 rfl ?_
      refine bc_iload_n dX10_ones_12 rfl ?_
      refine bc_ishr dX10_ones_13 ?_
      refine bc_iconst (v := 1) dX10_ones_14 (by decide) ?_
      refine bc_iand dX10_ones_15 ?_
      refine bc_iadd dX10_ones_16 ?_
      rw [e]
      refine bc_istore_n dX10_ones_17 (by decide) rfl ?_
      refine bc_iinc1 dX10_ones_18 rfl (by decide) rfl ?_
      refine bc_goto (tgt := 4) dX10_ones_21 (by decide) ?_
      rw [bn_add1]
      exact h2
  refine bc_iconst (v := 0) dX10_ones_0 (by decide) ?_
  refine bc_istore_n dX10_ones_1 (by decide) rfl ?_
  refine bc_iconst (v := 0) dX10_ones_2 (by decide) ?_
  refine bc_istore_n dX10_ones_3 (by decide) rfl ?_
  exact loop 8 0 (by omega)
theorem fw_at {P : Nat → Bool} : ∀ k, fwM P k = -1 ∨ ∃ j, j < k ∧ fwM P k = nI j := by
  intro k
  induction k with
  | zero => exact .inl rfl
  | succ k ih =>
    rw [fwM]
    split
    · exact .inr ⟨k, by omega, rfl⟩
    · rcases ih with e | ⟨j, hj, e⟩
      · exact .inl e
      · exact .inr ⟨j, by omega, e⟩
theorem cel_inj {p q : Int32 × Int32} (hp : rng p) (hq : rng q) : cel p = cel q ↔ p.1 = q.1 ∧ p.2 = q.2 := by
  have h1 := cel_xy hp
  have h2 := cel_xy hq
  constructor
  · intro e; rw [e] at h1; exact ⟨h1.1.symm.trans h2.1, h1.2.symm.trans h2.2⟩
  · intro e; unfold cel; rw [e.1, e.2]
theorem t_pilotB1 {q w : Int32} (hE : mEnv M m n no nq nr nm) (h : ¬ (0 ≤ q ∧ q < nI nm)) : bc_C (d + 2) LM mX10_pilot [.ref 0, .int q, .int w] m (fun r ν => r = some (.int 0) ∧ ν = refM m 1 0) := by
  refine bc_enter (by decide) (Nat.le_of_ble_eq_true rfl) rfl ?_
  refine bc_aload_n dX10_pilot_0 rfl ?_
  refine bc_iconst (v := 0) dX10_pilot_1 (by decide) ?_
  refine bc_put dX10_pilot_2 fX10_3 ftX10 fpX10_0 rfl rfl (rfl) rfl ?_
  refine bc_aload_n dX10_pilot_5 rfl ?_
  refine bc_iload_n dX10_pilot_6 rfl ?_
  refine bc_iconst (v := 1) dX10_pilot_7 (by decide) ?_
  refine bc_callV (z := mX10_isMooring) (ci := 10) dX10_pilot_8 lX10_395 qX10_isMooring (by rfl) (by rfl) (by rfl) (by rfl) (Nat.le_of_ble_eq_true rfl) (t_isMooringN hE.2.1.2.2.2 hE.2.2.1.2 h rfl (by decide)) (fun r8 μ8 e8 => ?_)
  obtain ⟨rfl, q8⟩ := e8
  obtain rfl := q8.symm
  refine bc_if_eq (tgt := 30) dX10_pilot_11 (by decide) (fun h11 => ?_) (fun h11 => absurd h11 (fun q => q rfl))
  refine bc_iconst (v := 0) dX10_pilot_30 (by decide) ?_
  exact bc_ireturn dX10_pilot_31 rfl rfl (⟨rfl, rfl⟩)
theorem t_pilotB2 {q w : Int32} (hE : mEnv M m n no nq nr nm) (hq : 0 ≤ q ∧ q < nI nm) (h : ¬ (0 ≤ w ∧ w ≤ 12)) : bc_C (d + 2) LM mX10_pilot [.ref 0, .int q, .int w] m (fun r ν => r = some (.int 0) ∧ ν = refM m 2 1) := by
  refine bc_enter (by decide) (Nat.le_of_ble_eq_true rfl) rfl ?_
  refine bc_aload_n dX10_pilot_0 rfl ?_
  refine bc_iconst (v := 0) dX10_pilot_1 (by decide) ?_
  refine bc_put dX10_pilot_2 fX10_3 ftX10 fpX10_0 rfl rfl (rfl) rfl ?_
  refine bc_aload_n dX10_pilot_5 rfl ?_
  refine bc_iload_n dX10_pilot_6 rfl ?_
  refine bc_iconst (v := 1) dX10_pilot_7 (by decide) ?_
  refine bc_callV (z := mX10_isMooring) (ci := 10) dX10_pilot_8 lX10_395 qX10_isMooring (by rfl) (by rfl) (by rfl) (by rfl) (Nat.le_of_ble_eq_true rfl) (t_isMooringY hE.2.1.2.2.2 hE.2.2.1.2 hq rfl (by decide)) (fun r8 μ8 e8 => ?_)
  obtain ⟨rfl, q8⟩ := e8
  obtain rfl := q8.symm
  refine bc_if_eq (tgt := 30) dX10_pilot_11 (by decide) (fun h11 => absurd h11 (by decide)) (fun h11 => ?_)
  refine bc_aload_n dX10_pilot_14 rfl ?_
  refine bc_iload_n dX10_pilot_15 rfl ?_
  refine bc_iconst (v := 0) dX10_pilot_16 (by decide) ?_
  refine bc_bipush (v := 12) dX10_pilot_17 (by decide) ?_
  refine bc_callS (z := mX10_within) dX10_pilot_19 lX10_384 qX10_within (by rfl) (by rfl) (Nat.le_of_ble_eq_true rfl) (t_within _ _ _) (fun r19 μ19 e19 => ?_)
  obtain ⟨rfl, q19⟩ := e19
  obtain rfl := q19.symm
  refine bc_iconst (v := 2) dX10_pilot_22 (by decide) ?_
  refine bc_iconst (v := 1) dX10_pilot_23 (by decide) ?_
  refine bc_callV (z := mX10_may) (ci := 10) dX10_pilot_24 lX10_236 qX10_may (by rfl) (by rfl) (by rfl) (by rfl) (Nat.le_of_ble_eq_true rfl) (t_mayN (k := 1) _ h _ (by decide) rfl (by decide)) (fun r24 μ24 e24 => ?_)
  obtain ⟨rfl, q24⟩ := e24
  obtain rfl := q24.symm
  refine bc_if_ne (tgt := 32) dX10_pilot_27 (by decide) (fun h27 => absurd h27 (fun q => q rfl)) (fun h27 => ?_)
  refine bc_iconst (v := 0) dX10_pilot_30 (by decide) ?_
  exact bc_ireturn dX10_pilot_31 rfl rfl (⟨rfl, rfl⟩)
theorem t_pilot {k h : Nat} (hE : mEnv M m n no nq nr nm) (hN : sR (row 31 M) (m 19)) (hA : okA no (row 31 M)) (hk : k < nm) (hh : h ≤ 12) : bc_C (d + 7) LM mX10_pilot [.ref 0, .int (nI k), .int (nI h)] m (fun r ν => r = some (.int (pilM M n no nq k h)) ∧ qS m ν) := by
  refine bc_enter (by decide) (Nat.le_of_ble_eq_true rfl) rfl ?_
  have h8 := hE.o8
  have h6 := hE.2.2.1.2
  have e2 := ovs no h8
  have em := hE.2.2.2.2.2.2.1 k hk
  have hrow : rng (M 31 2, M 31 3) := hA.2.2.2
  obtain ⟨P, hP⟩ : ∃ P : Nat → Bool, P = fun s => offS M no s && decide (cel (trP M n no nq h s) = cel (M 8 k, M 9 k)) := ⟨_, rfl⟩
  have hpil : pilM M n no nq k h = fwM P (2 ^ no) := by rw [hP]; rfl
  rw [hpil]
  have loop : ∀ (c s : Nat) (ν : bc_M) (v5 : Value), v5.category = 1 → s + c = 2 ^ no → (∀ i, i ≠ 15 → i ≠ 16 → i ≠ 20 → ν i = bc_u m 0 0 0 i) → bc_W (d + 7) LM mX10_pilot 37 [.ref 0, .int (nI k), .int (nI h), .int (fwM P s), .int (nI s), v5] [] ν (fun r ν => r = some (.int (fwM P (2 ^ no))) ∧ qS m ν) := by
    intro c
    induction c with
    | zero =>
      intro s ν v5 c5 hs hf
      have hs : s = 2 ^ no := by omega
      have hno : ν 0 26 = nI no := by rw [hf 0 (by decide) (by decide) (by decide)]; exact hE.2.1.2.1
      refine bc_iload dX10_pilot_37 rfl ?_
      refine bc_iconst (v := 1) dX10_pilot_39 (by decide) ?_
      refine bc_aload_n dX10_pilot_40 rfl ?_
      refine bc_geti dX10_pilot_41 fX10_185 (rfl) rfl ?_
      rw [hno]
      refine bc_ishl dX10_pilot_44 ?_
      rw [e2.1]
      refine bc_icmp_ge (tgt := 143) dX10_pilot_45 (by decide) (fun h45 => ?_) (fun h45 => absurd h45 (fun q => q (bx_out rfl (by omega) (by omega))))
      refine bc_iload_n dX10_pilot_143 rfl ?_
      exact bc_ireturn dX10_pilot_144 rfl rfl (⟨by rw [hs], qS.of hf⟩)
    | succ c ih =>
      intro s ν v5 c5 hs hf
      have hs2 : s < 2 ^ no := by omega
      have hno : ν 0 26 = nI no := by rw [hf 0 (by decide) (by decide) (by decide)]; exact hE.2.1.2.1
      have hNν : sR (row 31 M) (ν 19) := by rw [hf 19 (by decide) (by decide) (by decide)]; exact hN
      have skip : ∀ (ν' : bc_M) (v5 : Value) (b : Int32), v5.category = 1 → (∀ i, i ≠ 15 → i ≠ 16 → i ≠ 20 → ν' i = bc_u m 0 0 0 i) → fwM P (s + 1) = b → bc_W (d + 7) LM mX10_pilot 137 [.ref 0, .int (nI k), .int (nI h), .int b, .int (nI s), v5] [] ν' (fun r ν => r = some (.int (fwM P (2 ^ no))) ∧ qS m ν) := by
        intro ν' v5 b c5 hf' hb
        subst hb
        have h2 := ih (s + 1) ν' v5 c5 (by omega) hf'
        refine bc_iinc1 dX10_pilot_137 rfl (by decide) rfl ?_
        refine bc_goto (tgt := 37) dX10_pilot_140 (by decide) ?_
        rw [bn_add1]
        exact h2
      have no' : ¬ (P s = true ∧ (fwM P s = -1 ∨ bcnt (nI s) < bcnt (fwM P s))) → fwM P (s + 1) = fwM P s := fun q => by rw [fwM, if_neg q]
      have yes : P s = true ∧ (fwM P s = -1 ∨ bcnt (nI s) < bcnt (fwM P s)) → fwM P (s + 1) = nI s := fun q => by rw [fwM, if_pos q]
      have from65 : (fwM P s = -1 ∨ bcnt (nI s) < bcnt (fwM P s)) → bc_W (d + 7) LM mX10_pilot 65 [.ref 0, .int (nI k), .int (nI h), .int (fwM P s), .int (nI s), v5] [] ν (fun r ν => r = some (.int (fwM P (2 ^ no))) ∧ qS m ν) := by
        intro hfw
        have hoff := off_la (M := M) hA h8 hs2
        by_cases hl : (laM (row 31 M) s no).1 = true
        · have hR := (la_ok (A := row 31 M) hA.2.2.1 s no h8).2 hl
          have hAR : okA no (laR (row 31 M) s no) := by rw [← hR]; exact okA_la hA h8 s no (Nat.le_refl _)
          have inner : ∀ (c j : Nat) (ν' : bc_M), j + c = h → (∀ i, i ≠ 15 → i ≠ 16 → i ≠ 20 → ν' i = bc_u m 0 0 0 i) → sR (itH (hourR M n no nq) j (laR (row 31 M) s no)) (ν' 20) → bc_W (d + 7) LM mX10_pilot 80 [.ref 0, .int (nI k), .int (nI h), .int (fwM P s), .int (nI s), .int (nI j)] [] ν' (fun r ν => r = some (.int (fwM P (2 ^ no))) ∧ qS m ν) := by
            intro c
            induction c with
            | zero =>
              intro j ν' hj hf' hs'
              have hj : j = h := by omega
              subst hj
              have ht := (trk_ok (n := n) (nq := nq) hE.1 hA hs2 hl j hh).1
              have t1 : ν' 20 28 = (trP M n no nq j s).1 := hs'.2.2.2.2.1.trans (congrArg Prod.fst ht)
              have t2 : ν' 20 29 = (trP M n no nq j s).2 := hs'.2.2.2.2.2.1.trans (congrArg Prod.snd ht)
              have m1 : ν' 10 (2 * k) = M 8 k := by rw [hf' 10 (by decide) (by decide) (by decide)]; exact em.1
              have m2 : ν' 10 (2 * k + 1) = M 9 k := by rw [hf' 10 (by decide) (by decide) (by decide)]; exact em.2.1
              have hcel := cel_inj (trP_rng (n := n) (no := no) (nq := nq) hrow s j) em.2.2
              have hPs : P s = true ↔ (trP M n no nq j s).1 = M 8 k ∧ (trP M n no nq j s).2 = M 9 k := by
                rw [hP]
                show (offS M no s && decide (cel (trP M n no nq j s) = cel (M 8 k, M 9 k))) = true ↔ _
                rw [← hoff, hl, Bool.true_and, decide_eq_true_iff, hcel]
              refine bc_iload dX10_pilot_80 rfl ?_
              refine bc_iload_n dX10_pilot_82 rfl ?_
              refine bc_icmp_ge (tgt := 96) dX10_pilot_83 (by decide) (fun h83 => ?_) (fun h83 => absurd h83 (fun q => q (Int32.le_refl _)))
              refine bc_aload_n dX10_pilot_96 rfl ?_
              refine bc_getr dX10_pilot_97 fX10_74 (rfl) rfl ?_
              refine bc_bipush (v := 28) dX10_pilot_100 (by decide) ?_
              refine bc_ialdE (k := 28) dX10_pilot_102 (rfl) (rfl) (⟨by omega, by decide⟩) ?_
              refine bc_aload_n dX10_pilot_103 rfl ?_
              refine bc_getr dX10_pilot_104 fX10_44 (rfl) rfl ?_
              refine bc_iconst (v := 2) dX10_pilot_107 (by decide) ?_
              refine bc_iload_n dX10_pilot_108 rfl ?_
              refine bc_imul dX10_pilot_109 ?_
              refine bc_ialdE (k := 2 * k) dX10_pilot_110 (rfl) (ixM (a := 2) (b := k) (rfl) (rfl)) (⟨by omega, by decide⟩) ?_
              rw [t1, m1]
              refine bc_icmp_ne (tgt := 137) dX10_pilot_111 (by decide) (fun h111 => ?_) (fun h111 => ?_)
              · exact skip _ _ _ rfl hf' (no' (fun q => h111 (hPs.mp q.1).1))
              · refine bc_aload_n dX10_pilot_114 rfl ?_
                refine bc_getr dX10_pilot_115 fX10_74 (rfl) rfl ?_
                refine bc_bipush (v := 29) dX10_pilot_118 (by decide) ?_
                refine bc_ialdE (k := 29) dX10_pilot_120 (rfl) (rfl) (⟨by omega, by decide⟩) ?_
                refine bc_aload_n dX10_pilot_121 rfl ?_
                refine bc_getr dX10_pilot_122 fX10_44 (rfl) rfl ?_
                refine bc_iconst (v := 2) dX10_pilot_125 (by decide) ?_
                refine bc_iload_n dX10_pilot_126 rfl ?_
                refine bc_imul dX10_pilot_127 ?_
                refine bc_iconst (v := 1) dX10_pilot_128 (by decide) ?_
                refine bc_iadd dX10_pilot_129 ?_
                refine bc_ialdE (k := (2 * k) + 1) dX10_pilot_130 (rfl) (ixA (a := 2 * k) (b := 1) (ixM (a := 2) (b := k) (rfl) (rfl)) (rfl)) (⟨by omega, by decide⟩) ?_
                rw [t2, m2]
                refine bc_icmp_ne (tgt := 137) dX10_pilot_131 (by decide) (fun h131 => ?_) (fun h131 => ?_)
                · exact skip _ _ _ rfl hf' (no' (fun q => h131 (hPs.mp q.1).2))
                · refine bc_iload dX10_pilot_134 rfl ?_
                  refine bc_istore_n dX10_pilot_136 (by decide) rfl ?_
                  exact skip _ _ _ rfl hf' (yes ⟨hPs.mpr ⟨h111, h131⟩, hfw⟩)
            | succ c ic =>
              intro j ν' hj hf' hs'
              refine bc_iload dX10_pilot_80 rfl ?_
              refine bc_iload_n dX10_pilot_82 rfl ?_
              refine bc_icmp_ge (tgt := 96) dX10_pilot_83 (by decide) (fun h83 => absurd h83 (bx_in rfl (by omega) (by omega))) (fun h83 => ?_)
              refine bc_aload_n dX10_pilot_86 rfl ?_
              refine bc_callV (z := mX10_passes) (ci := 10) dX10_pilot_87 lX10_381 qX10_passes (by rfl) (by rfl) (by rfl) (by rfl) (Nat.le_of_ble_eq_true rfl) (t_pass hE.t0 hf' hs' (okA_it hAR j)) (fun r87 μ87 e87 => ?_)
              obtain ⟨rfl, f87, s87⟩ := e87
              refine bc_iinc1 dX10_pilot_90 rfl (by decide) rfl ?_
              refine bc_goto (tgt := 80) dX10_pilot_93 (by decide) ?_
              rw [bn_add1]
              exact ic (j + 1) _ (by omega) f87 s87
          refine bc_aload_n dX10_pilot_65 rfl ?_
          refine bc_iload dX10_pilot_66 rfl ?_
          refine bc_callV (z := mX10_lightsAll) (ci := 10) dX10_pilot_68 lX10_404 qX10_lightsAll (by rfl) (by rfl) (by rfl) (by rfl) (Nat.le_of_ble_eq_true rfl) (t_lightsAll (s := s) hno h8 hNν hA) (fun r68 μ68 e68 => ?_)
          obtain ⟨rfl, f68, s68⟩ := e68
          rw [if_pos hl]
          refine bc_if_ne (tgt := 77) dX10_pilot_71 (by decide) (fun h71 => ?_) (fun h71 => absurd h71 (by decide))
          refine bc_iconst (v := 0) dX10_pilot_77 (by decide) ?_
          refine bc_istore dX10_pilot_78 (by decide) rfl ?_
          exact inner h 0 _ (by omega) (fun i a b e => (f68 i e).trans (hf i a b e)) (by rw [← hR]; exact s68)
        · have hP0 : ¬ P s = true := by
            rw [hP]
            show ¬ (offS M no s && _) = true
            rw [← hoff, show (laM (row 31 M) s no).1 = false by simpa using hl]
            exact (by decide : ¬ false = true)
          refine bc_aload_n dX10_pilot_65 rfl ?_
          refine bc_iload dX10_pilot_66 rfl ?_
          refine bc_callV (z := mX10_lightsAll) (ci := 10) dX10_pilot_68 lX10_404 qX10_lightsAll (by rfl) (by rfl) (by rfl) (by rfl) (Nat.le_of_ble_eq_true rfl) (t_lightsAll (s := s) hno h8 hNν hA) (fun r68 μ68 e68 => ?_)
          obtain ⟨rfl, f68, s68⟩ := e68
          rw [if_neg hl]
          refine bc_if_ne (tgt := 77) dX10_pilot_71 (by decide) (fun h71 => absurd h71 (fun q => q rfl)) (fun h71 => ?_)
          refine bc_goto (tgt := 137) dX10_pilot_74 (by decide) ?_
          exact skip _ _ _ c5 (fun i a b e => (f68 i e).trans (hf i a b e)) (no' (fun q => hP0 q.1))
      rcases fw_at (P := P) s with e | ⟨j, hj, e⟩
      · skip
        refine bc_iload dX10_pilot_37 rfl ?_
        refine bc_iconst (v := 1) dX10_pilot_39 (by decide) ?_
        refine bc_aload_n dX10_pilot_40 rfl ?_
        refine bc_geti dX10_pilot_41 fX10_185 (rfl) rfl ?_
        rw [hno]
        refine bc_ishl dX10_pilot_44 ?_
        rw [e2.1]
        refine bc_icmp_ge (tgt := 143) dX10_pilot_45 (by decide) (fun h45 => absurd h45 (bx_in rfl (by omega) (by omega))) (fun h45 => ?_)
        refine bc_iload_n dX10_pilot_48 rfl ?_
        refine bc_iconst (v := (-1)) dX10_pilot_49 (by decide) ?_
        refine bc_icmp_eq (tgt := 65) dX10_pilot_50 (by decide) (fun h50 => ?_) (fun h50 => absurd h50 (fun q => q e))
        exact from65 (.inl e)
      · have e256 := e2.2
        refine bc_iload dX10_pilot_37 rfl ?_
        refine bc_iconst (v := 1) dX10_pilot_39 (by decide) ?_
        refine bc_aload_n dX10_pilot_40 rfl ?_
        refine bc_geti dX10_pilot_41 fX10_185 (rfl) rfl ?_
        rw [hno]
        refine bc_ishl dX10_pilot_44 ?_
        rw [e2.1]
        refine bc_icmp_ge (tgt := 143) dX10_pilot_45 (by decide) (fun h45 => absurd h45 (bx_in rfl (by omega) (by omega))) (fun h45 => ?_)
        refine bc_iload_n dX10_pilot_48 rfl ?_
        refine bc_iconst (v := (-1)) dX10_pilot_49 (by decide) ?_
        refine bc_icmp_eq (tgt := 65) dX10_pilot_50 (by decide) (fun h50 => absurd h50 (fun q => nI_m1 (by omega) (e.symm.trans q))) (fun h50 => ?_)
        refine bc_iload dX10_pilot_53 rfl ?_
        refine bc_callS (z := mX10_ones) dX10_pilot_55 lX10_401 qX10_ones (by rfl) (by rfl) (Nat.le_of_ble_eq_true rfl) (t_ones (s := s) (by omega)) (fun r55 μ55 e55 => ?_)
        obtain ⟨rfl, q55⟩ := e55
        obtain rfl := q55.symm
        refine bc_iload_n dX10_pilot_58 rfl ?_
        rw [e]
        refine bc_callS (z := mX10_ones) dX10_pilot_59 lX10_401 qX10_ones (by rfl) (by rfl) (Nat.le_of_ble_eq_true rfl) (t_ones (s := j) (by omega)) (fun r59 μ59 e59 => ?_)
        obtain ⟨rfl, q59⟩ := e59
        obtain rfl := q59.symm
        rw [← e]
        refine bc_icmp_ge (tgt := 137) dX10_pilot_62 (by decide) (fun h62 => ?_) (fun h62 => ?_)
        · exact skip _ _ _ c5 hf (no' (fun q => q.2.elim (fun z => nI_m1 (by omega) (e.symm.trans z)) (Int32.not_lt.mpr h62)))
        · exact from65 (.inr (Int32.not_le.mp h62))
  refine bc_aload_n dX10_pilot_0 rfl ?_
  refine bc_iconst (v := 0) dX10_pilot_1 (by decide) ?_
  refine bc_put dX10_pilot_2 fX10_3 ftX10 fpX10_0 rfl rfl (rfl) rfl ?_
  refine bc_aload_n dX10_pilot_5 rfl ?_
  refine bc_iload_n dX10_pilot_6 rfl ?_
  refine bc_iconst (v := 1) dX10_pilot_7 (by decide) ?_
  refine bc_callV (z := mX10_isMooring) (ci := 10) dX10_pilot_8 lX10_395 qX10_isMooring (by rfl) (by rfl) (by rfl) (by rfl) (Nat.le_of_ble_eq_true rfl) (t_isMooringY hE.2.1.2.2.2 h6 (gq hk (by omega)) rfl (by decide)) (fun r8 μ8 e8 => ?_)
  obtain ⟨rfl, q8⟩ := e8
  obtain rfl := q8.symm
  refine bc_if_eq (tgt := 30) dX10_pilot_11 (by decide) (fun h11 => absurd h11 (by decide)) (fun h11 => ?_)
  refine bc_aload_n dX10_pilot_14 rfl ?_
  refine bc_iload_n dX10_pilot_15 rfl ?_
  refine bc_iconst (v := 0) dX10_pilot_16 (by decide) ?_
  refine bc_bipush (v := 12) dX10_pilot_17 (by decide) ?_
  refine bc_callS (z := mX10_within) dX10_pilot_19 lX10_384 qX10_within (by rfl) (by rfl) (Nat.le_of_ble_eq_true rfl) (t_within _ _ _) (fun r19 μ19 e19 => ?_)
  obtain ⟨rfl, q19⟩ := e19
  obtain rfl := q19.symm
  refine bc_iconst (v := 2) dX10_pilot_22 (by decide) ?_
  refine bc_iconst (v := 1) dX10_pilot_23 (by decide) ?_
  refine bc_callV (z := mX10_may) (ci := 10) dX10_pilot_24 lX10_236 qX10_may (by rfl) (by rfl) (by rfl) (by rfl) (Nat.le_of_ble_eq_true rfl) (t_mayY (k := 1) _ (wN (b := 12) hh (by omega)) _ (by decide) rfl (by decide)) (fun r24 μ24 e24 => ?_)
  obtain ⟨rfl, q24⟩ := e24
  obtain rfl := q24.symm
  refine bc_if_ne (tgt := 32) dX10_pilot_27 (by decide) (fun h27 => ?_) (fun h27 => absurd h27 (by decide))
  refine bc_iconst (v := (-1)) dX10_pilot_32 (by decide) ?_
  refine bc_istore_n dX10_pilot_33 (by decide) rfl ?_
  refine bc_iconst (v := 0) dX10_pilot_34 (by decide) ?_
  refine bc_istore dX10_pilot_35 (by decide) rfl ?_
  exact loop (2 ^ no) 0 _ _ rfl (by omega) (fun _ _ _ _ => rfl)
end T68
