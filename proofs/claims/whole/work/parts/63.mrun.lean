/-! the reference: what a step does, a run of steps -/
section T63
variable {d : Nat} {m m0 ν M : bc_M} {n no nq nr nm : Nat} {A : Row} {f : Nat → Int32}
theorem sR_hl {o : Nat} {v : Int32} (h : sR A f) (ho : o < 8) : sR (upd A (o + 6) v) (upd f o v) := by
  obtain ⟨s1, s2, s3, s4, s5, s6, s7, s8, s9⟩ := h
  have u1 : ∀ j, j ≠ o → upd f o v j = f j := fun j hj => by simp [upd, hj]
  have u2 : ∀ j, j ≠ o + 6 → upd A (o + 6) v j = A j := fun j hj => by simp [upd, hj]
  refine ⟨fun p hp => ?_, fun p hp => ?_, fun q hq => ?_, fun q hq => ?_, ?_, ?_, ?_, ?_, ?_⟩
  · by_cases e : p = o
    · subst e; simp [upd]
    · rw [u1 p e, u2 _ (by omega)]; exact s1 p hp
  · rw [u1 _ (by omega), u2 _ (by omega)]; exact s2 p hp
  · rw [u1 _ (by omega), u2 _ (by omega)]; exact s3 q hq
  · rw [u1 _ (by omega), u2 _ (by omega)]; exact s4 q hq
  · rw [u1 _ (by omega), u2 _ (by omega)]; exact s5
  · rw [u1 _ (by omega), u2 _ (by omega)]; exact s6
  · rw [u1 _ (by omega), u2 _ (by omega)]; exact s7
  · rw [u1 _ (by omega), u2 _ (by omega)]; exact s8
  · rw [u1 _ (by omega), u2 _ (by omega)]; exact s9
theorem sR_on {o : Nat} {v : Int32} (h : sR A f) (ho : o < 6) : sR (upd A (o + 22) v) (upd f (16 + o) v) := by
  obtain ⟨s1, s2, s3, s4, s5, s6, s7, s8, s9⟩ := h
  have u1 : ∀ j, j ≠ 16 + o → upd f (16 + o) v j = f j := fun j hj => by simp [upd, hj]
  have u2 : ∀ j, j ≠ o + 22 → upd A (o + 22) v j = A j := fun j hj => by simp [upd, hj]
  refine ⟨fun p hp => ?_, fun p hp => ?_, fun q hq => ?_, fun q hq => ?_, ?_, ?_, ?_, ?_, ?_⟩
  · rw [u1 _ (by omega), u2 _ (by omega)]; exact s1 p hp
  · rw [u1 _ (by omega), u2 _ (by omega)]; exact s2 p hp
  · by_cases e : q = o
    · subst e; simp [upd]
    · rw [u1 _ (by omega), u2 _ (by omega)]; exact s3 q hq
  · rw [u1 _ (by omega), u2 _ (by omega)]; exact s4 q hq
  · rw [u1 _ (by omega), u2 _ (by omega)]; exact s5
  · rw [u1 _ (by omega), u2 _ (by omega)]; exact s6
  · rw [u1 _ (by omega), u2 _ (by omega)]; exact s7
  · rw [u1 _ (by omega), u2 _ (by omega)]; exact s8
  · rw [u1 _ (by omega), u2 _ (by omega)]; exact s9
theorem xb_eq (x : Int32) {q : Nat} (hq : q < 6) : (x ^^^ 1 <<< (nI q &&& 31)) >>> (nI q &&& 31) &&& 1 = 1 - (x >>> (nI q &&& 31) &&& 1) := by
  rw [b_get _ (by omega), b_get _ (by omega), b_xor, b_sh1 (by omega) (by omega), decide_eq_true rfl]
  cases bt x q <;> rfl
theorem xb_ne (x : Int32) {q p : Nat} (hq : q < 6) (hp : p < 6) (h : p ≠ q) : (x ^^^ 1 <<< (nI q &&& 31)) >>> (nI p &&& 31) &&& 1 = x >>> (nI p &&& 31) &&& 1 := by
  rw [b_get _ (by omega), b_get _ (by omega), b_xor, b_sh1 (by omega) (by omega), decide_eq_false h]
  cases bt x p <;> rfl
theorem sR_cold {o : Nat} (h : sR A f) (ho : o < 6) : sR (upd A 5 (A 5 ^^^ 1 <<< (nI o &&& 31))) (upd f (22 + o) (1 - f (22 + o))) := by
  obtain ⟨s1, s2, s3, s4, s5, s6, s7, s8, s9⟩ := h
  have u1 : ∀ j, j ≠ 22 + o → upd f (22 + o) (1 - f (22 + o)) j = f j := fun j hj => by simp [upd, hj]
  have u2 : ∀ j, j ≠ 5 → upd A 5 (A 5 ^^^ 1 <<< (nI o &&& 31)) j = A j := fun j hj => by simp [upd, hj]
  have u3 : upd A 5 (A 5 ^^^ 1 <<< (nI o &&& 31)) 5 = A 5 ^^^ 1 <<< (nI o &&& 31) := by simp [upd]
  refine ⟨fun p hp => ?_, fun p hp => ?_, fun q hq => ?_, fun q hq => ?_, ?_, ?_, ?_, ?_, ?_⟩
  · rw [u1 _ (by omega), u2 _ (by omega)]; exact s1 p hp
  · rw [u1 _ (by omega), u2 _ (by omega)]; exact s2 p hp
  · rw [u1 _ (by omega), u2 _ (by omega)]; exact s3 q hq
  · rw [u3]
    by_cases e : q = o
    · subst e; rw [xb_eq _ hq, ← s4 q hq]; simp [upd]
    · rw [u1 _ (by omega), xb_ne _ ho hq e]; exact s4 q hq
  · rw [u1 _ (by omega), u2 _ (by omega)]; exact s5
  · rw [u1 _ (by omega), u2 _ (by omega)]; exact s6
  · rw [u1 _ (by omega), u2 _ (by omega)]; exact s7
  · rw [u1 _ (by omega), u2 _ (by omega)]; exact s8
  · rw [u1 _ (by omega), u2 _ (by omega)]; exact s9
def okH (A : Row) : Prop := 0 ≤ (A 2).toInt ∧ (A 2).toInt ≤ 900
theorem act_0 {a b : Nat} : actR M n no nq (0, a, b) A = (!decide (0 < A (a + 6) ∨ ¬ 0 < A 3), liR A a) := by
  simp only [actR, liR, if_true]
  by_cases h : 0 < A (a + 6) ∨ ¬ 0 < A 3
  · rw [if_pos h, if_pos h, decide_eq_true h]; rfl
  · rw [if_neg h, if_neg h, decide_eq_false h]; rfl
theorem act_1 {a b : Nat} : actR M n no nq (1, a, b) A = (if 0 < A (a + 6) then (true, upd A (a + 6) 0) else (false, A)) := rfl
theorem act_2 {a b : Nat} : actR M n no nq (2, a, b) A = (if A (a + 22) = nI b then (false, A) else (true, upd A (a + 22) (nI b))) := rfl
theorem act_3 {a b : Nat} : actR M n no nq (3, a, b) A = (true, upd A 5 (A 5 ^^^ 1 <<< (nI a &&& 31))) := rfl
theorem act_4 {a b : Nat} : actR M n no nq (4, a, b) A = (if 900 ≤ A 2 then (false, A) else (true, hourR M n no nq A)) := rfl
theorem okA_act {z : PE} (hz : okE no nq z) (hno : no ≤ 8) (hA : okA no A) (hH : okH A) : okA no (actR M n no nq z A).2 ∧ okH (actR M n no nq z A).2 := by
  obtain ⟨w, a, b⟩ := z
  obtain ⟨z1, z2, z3, z4, z5⟩ := hz
  simp only at z1 z2 z3 z4 z5
  have hc : w = 0 ∨ w = 1 ∨ w = 2 ∨ w = 3 ∨ w = 4 := by omega
  rcases hc with rfl | rfl | rfl | rfl | rfl
  · rw [act_0]
    refine ⟨okA_li hA (z2 (by omega)), ?_⟩
    show okH (liR A a)
    unfold okH liR
    by_cases h : 0 < A (a + 6) ∨ ¬ 0 < A 3
    · rw [if_pos h]; exact hH
    · rw [if_neg h]
      have e : upd (upd (upd A (a + 6) 4) (a + 14) (A (a + 14) + 1)) 3 (A 3 - 1) 2 = A 2 := by simp [upd]
      rw [e]; exact hH
  · rw [act_1]
    by_cases h : 0 < A (a + 6)
    · rw [if_pos h]
      obtain ⟨a1, a2, a3, a4⟩ := hA
      have u2 : ∀ j, j ≠ a + 6 → upd A (a + 6) 0 j = A j := fun j hj => by simp [upd, hj]
      have ha := z2 (by omega)
      refine ⟨⟨fun o ho => ?_, fun o h1 h2 => ?_, ?_, ?_⟩, ?_⟩
      · by_cases e : o = a
        · subst e; simp [upd]
        · simp only; rw [u2 _ (by omega)]; exact a1 o ho
      · simp only; rw [u2 _ (by omega)]; exact a2 o h1 h2
      · simp only; rw [u2 _ (by omega)]; exact a3
      · simp only; rw [u2 _ (by omega), u2 _ (by omega)]; exact a4
      · unfold okH; simp only; rw [u2 _ (by omega)]; exact hH
    · rw [if_neg h]; exact ⟨hA, hH⟩
  · rw [act_2]
    by_cases h : A (a + 22) = nI b
    · rw [if_pos h]; exact ⟨hA, hH⟩
    · rw [if_neg h]
      obtain ⟨a1, a2, a3, a4⟩ := hA
      have u2 : ∀ j, j ≠ a + 22 → upd A (a + 22) (nI b) j = A j := fun j hj => by simp [upd, hj]
      refine ⟨⟨fun o ho => ?_, fun o h1 h2 => ?_, ?_, ?_⟩, ?_⟩
      · simp only; rw [u2 _ (by omega)]; exact a1 o ho
      · simp only; rw [u2 _ (by omega)]; exact a2 o h1 h2
      · simp only; rw [u2 _ (by omega)]; exact a3
      · simp only; rw [u2 _ (by omega), u2 _ (by omega)]; exact a4
      · unfold okH; simp only; rw [u2 _ (by omega)]; exact hH
  · rw [act_3]
    obtain ⟨a1, a2, a3, a4⟩ := hA
    have u2 : ∀ j, j ≠ 5 → upd A 5 (A 5 ^^^ 1 <<< (nI a &&& 31)) j = A j := fun j hj => by simp [upd, hj]
    refine ⟨⟨fun o ho => ?_, fun o h1 h2 => ?_, ?_, ?_⟩, ?_⟩
    · simp only; rw [u2 _ (by omega)]; exact a1 o ho
    · simp only; rw [u2 _ (by omega)]; exact a2 o h1 h2
    · simp only; rw [u2 _ (by omega)]; exact a3
    · simp only; rw [u2 _ (by omega), u2 _ (by omega)]; exact a4
    · unfold okH; simp only; rw [u2 _ (by omega)]; exact hH
  · rw [act_4]
    by_cases h : 900 ≤ A 2
    · rw [if_pos h]; exact ⟨hA, hH⟩
    · rw [if_neg h]
      refine ⟨okA_hour hA, ?_⟩
      unfold okH at hH ⊢
      rw [bn_le, show (900 : Int32).toInt = 900 from rfl] at h
      show 0 ≤ (A 2 + 1).toInt ∧ (A 2 + 1).toInt ≤ 900
      rw [Int32.toInt_add, show (1 : Int32).toInt = 1 from rfl, Int.bmod_eq_of_le (by omega) (by omega)]
      omega
theorem t_goesC {w a b : Nat} (hE : mEnv M m n no nq nr nm) (hs : sR A (m 20)) (hA : okA no A) (hH : okH A) (hz : okE no nq (w, a, b)) : bc_C (d + 7) LM mX10_goes [.ref 0, .int (nI w), .int (nI a), .int (nI b)] m (fun r ν => r = some (.int (if (actR M n no nq (w, a, b) A).1 = true then 1 else 0)) ∧ (∀ i, i ≠ 15 → i ≠ 16 → i ≠ 20 → ν i = m i) ∧ sR (actR M n no nq (w, a, b) A).2 (ν 20)) := by
  refine bc_enter (by decide) (Nat.le_of_ble_eq_true rfl) rfl ?_
  have h8 := hE.o8
  have h6 := hE.q6
  obtain ⟨z1, z2, z3, z4, z5⟩ := hz
  simp only at z1 z2 z3 z4 z5
  have hu : ∀ (g : Nat → Int32) i, i ≠ 15 → i ≠ 16 → i ≠ 20 → bc_us m 20 g i = m i := fun g i _ _ h => by simp only [bc_us, h, if_false]
  have hc : w = 0 ∨ w = 1 ∨ w = 2 ∨ w = 3 ∨ w = 4 := by omega
  rcases hc with rfl | rfl | rfl | rfl | rfl
  · have ha := z2 (by omega)
    rw [act_0]
    have fin : some (Value.int (if 0 < A (a + 6) ∨ ¬ 0 < A 3 then 0 else 1)) = some (Value.int (if (!decide (0 < A (a + 6) ∨ ¬ 0 < A 3), liR A a).1 = true then 1 else 0)) := by
      by_cases h : 0 < A (a + 6) ∨ ¬ 0 < A 3
      · rw [if_pos h, decide_eq_true h]; rfl
      · rw [if_neg h, decide_eq_false h]; rfl
    refine bc_iload_n dX10_goes_0 rfl ?_
    refine bc_if_ne (tgt := 10) dX10_goes_1 (by decide) (fun h1 => absurd h1 (fun q => q rfl)) (fun h1 => ?_)
    refine bc_aload_n dX10_goes_4 rfl ?_
    refine bc_iload_n dX10_goes_5 rfl ?_
    refine bc_callV (z := mX10_lights) (ci := 10) dX10_goes_6 lX10_378 qX10_lights (by rfl) (by rfl) (by rfl) (by rfl) (Nat.le_of_ble_eq_true rfl) (t_lights hs hA (by omega)) (fun r6 μ6 e6 => ?_)
    obtain ⟨rfl, f6, rfl, s6⟩ := e6
    exact bc_ireturn dX10_goes_9 rfl (by split <;> rfl) (⟨fin, hu f6, s6⟩)
  · have ha := z2 (by omega)
    have es := hs.1 a (by omega)
    have h0 := (hA.1 a (by omega)).1
    rw [act_1]
    have ng : m 20 a = 0 → ¬ 0 < A (a + 6) := by
      intro q
      rw [← es, q]
      decide
    have ps : ¬ m 20 a = 0 → 0 < A (a + 6) := by
      intro q
      rw [es, bn_eq, bn_0] at q
      rw [bn_lt, bn_0]
      omega
    refine bc_iload_n dX10_goes_0 rfl ?_
    refine bc_if_ne (tgt := 10) dX10_goes_1 (by decide) (fun h1 => ?_) (fun h1 => absurd h1 (by decide))
    refine bc_iload_n dX10_goes_10 rfl ?_
    refine bc_iconst (v := 1) dX10_goes_11 (by decide) ?_
    refine bc_icmp_ne (tgt := 39) dX10_goes_12 (by decide) (fun h12 => absurd h12 (fun q => q rfl)) (fun h12 => ?_)
    refine bc_aload_n dX10_goes_15 rfl ?_
    refine bc_getr dX10_goes_16 fX10_74 (rfl) rfl ?_
    refine bc_iconst (v := 0) dX10_goes_19 (by decide) ?_
    refine bc_iload_n dX10_goes_20 rfl ?_
    refine bc_iadd dX10_goes_21 ?_
    refine bc_ialdE (k := a) dX10_goes_22 (rfl) (ix0 (rfl)) (⟨by omega, by decide⟩) ?_
    refine bc_if_ne (tgt := 28) dX10_goes_23 (by decide) (fun h23 => ?_) (fun h23 => ?_)
    · refine bc_aload_n dX10_goes_28 rfl ?_
      refine bc_getr dX10_goes_29 fX10_74 (rfl) rfl ?_
      refine bc_iconst (v := 0) dX10_goes_32 (by decide) ?_
      refine bc_iload_n dX10_goes_33 rfl ?_
      refine bc_iadd dX10_goes_34 ?_
      refine bc_iconst (v := 0) dX10_goes_35 (by decide) ?_
      refine bc_iastE (k := a) dX10_goes_36 (rfl) (ix0 (rfl)) (⟨by omega, by decide⟩) ?_
      refine bc_iconst (v := 1) dX10_goes_37 (by decide) ?_
      exact bc_ireturn dX10_goes_38 rfl rfl (⟨by rw [if_pos (ps h23)]; rfl, fun i h1 h2 h3 => by rw [bc_u_us]; exact hu _ i h1 h2 h3, by rw [if_pos (ps h23), bc_u_at]; exact sR_hl hs (by omega)⟩)
    · refine bc_iconst (v := 0) dX10_goes_26 (by decide) ?_
      exact bc_ireturn dX10_goes_27 rfl rfl (⟨by rw [if_neg (ng h23)]; rfl, fun _ _ _ _ => rfl, by rw [if_neg (ng h23)]; exact hs⟩)
  · have ha := z3 (by omega)
    have es := hs.2.2.1 a (by omega)
    rw [act_2]
    refine bc_iload_n dX10_goes_0 rfl ?_
    refine bc_if_ne (tgt := 10) dX10_goes_1 (by decide) (fun h1 => ?_) (fun h1 => absurd h1 (by decide))
    refine bc_iload_n dX10_goes_10 rfl ?_
    refine bc_iconst (v := 1) dX10_goes_11 (by decide) ?_
    refine bc_icmp_ne (tgt := 39) dX10_goes_12 (by decide) (fun h12 => ?_) (fun h12 => absurd h12 (by decide))
    refine bc_iload_n dX10_goes_39 rfl ?_
    refine bc_iconst (v := 2) dX10_goes_40 (by decide) ?_
    refine bc_icmp_ne (tgt := 71) dX10_goes_41 (by decide) (fun h41 => absurd h41 (fun q => q rfl)) (fun h41 => ?_)
    refine bc_aload_n dX10_goes_44 rfl ?_
    refine bc_getr dX10_goes_45 fX10_74 (rfl) rfl ?_
    refine bc_bipush (v := 16) dX10_goes_48 (by decide) ?_
    refine bc_iload_n dX10_goes_50 rfl ?_
    refine bc_iadd dX10_goes_51 ?_
    refine bc_ialdE (k := 16 + a) dX10_goes_52 (rfl) (ixA (a := 16) (b := a) (rfl) (rfl)) (⟨by omega, by decide⟩) ?_
    refine bc_iload_n dX10_goes_53 rfl ?_
    refine bc_icmp_ne (tgt := 59) dX10_goes_54 (by decide) (fun h54 => ?_) (fun h54 => ?_)
    · refine bc_aload_n dX10_goes_59 rfl ?_
      refine bc_getr dX10_goes_60 fX10_74 (rfl) rfl ?_
      refine bc_bipush (v := 16) dX10_goes_63 (by decide) ?_
      refine bc_iload_n dX10_goes_65 rfl ?_
      refine bc_iadd dX10_goes_66 ?_
      refine bc_iload_n dX10_goes_67 rfl ?_
      refine bc_iastE (k := 16 + a) dX10_goes_68 (rfl) (ixA (a := 16) (b := a) (rfl) (rfl)) (⟨by omega, by decide⟩) ?_
      refine bc_iconst (v := 1) dX10_goes_69 (by decide) ?_
      exact bc_ireturn dX10_goes_70 rfl rfl (⟨by rw [if_neg (fun e => h54 (es.trans e))]; rfl, fun i h1 h2 h3 => by rw [bc_u_us]; exact hu _ i h1 h2 h3, by rw [if_neg (fun e => h54 (es.trans e)), bc_u_at]; exact sR_on hs (by omega)⟩)
    · refine bc_iconst (v := 0) dX10_goes_57 (by decide) ?_
      exact bc_ireturn dX10_goes_58 rfl rfl (⟨by rw [if_pos (es.symm.trans h54)]; rfl, fun _ _ _ _ => rfl, by rw [if_pos (es.symm.trans h54)]; exact hs⟩)
  · have ha := z3 (by omega)
    rw [act_3]
    refine bc_iload_n dX10_goes_0 rfl ?_
    refine bc_if_ne (tgt := 10) dX10_goes_1 (by decide) (fun h1 => ?_) (fun h1 => absurd h1 (by decide))
    refine bc_iload_n dX10_goes_10 rfl ?_
    refine bc_iconst (v := 1) dX10_goes_11 (by decide) ?_
    refine bc_icmp_ne (tgt := 39) dX10_goes_12 (by decide) (fun h12 => ?_) (fun h12 => absurd h12 (by decide))
    refine bc_iload_n dX10_goes_39 rfl ?_
    refine bc_iconst (v := 2) dX10_goes_40 (by decide) ?_
    refine bc_icmp_ne (tgt := 71) dX10_goes_41 (by decide) (fun h41 => ?_) (fun h41 => absurd h41 (by decide))
    refine bc_iload_n dX10_goes_71 rfl ?_
    refine bc_iconst (v := 3) dX10_goes_72 (by decide) ?_
    refine bc_icmp_ne (tgt := 98) dX10_goes_73 (by decide) (fun h73 => absurd h73 (fun q => q rfl)) (fun h73 => ?_)
    refine bc_aload_n dX10_goes_76 rfl ?_
    refine bc_getr dX10_goes_77 fX10_74 (rfl) rfl ?_
    refine bc_bipush (v := 22) dX10_goes_80 (by decide) ?_
    refine bc_iload_n dX10_goes_82 rfl ?_
    refine bc_iadd dX10_goes_83 ?_
    refine bc_iconst (v := 1) dX10_goes_84 (by decide) ?_
    refine bc_aload_n dX10_goes_85 rfl ?_
    refine bc_getr dX10_goes_86 fX10_74 (rfl) rfl ?_
    refine bc_bipush (v := 22) dX10_goes_89 (by decide) ?_
    refine bc_iload_n dX10_goes_91 rfl ?_
    refine bc_iadd dX10_goes_92 ?_
    refine bc_ialdE (k := 22 + a) dX10_goes_93 (rfl) (ixA (a := 22) (b := a) (rfl) (rfl)) (⟨by omega, by decide⟩) ?_
    refine bc_isub dX10_goes_94 ?_
    refine bc_iastE (k := 22 + a) dX10_goes_95 (rfl) (ixA (a := 22) (b := a) (rfl) (rfl)) (⟨by omega, by decide⟩) ?_
    refine bc_iconst (v := 1) dX10_goes_96 (by decide) ?_
    exact bc_ireturn dX10_goes_97 rfl rfl (⟨rfl, fun i h1 h2 h3 => by rw [bc_u_us]; exact hu _ i h1 h2 h3, by rw [bc_u_at]; exact sR_cold hs (by omega)⟩)
  · rw [act_4]
    have e9 : ∀ v : Int32, v = 900 ↔ v.toInt = 900 := fun v => by rw [bn_eq]; rfl
    have hle : 900 ≤ A 2 ↔ m 20 32 = 900 := by
      rw [hs.2.2.2.2.2.2.2.2, e9, bn_le, show (900 : Int32).toInt = 900 from rfl]
      have := hH.2
      omega
    refine bc_iload_n dX10_goes_0 rfl ?_
    refine bc_if_ne (tgt := 10) dX10_goes_1 (by decide) (fun h1 => ?_) (fun h1 => absurd h1 (by decide))
    refine bc_iload_n dX10_goes_10 rfl ?_
    refine bc_iconst (v := 1) dX10_goes_11 (by decide) ?_
    refine bc_icmp_ne (tgt := 39) dX10_goes_12 (by decide) (fun h12 => ?_) (fun h12 => absurd h12 (by decide))
    refine bc_iload_n dX10_goes_39 rfl ?_
    refine bc_iconst (v := 2) dX10_goes_40 (by decide) ?_
    refine bc_icmp_ne (tgt := 71) dX10_goes_41 (by decide) (fun h41 => ?_) (fun h41 => absurd h41 (by decide))
    refine bc_iload_n dX10_goes_71 rfl ?_
    refine bc_iconst (v := 3) dX10_goes_72 (by decide) ?_
    refine bc_icmp_ne (tgt := 98) dX10_goes_73 (by decide) (fun h73 => ?_) (fun h73 => absurd h73 (by decide))
    refine bc_aload_n dX10_goes_98 rfl ?_
    refine bc_getr dX10_goes_99 fX10_74 (rfl) rfl ?_
    refine bc_bipush (v := 32) dX10_goes_102 (by decide) ?_
    refine bc_ialdE (k := 32) dX10_goes_104 (rfl) (rfl) (⟨by omega, by decide⟩) ?_
    refine bc_sipush (v := 900) dX10_goes_105 (by decide) ?_
    refine bc_icmp_ne (tgt := 113) dX10_goes_108 (by decide) (fun h108 => ?_) (fun h108 => ?_)
    · refine bc_aload_n dX10_goes_113 rfl ?_
      refine bc_callV (z := mX10_passes) (ci := 10) dX10_goes_114 lX10_381 qX10_passes (by rfl) (by rfl) (by rfl) (by rfl) (Nat.le_of_ble_eq_true rfl) (t_passes hE hs hA) (fun r114 μ114 e114 => ?_)
      obtain ⟨rfl, f114, s114⟩ := e114
      refine bc_iconst (v := 1) dX10_goes_117 (by decide) ?_
      exact bc_ireturn dX10_goes_118 rfl rfl (⟨by rw [if_neg (fun e => h108 (hle.mp e))]; rfl, f114, by rw [if_neg (fun e => h108 (hle.mp e))]; exact s114⟩)
    · refine bc_iconst (v := 0) dX10_goes_111 (by decide) ?_
      exact bc_ireturn dX10_goes_112 rfl rfl (⟨by rw [if_pos (hle.mpr h108)]; rfl, fun _ _ _ _ => rfl, by rw [if_pos (hle.mpr h108)]; exact hs⟩)
theorem t_goes {z : PE} (hE : mEnv M m n no nq nr nm) (hs : sR A (m 20)) (hA : okA no A) (hH : okH A) (hz : okE no nq z) : bc_C (d + 7) LM mX10_goes [.ref 0, .int (nI z.1), .int (nI z.2.1), .int (nI z.2.2)] m (fun r ν => r = some (.int (if (actR M n no nq z A).1 = true then 1 else 0)) ∧ (∀ i, i ≠ 15 → i ≠ 16 → i ≠ 20 → ν i = m i) ∧ sR (actR M n no nq z A).2 (ν 20)) := t_goesC hE hs hA hH hz
/-! a run -/
def stR (g : Nat → Int32) (l : List PE) : Prop := ∀ i z, l[i]? = some z → g (3 * i) = nI z.1 ∧ g (3 * i + 1) = nI z.2.1 ∧ g (3 * i + 2) = nI (if z.1 = 5 then 3 * z.2.2 else z.2.2)
def mR (no : Nat) (m0 : bc_M) (s : RSt) (μ : bc_M) : Prop := (∀ i, i ≠ 0 → i ≠ 15 → i ≠ 16 → i ≠ 20 → μ i = m0 i) ∧ (∀ k, k ≠ 42 → k ≠ 43 → k ≠ 44 → μ 0 k = m0 0 k) ∧ (μ 0 42 = nI s.1 ∧ μ 0 43 = nI s.2.1 ∧ μ 0 44 = nI s.2.2.1) ∧ sR s.2.2.2 (μ 20) ∧ okA no s.2.2.2 ∧ okH s.2.2.2
theorem mR.env {s : RSt} (h : mR no m0 s m) (hE : mEnv M m0 n no nq nr nm) : mEnv M m n no nq nr nm := hE.mv (fun k h1 h2 => h.2.1 k (by omega) (by omega) (by omega)) (fun i h1 h2 => h.1 i (by omega) (by omega) (by omega) (by omega))
theorem iterR_full {l : List PE} {act : PE → Row → Bool × Row} {c p q : Nat} {s : RSt} (h : 200 ≤ s.1) : ∀ k, iterR (runP l act c p q) k s = s := by
  intro k
  induction k with
  | zero => rfl
  | succ k ih =>
    simp only [iterR]
    rw [ih]
    cases c with
    | zero => rfl
    | succ c => simp only [runP]; rw [if_neg (by omega)]
theorem iterR_add {g : RSt → RSt} {s : RSt} (k : Nat) : ∀ j, iterR g (k + j) s = iterR g j (iterR g k s) := by
  intro j
  induction j with
  | zero => rfl
  | succ j ih => show g (iterR g (k + j) s) = _; rw [ih]; rfl
theorem t_runW {l : List PE} (hE : mEnv M m0 n no nq nr nm) (hl : stR (m0 18) l) (hl50 : 3 * l.length ≤ 150) : ∀ (c D dep p q : Nat) (s : RSt) (μ : bc_M) (v1 v4 v5 : Value), D = d + dep + 8 → dep ≤ 6 → BlkX no nq l dep p q → q ≤ l.length → mR no m0 s μ → s.1 ≤ 200 → 201 ≤ c + s.1 → v1.category = 1 → v4.category = 1 → v5.category = 1 → bc_W D LM mX10_goesSteps 2 [.ref 0, v1, .int (nI (3 * q)), .int (nI (3 * p)), v4, v5] [] μ (fun r ν => r = none ∧ mR no m0 (runP l (actR M n no nq) c p q s) ν) := by
  intro c
  induction c with
  | zero => intro D dep p q s μ v1 v4 v5 hD h6 hb hq h hs hf; omega
  | succ c ih =>
    intro D dep p q s μ v1 v4 v5 hD h6 hb hq h hs hf c1 c4 c5
    have hC : ∀ (D' dep' p q : Nat) (s : RSt) (μ : bc_M), D' = d + dep' + 8 → dep' ≤ 6 → BlkX no nq l dep' p q → q ≤ l.length → mR no m0 s μ → s.1 ≤ 200 → 201 ≤ c + s.1 → bc_C D' LM mX10_goesSteps [.ref 0, .int (nI (3 * p)), .int (nI (3 * q))] μ (fun r ν => r = none ∧ mR no m0 (runP l (actR M n no nq) c p q s) ν) := by
      intro D' dep' p q s μ hD' h6' hb' hq' h' hs' hf'
      refine bc_enter (by decide) (Nat.le_of_ble_eq_true rfl) rfl ?_
      refine bc_iload_n dX10_goesSteps_0 rfl ?_
      refine bc_istore_n dX10_goesSteps_1 (by decide) rfl ?_
      exact ih D' dep' p q s μ _ _ _ hD' h6' hb' hq' h' hs' hf' rfl rfl rfl
    obtain ⟨E, rfl⟩ : ∃ E, D = E + 8 := ⟨d + dep, hD⟩
    have hb1 := h.2.2.1.1
    have h18 : μ 18 = m0 18 := h.1 18 (by decide) (by decide) (by decide) (by decide)
    rcases BlkX_cs hb with e | ⟨hpq, z, hz, hc⟩
    · subst e
      have hr : runP l (actR M n no nq) (c + 1) p p s = s := by simp only [runP]; rw [if_neg (by omega)]
      rw [hr]
      refine bc_iload_n dX10_goesSteps_2 rfl ?_
      refine bc_iload_n dX10_goesSteps_3 rfl ?_
      refine bc_icmp_ge (tgt := 152) dX10_goesSteps_4 (by decide) (fun h4 => ?_) (fun h4 => absurd h4 (fun x => x (Int32.le_refl _)))
      exact bc_return dX10_goesSteps_152 rfl (⟨rfl, h⟩)
    · by_cases h200 : s.1 < 200
      · obtain ⟨g1, g2, g3⟩ := hl p z hz
        have b1 : mR no m0 (s.1 + 1, s.2) (bc_u μ 0 42 (nI s.1 + 1)) := by
          refine ⟨fun i h0 h1 h2 h3 => ?_, fun k h1 h2 h3 => ?_, ⟨?_, ?_, ?_⟩, ?_, h.2.2.2.2⟩
          · rw [bc_u_ne _ _ _ h0]; exact h.1 i h0 h1 h2 h3
          · rw [bc_u_r, if_neg (by omega)]; exact h.2.1 k h1 h2 h3
          · rw [bc_u_r, if_pos ⟨rfl, rfl⟩, bn_add1]
          · exact h.2.2.1.2.1
          · exact h.2.2.1.2.2
          · exact h.2.2.2.1
        obtain ⟨μ1, hμ1⟩ : ∃ μ1, μ1 = bc_u μ 0 42 (nI s.1 + 1) := ⟨_, rfl⟩
        rw [← hμ1] at b1
        have k18 : μ1 18 = m0 18 := b1.1 18 (by decide) (by decide) (by decide) (by decide)
        rcases hc with ⟨ho, hb2⟩ | ⟨hz5, hz30, dep', hdep, hb2, hb3, hb4, hb5⟩
        · have hn5 : ¬ z.1 = 5 := by have := ho.1; omega
          have hr : runP l (actR M n no nq) (c + 1) p q s = runP l (actR M n no nq) c (p + 1) q (rstep (actR M n no nq) z s) := by
            simp only [runP]; rw [if_pos ⟨hpq, h200⟩, hz]; simp only; rw [if_neg hn5]
          rw [hr]
          have hact := okA_act (M := M) (n := n) ho hE.o8 h.2.2.2.2.1 h.2.2.2.2.2
          have fin : ∀ (ν : bc_M), mR no m0 (rstep (actR M n no nq) z s) ν → bc_W (E + 8) LM mX10_goesSteps 146 [.ref 0, v1, .int (nI (3 * q)), .int (nI (3 * p)), v4, v5] [] ν (fun r ν => r = none ∧ mR no m0 (runP l (actR M n no nq) c (p + 1) q (rstep (actR M n no nq) z s)) ν) := by
            intro ν hν
            have h2 := ih (E + 8) dep (p + 1) q (rstep (actR M n no nq) z s) ν v1 v4 v5 hD h6 hb2 hq hν (by show s.1 + 1 ≤ 200; omega) (by show 201 ≤ c + (s.1 + 1); omega) c1 c4 c5
            refine bc_iinc (v := nI (3 * (p + 1))) dX10_goesSteps_146 rfl (by rw [show Int32.ofInt 3 = nI 3 from rfl, bn_add]; rfl) (by decide) rfl ?_
            refine bc_goto (tgt := 2) dX10_goesSteps_149 (by decide) ?_
            exact h2
          refine bc_iload_n dX10_goesSteps_2 rfl ?_
          refine bc_iload_n dX10_goesSteps_3 rfl ?_
          refine bc_icmp_ge (tgt := 152) dX10_goesSteps_4 (by decide) (fun h4 => absurd h4 (by rw [bn_leN (by omega) (by omega)]; omega)) (fun h4 => ?_)
          refine bc_aload_n dX10_goesSteps_7 rfl ?_
          refine bc_geti dX10_goesSteps_8 fX10_336 (rfl) rfl ?_
          refine bc_sipush (v := 200) dX10_goesSteps_11 (by decide) ?_
          refine bc_icmp_ge (tgt := 152) dX10_goesSteps_14 (by decide) (fun h14 => absurd h14 (by rw [hb1, show (200 : Int32) = nI 200 from rfl, bn_leN (by omega) (by omega)]; omega)) (fun h14 => ?_)
          refine bc_aload_n dX10_goesSteps_17 rfl ?_
          refine bc_dup dX10_goesSteps_18 rfl ?_
          refine bc_geti dX10_goesSteps_19 fX10_336 (rfl) rfl ?_
          refine bc_iconst (v := 1) dX10_goesSteps_22 (by decide) ?_
          rw [hb1]
          refine bc_iadd dX10_goesSteps_23 ?_
          refine bc_put dX10_goesSteps_24 fX10_336 ftX10 fpX10_42 rfl rfl (rfl) rfl ?_
          rw [← hμ1]
          refine bc_aload_n dX10_goesSteps_27 rfl ?_
          refine bc_getr dX10_goesSteps_28 fX10_68 (rfl) rfl ?_
          refine bc_iload_n dX10_goesSteps_31 rfl ?_
          refine bc_ialdE (k := (3 * p)) dX10_goesSteps_32 (rfl) (rfl) (⟨by omega, by decide⟩) ?_
          rw [k18, g1]
          refine bc_iconst (v := 5) dX10_goesSteps_33 (by decide) ?_
          refine bc_icmp_ne (tgt := 94) dX10_goesSteps_34 (by decide) (fun h34 => ?_) (fun h34 => absurd h34 (by rw [show (5 : Int32) = nI 5 from rfl, bn_eqN (by have := ho.1; omega) (by omega)]; exact hn5))
          refine bc_aload_n dX10_goesSteps_94 rfl ?_
          refine bc_aload_n dX10_goesSteps_95 rfl ?_
          refine bc_getr dX10_goesSteps_96 fX10_68 (rfl) rfl ?_
          refine bc_iload_n dX10_goesSteps_99 rfl ?_
          refine bc_ialdE (k := (3 * p)) dX10_goesSteps_100 (rfl) (rfl) (⟨by omega, by decide⟩) ?_
          rw [k18, g1]
          refine bc_aload_n dX10_goesSteps_101 rfl ?_
          refine bc_getr dX10_goesSteps_102 fX10_68 (rfl) rfl ?_
          refine bc_iload_n dX10_goesSteps_105 rfl ?_
          refine bc_iconst (v := 1) dX10_goesSteps_106 (by decide) ?_
          refine bc_iadd dX10_goesSteps_107 ?_
          refine bc_ialdE (k := ((3 * p)) + 1) dX10_goesSteps_108 (rfl) (ixA (a := (3 * p)) (b := 1) (rfl) (rfl)) (⟨by omega, by decide⟩) ?_
          rw [k18, g2]
          refine bc_aload_n dX10_goesSteps_109 rfl ?_
          refine bc_getr dX10_goesSteps_110 fX10_68 (rfl) rfl ?_
          refine bc_iload_n dX10_goesSteps_113 rfl ?_
          refine bc_iconst (v := 2) dX10_goesSteps_114 (by decide) ?_
          refine bc_iadd dX10_goesSteps_115 ?_
          refine bc_ialdE (k := ((3 * p)) + 2) dX10_goesSteps_116 (rfl) (ixA (a := (3 * p)) (b := 2) (rfl) (rfl)) (⟨by omega, by decide⟩) ?_
          rw [k18, g3, if_neg hn5]
          refine bc_callV (z := mX10_goes) (ci := 10) dX10_goesSteps_117 lX10_348 qX10_goes (by rfl) (by rfl) (by rfl) (by rfl) (Nat.le_of_ble_eq_true rfl) (t_goes (d := E) (b1.env hE) b1.2.2.2.1 b1.2.2.2.2.1 b1.2.2.2.2.2 ho) (fun r117 μ117 e117 => ?_)
          obtain ⟨rfl, f117, s117⟩ := e117
          refine bc_if_eq (tgt := 136) dX10_goesSteps_120 (by decide) (fun h120 => ?_) (fun h120 => ?_)
          · refine bc_aload_n dX10_goesSteps_136 rfl ?_
            refine bc_dup dX10_goesSteps_137 rfl ?_
            refine bc_geti dX10_goesSteps_138 fX10_342 (rfl) rfl ?_
            refine bc_iconst (v := 1) dX10_goesSteps_141 (by decide) ?_
            refine bc_iadd dX10_goesSteps_142 ?_
            refine bc_put dX10_goesSteps_143 fX10_342 ftX10 fpX10_44 rfl rfl (rfl) rfl ?_
            have ha : ¬ (actR M n no nq z s.2.2.2).1 = true := ite0.mp h120
            have f0 : μ117 0 = μ1 0 := f117 0 (by decide) (by decide) (by decide)
            refine fin _ ⟨fun i h0 h1 h2 h3 => ?_, fun k h1 h2 h3 => ?_, ⟨?_, ?_, ?_⟩, ?_, hact⟩
            · rw [bc_u_ne _ _ _ h0, f117 i h1 h2 h3]; exact b1.1 i h0 h1 h2 h3
            · rw [bc_u_r, if_neg (by omega), f0]; exact b1.2.1 k h1 h2 h3
            · rw [bc_u_r, if_neg (by omega), f0]; exact b1.2.2.1.1
            · rw [bc_u_r, if_neg (by omega), f0, b1.2.2.1.2.1, rstep, if_neg ha]; rfl
            · rw [bc_u_r, if_pos ⟨rfl, rfl⟩, f0, b1.2.2.1.2.2]
              show nI s.2.2.1 + 1 = nI (s.2.2.1 + (if (actR M n no nq z s.2.2.2).1 = true then 0 else 1))
              rw [if_neg ha, bn_add1]
            · rw [bc_u_ne _ _ _ (by decide)]; exact s117
          · refine bc_aload_n dX10_goesSteps_123 rfl ?_
            refine bc_dup dX10_goesSteps_124 rfl ?_
            refine bc_geti dX10_goesSteps_125 fX10_339 (rfl) rfl ?_
            refine bc_iconst (v := 1) dX10_goesSteps_128 (by decide) ?_
            refine bc_iadd dX10_goesSteps_129 ?_
            refine bc_put dX10_goesSteps_130 fX10_339 ftX10 fpX10_43 rfl rfl (rfl) rfl ?_
            refine bc_goto (tgt := 146) dX10_goesSteps_133 (by decide) ?_
            have ha : (actR M n no nq z s.2.2.2).1 = true := Decidable.not_not.mp (fun q => h120 (ite0.mpr q))
            have f0 : μ117 0 = μ1 0 := f117 0 (by decide) (by decide) (by decide)
            refine fin _ ⟨fun i h0 h1 h2 h3 => ?_, fun k h1 h2 h3 => ?_, ⟨?_, ?_, ?_⟩, ?_, hact⟩
            · rw [bc_u_ne _ _ _ h0, f117 i h1 h2 h3]; exact b1.1 i h0 h1 h2 h3
            · rw [bc_u_r, if_neg (by omega), f0]; exact b1.2.1 k h1 h2 h3
            · rw [bc_u_r, if_neg (by omega), f0]; exact b1.2.2.1.1
            · rw [bc_u_r, if_pos ⟨rfl, rfl⟩, f0, b1.2.2.1.2.1, rstep, if_pos ha, bn_add1]
            · rw [bc_u_r, if_neg (by omega), f0, b1.2.2.1.2.2]
              show nI s.2.2.1 = nI (s.2.2.1 + (if (actR M n no nq z s.2.2.2).1 = true then 0 else 1))
              rw [if_pos ha]; rfl
            · rw [bc_u_ne _ _ _ (by decide)]; exact s117
        · have hr : runP l (actR M n no nq) (c + 1) p q s = runP l (actR M n no nq) c z.2.2 q (iterR (runP l (actR M n no nq) c (p + 1) z.2.2) z.2.1 (s.1 + 1, s.2)) := by
            simp only [runP]; rw [if_pos ⟨hpq, h200⟩, hz]; simp only; rw [if_pos hz5]
          rw [hr]
          rw [if_pos hz5] at g3
          have hit : ∀ k, (iterR (runP l (actR M n no nq) c (p + 1) z.2.2) k (s.1 + 1, s.2)).1 ≤ 200 ∧ s.1 + 1 ≤ (iterR (runP l (actR M n no nq) c (p + 1) z.2.2) k (s.1 + 1, s.2)).1 := by
            intro k
            refine ⟨?_, iterR_mono (runP_mono c (p + 1) z.2.2) k (s.1 + 1, s.2)⟩
            induction k with
            | zero => show s.1 + 1 ≤ 200; omega
            | succ k ik => exact runP_le c (p + 1) z.2.2 _ ik
          have inner : ∀ (r k : Nat) (μ : bc_M), k + r = z.2.1 → mR no m0 (iterR (runP l (actR M n no nq) c (p + 1) z.2.2) k (s.1 + 1, s.2)) μ → bc_W (E + 8) LM mX10_goesSteps 50 [.ref 0, v1, .int (nI (3 * q)), .int (nI (3 * p)), .int (nI (3 * z.2.2)), .int (nI k)] [] μ (fun r ν => r = none ∧ mR no m0 (runP l (actR M n no nq) c z.2.2 q (iterR (runP l (actR M n no nq) c (p + 1) z.2.2) z.2.1 (s.1 + 1, s.2))) ν) := by
            intro r
            induction r with
            | zero =>
              intro k μ hk hR
              have hk : k = z.2.1 := by omega
              subst hk
              obtain ⟨x1, x2⟩ := hit z.2.1
              have e18 : μ 18 = m0 18 := hR.1 18 (by decide) (by decide) (by decide) (by decide)
              refine bc_iload dX10_goesSteps_50 rfl ?_
              refine bc_aload_n dX10_goesSteps_52 rfl ?_
              refine bc_getr dX10_goesSteps_53 fX10_68 (rfl) rfl ?_
              refine bc_iload_n dX10_goesSteps_56 rfl ?_
              refine bc_iconst (v := 1) dX10_goesSteps_57 (by decide) ?_
              refine bc_iadd dX10_goesSteps_58 ?_
              refine bc_ialdE (k := ((3 * p)) + 1) dX10_goesSteps_59 (rfl) (ixA (a := (3 * p)) (b := 1) (rfl) (rfl)) (⟨by omega, by decide⟩) ?_
              rw [e18, g2]
              refine bc_icmp_ge (tgt := 88) dX10_goesSteps_60 (by decide) (fun h60 => ?_) (fun h60 => absurd h60 (fun x => x (Int32.le_refl _)))
              refine bc_iload dX10_goesSteps_88 rfl ?_
              refine bc_istore_n dX10_goesSteps_90 (by decide) rfl ?_
              refine bc_goto (tgt := 2) dX10_goesSteps_91 (by decide) ?_
              exact ih (E + 8) dep z.2.2 q _ _ _ _ _ hD h6 hb5 hq hR x1 (by omega) c1 rfl rfl
            | succ r ir =>
              intro k μ hk hR
              obtain ⟨x1, x2⟩ := hit k
              have e18 : μ 18 = m0 18 := hR.1 18 (by decide) (by decide) (by decide) (by decide)
              have eb := hR.2.2.1.1
              by_cases hfull : (iterR (runP l (actR M n no nq) c (p + 1) z.2.2) k (s.1 + 1, s.2)).1 < 200
              · skip
                refine bc_iload dX10_goesSteps_50 rfl ?_
                refine bc_aload_n dX10_goesSteps_52 rfl ?_
                refine bc_getr dX10_goesSteps_53 fX10_68 (rfl) rfl ?_
                refine bc_iload_n dX10_goesSteps_56 rfl ?_
                refine bc_iconst (v := 1) dX10_goesSteps_57 (by decide) ?_
                refine bc_iadd dX10_goesSteps_58 ?_
                refine bc_ialdE (k := ((3 * p)) + 1) dX10_goesSteps_59 (rfl) (ixA (a := (3 * p)) (b := 1) (rfl) (rfl)) (⟨by omega, by decide⟩) ?_
                rw [e18, g2]
                refine bc_icmp_ge (tgt := 88) dX10_goesSteps_60 (by decide) (fun h60 => absurd h60 (by rw [bn_leN (by omega) (by omega)]; omega)) (fun h60 => ?_)
                refine bc_aload_n dX10_goesSteps_63 rfl ?_
                refine bc_geti dX10_goesSteps_64 fX10_336 (rfl) rfl ?_
                refine bc_sipush (v := 200) dX10_goesSteps_67 (by decide) ?_
                refine bc_icmp_ge (tgt := 88) dX10_goesSteps_70 (by decide) (fun h70 => absurd h70 (by rw [eb, show (200 : Int32) = nI 200 from rfl, bn_leN (by omega) (by omega)]; omega)) (fun h70 => ?_)
                refine bc_aload_n dX10_goesSteps_73 rfl ?_
                refine bc_iload_n dX10_goesSteps_74 rfl ?_
                refine bc_iconst (v := 3) dX10_goesSteps_75 (by decide) ?_
                refine bc_iadd dX10_goesSteps_76 ?_
                refine bc_iload dX10_goesSteps_77 rfl ?_
                rw [show nI (3 * p) + 3 = nI (3 * (p + 1)) from bn_add (3 * p) 3]
                refine bc_callV (z := mX10_goesSteps) (ci := 10) dX10_goesSteps_79 lX10_345 qX10_goesSteps (by rfl) (by rfl) (by rfl) (by rfl) (Nat.le_of_ble_eq_true rfl) (hC (E + 7) dep' (p + 1) z.2.2 _ _ (by omega) (by omega) hb2 (by omega) hR x1 (by omega)) (fun r79 μ79 e79 => ?_)
                obtain ⟨rfl, h79⟩ := e79
                refine bc_iinc1 dX10_goesSteps_82 rfl (by decide) rfl ?_
                refine bc_goto (tgt := 50) dX10_goesSteps_85 (by decide) ?_
                rw [bn_add1]
                exact ir (k + 1) _ (by omega) h79
              · have hI : iterR (runP l (actR M n no nq) c (p + 1) z.2.2) z.2.1 (s.1 + 1, s.2) = iterR (runP l (actR M n no nq) c (p + 1) z.2.2) k (s.1 + 1, s.2) := by
                  rw [← hk, iterR_add, iterR_full (by omega)]
                rw [hI]
                refine bc_iload dX10_goesSteps_50 rfl ?_
                refine bc_aload_n dX10_goesSteps_52 rfl ?_
                refine bc_getr dX10_goesSteps_53 fX10_68 (rfl) rfl ?_
                refine bc_iload_n dX10_goesSteps_56 rfl ?_
                refine bc_iconst (v := 1) dX10_goesSteps_57 (by decide) ?_
                refine bc_iadd dX10_goesSteps_58 ?_
                refine bc_ialdE (k := ((3 * p)) + 1) dX10_goesSteps_59 (rfl) (ixA (a := (3 * p)) (b := 1) (rfl) (rfl)) (⟨by omega, by decide⟩) ?_
                rw [e18, g2]
                refine bc_icmp_ge (tgt := 88) dX10_goesSteps_60 (by decide) (fun h60 => absurd h60 (by rw [bn_leN (by omega) (by omega)]; omega)) (fun h60 => ?_)
                refine bc_aload_n dX10_goesSteps_63 rfl ?_
                refine bc_geti dX10_goesSteps_64 fX10_336 (rfl) rfl ?_
                refine bc_sipush (v := 200) dX10_goesSteps_67 (by decide) ?_
                refine bc_icmp_ge (tgt := 88) dX10_goesSteps_70 (by decide) (fun h70 => ?_) (fun h70 => absurd h70 (fun x => x (by rw [eb, show (200 : Int32) = nI 200 from rfl, bn_leN (by omega) (by omega)]; omega)))
                refine bc_iload dX10_goesSteps_88 rfl ?_
                refine bc_istore_n dX10_goesSteps_90 (by decide) rfl ?_
                refine bc_goto (tgt := 2) dX10_goesSteps_91 (by decide) ?_
                exact ih (E + 8) dep z.2.2 q _ _ _ _ _ hD h6 hb5 hq hR x1 (by omega) c1 rfl rfl
          refine bc_iload_n dX10_goesSteps_2 rfl ?_
          refine bc_iload_n dX10_goesSteps_3 rfl ?_
          refine bc_icmp_ge (tgt := 152) dX10_goesSteps_4 (by decide) (fun h4 => absurd h4 (by rw [bn_leN (by omega) (by omega)]; omega)) (fun h4 => ?_)
          refine bc_aload_n dX10_goesSteps_7 rfl ?_
          refine bc_geti dX10_goesSteps_8 fX10_336 (rfl) rfl ?_
          refine bc_sipush (v := 200) dX10_goesSteps_11 (by decide) ?_
          refine bc_icmp_ge (tgt := 152) dX10_goesSteps_14 (by decide) (fun h14 => absurd h14 (by rw [hb1, show (200 : Int32) = nI 200 from rfl, bn_leN (by omega) (by omega)]; omega)) (fun h14 => ?_)
          refine bc_aload_n dX10_goesSteps_17 rfl ?_
          refine bc_dup dX10_goesSteps_18 rfl ?_
          refine bc_geti dX10_goesSteps_19 fX10_336 (rfl) rfl ?_
          refine bc_iconst (v := 1) dX10_goesSteps_22 (by decide) ?_
          rw [hb1]
          refine bc_iadd dX10_goesSteps_23 ?_
          refine bc_put dX10_goesSteps_24 fX10_336 ftX10 fpX10_42 rfl rfl (rfl) rfl ?_
          rw [← hμ1]
          refine bc_aload_n dX10_goesSteps_27 rfl ?_
          refine bc_getr dX10_goesSteps_28 fX10_68 (rfl) rfl ?_
          refine bc_iload_n dX10_goesSteps_31 rfl ?_
          refine bc_ialdE (k := (3 * p)) dX10_goesSteps_32 (rfl) (rfl) (⟨by omega, by decide⟩) ?_
          rw [k18, g1, hz5]
          refine bc_iconst (v := 5) dX10_goesSteps_33 (by decide) ?_
          refine bc_icmp_ne (tgt := 94) dX10_goesSteps_34 (by decide) (fun h34 => absurd h34 (fun x => x rfl)) (fun h34 => ?_)
          refine bc_aload_n dX10_goesSteps_37 rfl ?_
          refine bc_getr dX10_goesSteps_38 fX10_68 (rfl) rfl ?_
          refine bc_iload_n dX10_goesSteps_41 rfl ?_
          refine bc_iconst (v := 2) dX10_goesSteps_42 (by decide) ?_
          refine bc_iadd dX10_goesSteps_43 ?_
          refine bc_ialdE (k := ((3 * p)) + 2) dX10_goesSteps_44 (rfl) (ixA (a := (3 * p)) (b := 2) (rfl) (rfl)) (⟨by omega, by decide⟩) ?_
          rw [k18, g3]
          refine bc_istore dX10_goesSteps_45 (by decide) rfl ?_
          refine bc_iconst (v := 0) dX10_goesSteps_47 (by decide) ?_
          refine bc_istore dX10_goesSteps_48 (by decide) rfl ?_
          exact inner z.2.1 0 _ (by omega) b1
      · have hr : runP l (actR M n no nq) (c + 1) p q s = s := by simp only [runP]; rw [if_neg (fun x => h200 x.2)]
        rw [hr]
        refine bc_iload_n dX10_goesSteps_2 rfl ?_
        refine bc_iload_n dX10_goesSteps_3 rfl ?_
        refine bc_icmp_ge (tgt := 152) dX10_goesSteps_4 (by decide) (fun h4 => absurd h4 (by rw [bn_leN (by omega) (by omega)]; omega)) (fun h4 => ?_)
        refine bc_aload_n dX10_goesSteps_7 rfl ?_
        refine bc_geti dX10_goesSteps_8 fX10_336 (rfl) rfl ?_
        refine bc_sipush (v := 200) dX10_goesSteps_11 (by decide) ?_
        refine bc_icmp_ge (tgt := 152) dX10_goesSteps_14 (by decide) (fun h14 => ?_) (fun h14 => absurd h14 (fun x => x (by rw [hb1, show (200 : Int32) = nI 200 from rfl, bn_leN (by omega) (by omega)]; omega)))
        exact bc_return dX10_goesSteps_152 rfl (⟨rfl, h⟩)
theorem t_run {l : List PE} {s : RSt} (hE : mEnv M m0 n no nq nr nm) (hl : stR (m0 18) l) (hl50 : 3 * l.length ≤ 150) (hb : BlkX no nq l 6 0 l.length) (h : mR no m0 s m) (hs : s.1 = 0) : bc_C (d + 14) LM mX10_goesSteps [.ref 0, .int 0, .int (nI (3 * l.length))] m (fun r ν => r = none ∧ mR no m0 (runP l (actR M n no nq) 201 0 l.length s) ν) := by
  have h0 := t_runW (d := d) hE hl hl50 201 (d + 14) 6 0 l.length s m (.int 0) .null .null rfl (Nat.le_refl _) hb (Nat.le_refl _) h (by omega) (by omega) rfl rfl rfl
  refine bc_enter (by decide) (Nat.le_of_ble_eq_true rfl) rfl ?_
  refine bc_iload_n dX10_goesSteps_0 rfl ?_
  refine bc_istore_n dX10_goesSteps_1 (by decide) rfl ?_
  exact h0
end T63
