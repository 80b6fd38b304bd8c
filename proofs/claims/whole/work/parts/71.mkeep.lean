/-! the reference: feed, undo, images -/
/-- a byte of the class's tape, one of the reference's -/
def b8R (t u : Int32) : Prop := ∃ k, k < 256 ∧ u = nI k ∧ ((k < 128 ∧ t = nI k) ∨ (128 ≤ k ∧ t.toInt = (k : Int) - 256))
theorem b8_of (y : Int32) : b8R y.toInt8.toInt32 (y &&& 255) := by
  have e : y &&& 255 = nI (y.toBitVec.toNat % 2 ^ 8) := pk_and y 8 (by decide)
  have e2 : y.toInt8.toInt32.toInt = (y.toBitVec.toNat : Int).bmod 256 := by
    rw [Int8.toInt_toInt32, Int32.toInt_toInt8]
    show (y.toBitVec.toInt).bmod 256 = _
    rw [BitVec.toInt_eq_toNat_bmod]
    rw [Int.bmod_bmod_of_dvd (by decide)]
  refine ⟨y.toBitVec.toNat % 2 ^ 8, Nat.mod_lt _ (by decide), e, ?_⟩
  have h256 : (y.toBitVec.toNat : Int) % 256 = ((y.toBitVec.toNat % 2 ^ 8 : Nat) : Int) := by omega
  have hlt : y.toBitVec.toNat % 2 ^ 8 < 256 := Nat.mod_lt _ (by decide)
  rw [Int.bmod_def] at e2
  by_cases h : y.toBitVec.toNat % 2 ^ 8 < 128
  · left
    refine ⟨h, ?_⟩
    rw [if_pos (by omega)] at e2
    rw [bn_eq, e2, bn_ti (by omega)]
    exact h256
  · right
    refine ⟨by omega, ?_⟩
    rw [if_neg (by omega)] at e2
    rw [e2]
    omega
section T71
variable {d : Nat} {m m1 ν M : bc_M} {n no nq nr nm : Nat} {A : Row}
theorem t_feedN {tp : Nat} (a b c e f : Int32) (ht : m 0 2 = nI tp) (htp : tp ≤ 600) (h : 580 < tp) : bc_C d LM mX10_feed [.ref 0, .int a, .int b, .int c, .int e, .int f] m (fun r ν => r = some (.int (-1)) ∧ ν = bc_u m 0 0 0) := by
  refine bc_enter (by decide) (Nat.le_of_ble_eq_true rfl) rfl ?_
  refine bc_aload_n dX10_feed_0 rfl ?_
  refine bc_iconst (v := 0) dX10_feed_1 (by decide) ?_
  refine bc_put dX10_feed_2 fX10_3 ftX10 fpX10_0 rfl rfl (rfl) rfl ?_
  refine bc_aload_n dX10_feed_5 rfl ?_
  refine bc_geti dX10_feed_6 fX10_115 (rfl) rfl ?_
  rw [show bc_u m 0 0 0 0 2 = nI tp from ht]
  refine bc_bipush (v := 20) dX10_feed_9 (by decide) ?_
  refine bc_iadd dX10_feed_11 ?_
  refine bc_sipush (v := 600) dX10_feed_12 (by decide) ?_
  refine bc_icmp_le (tgt := 20) dX10_feed_15 (by decide) (fun h15 => absurd h15 (by rw [show (20 : Int32) = nI 20 from rfl, show (600 : Int32) = nI 600 from rfl, bn_add, bn_leN (by omega) (by omega)]; omega)) (fun h15 => ?_)
  refine bc_iconst (v := (-1)) dX10_feed_18 (by decide) ?_
  exact bc_ireturn dX10_feed_19 rfl rfl (⟨rfl, rfl⟩)
def fdM (a b c e f : Int32) (k : Nat) : Int32 := arg5 a b c e f (k / 4) >>> (nI (24 - 8 * (k % 4)) &&& 31) &&& 255
def fmS (a b c e f : Int32) (tp k : Nat) (m ν : bc_M) : Prop := (∀ i, i ≠ 0 → i ≠ 2 → ν i = m i) ∧ (∀ j, j ≠ 0 → j ≠ 2 → ν 0 j = m 0 j) ∧ ν 0 0 = 0 ∧ ν 0 2 = nI (tp + k) ∧ (∀ j, j < tp → ν 2 j = m 2 j) ∧ ∀ i, i < k → ν 2 (tp + i) = fdM a b c e f i
theorem t_feedY {tp : Nat} (a b c e f : Int32) (ht : m 0 2 = nI tp) (h : tp ≤ 580) : bc_C d LM mX10_feed [.ref 0, .int a, .int b, .int c, .int e, .int f] m (fun r ν => r = some (.int (nI (tp + 20))) ∧ fmS a b c e f tp 20 m ν) := by
  refine bc_enter (by decide) (Nat.le_of_ble_eq_true rfl) rfl ?_
  have loop : ∀ (g k : Nat) (ν : bc_M) (v7 : Value), v7.category = 1 → k + g = 20 → fmS a b c e f tp k m ν → bc_W d LM mX10_feed 23 [.ref 0, .int a, .int b, .int c, .int e, .int f, .int (nI k), v7] [] ν (fun r ν => r = some (.int (nI (tp + 20))) ∧ fmS a b c e f tp 20 m ν) := by
    intro g
    induction g with
    | zero =>
      intro k ν v7 c7 hk hI
      have hk : k = 20 := by omega
      subst hk
      refine bc_iload dX10_feed_23 rfl ?_
      refine bc_bipush (v := 20) dX10_feed_25 (by decide) ?_
      refine bc_icmp_ge (tgt := 120) dX10_feed_27 (by decide) (fun h27 => ?_) (fun h27 => absurd h27 (fun q => q (by decide)))
      refine bc_aload_n dX10_feed_120 rfl ?_
      refine bc_geti dX10_feed_121 fX10_115 (rfl) rfl ?_
      exact bc_ireturn dX10_feed_124 rfl rfl (⟨by rw [hI.2.2.2.1], hI⟩)
    | succ g ih =>
      intro k ν v7 c7 hk hI
      obtain ⟨q1, q2, q3, q4, q5, q6⟩ := id hI
      have e1 : (24 : Int32) - 8 * (nI k - nI k / 4 * 4) = nI (24 - 8 * (k % 4)) := by
        have h1 : nI k - nI k / 4 * 4 = nI (k % 4) := pk_rem (d := 4) (by omega) (by omega) (by omega)
        rw [h1]
        exact ixS (a := 24) (b := 8 * (k % 4)) rfl (ixM (a := 8) rfl rfl) (by omega)
      have from76 : ∀ v, v = arg5 a b c e f (k / 4) → bc_W d LM mX10_feed 76 [.ref 0, .int a, .int b, .int c, .int e, .int f, .int (nI k), v7] [.int v] ν (fun r ν => r = some (.int (nI (tp + 20))) ∧ fmS a b c e f tp 20 m ν) := by
        intro v hv
        have h2 := ih (k + 1) (bc_u (bc_u ν 2 (tp + k) (fdM a b c e f k)) 0 2 (nI (tp + k + 1))) (.int v) rfl (by omega) (by
          refine ⟨fun i h0 h2 => ?_, fun j h0 h2 => ?_, ?_, ?_, fun j hj => ?_, fun i hi => ?_⟩
          · rw [bc_u_ne _ _ _ h0, bc_u_ne _ _ _ h2]; exact q1 i h0 h2
          · rw [bc_u_r, if_neg (by omega), bc_u_ne _ _ _ (by decide)]; exact q2 j h0 h2
          · rw [bc_u_r, if_neg (by omega), bc_u_ne _ _ _ (by decide)]; exact q3
          · rw [bc_u_r, if_pos ⟨rfl, rfl⟩]; rfl
          · rw [bc_u_ne _ _ _ (by decide), bc_u_r, if_neg (by omega)]; exact q5 j hj
          · rw [bc_u_ne _ _ _ (by decide), bc_u_r]
            by_cases ei : i = k
            · rw [if_pos ⟨rfl, by omega⟩, ei]
            · rw [if_neg (by omega)]; exact q6 i (by omega))
        refine bc_istore dX10_feed_76 (by decide) rfl ?_
        refine bc_aload_n dX10_feed_78 rfl ?_
        refine bc_getr dX10_feed_79 fX10_20 (rfl) rfl ?_
        refine bc_aload_n dX10_feed_82 rfl ?_
        refine bc_geti dX10_feed_83 fX10_115 (rfl) rfl ?_
        rw [q4]
        refine bc_iload dX10_feed_86 rfl ?_
        refine bc_bipush (v := 24) dX10_feed_88 (by decide) ?_
        refine bc_bipush (v := 8) dX10_feed_90 (by decide) ?_
        refine bc_iload dX10_feed_92 rfl ?_
        refine bc_iconst (v := 4) dX10_feed_94 (by decide) ?_
        refine bc_irem dX10_feed_95 (by decide) ?_
        refine bc_imul dX10_feed_96 ?_
        refine bc_isub dX10_feed_97 ?_
        rw [e1]
        refine bc_ishr dX10_feed_98 ?_
        refine bc_sipush (v := 255) dX10_feed_99 (by decide) ?_
        refine bc_iand dX10_feed_102 ?_
        rw [show v >>> (nI (24 - 8 * (k % 4)) &&& 31) &&& 255 = fdM a b c e f k by rw [fdM, hv]]
        refine bc_iastE dX10_feed_103 (rfl) (rfl) (⟨by omega, by decide⟩) ?_
        refine bc_aload_n dX10_feed_104 rfl ?_
        refine bc_dup dX10_feed_105 rfl ?_
        refine bc_geti dX10_feed_106 fX10_115 (rfl) rfl ?_
        refine bc_iconst (v := 1) dX10_feed_109 (by decide) ?_
        refine bc_iadd dX10_feed_110 ?_
        rw [show bc_u ν 2 (tp + k) (fdM a b c e f k) 0 2 = nI (tp + k) from q4, bn_add1]
        refine bc_put dX10_feed_111 fX10_115 ftX10 fpX10_2 rfl rfl (rfl) rfl ?_
        refine bc_iinc1 dX10_feed_114 rfl (by decide) rfl ?_
        refine bc_goto (tgt := 23) dX10_feed_117 (by decide) ?_
        rw [bn_add1]
        exact h2
      have cmp : ∀ b : Nat, b < 100 → (nI b ≤ nI k ↔ b ≤ k) := fun b hb => bn_leN (by omega) (by omega)
      refine bc_iload dX10_feed_23 rfl ?_
      refine bc_bipush (v := 20) dX10_feed_25 (by decide) ?_
      refine bc_icmp_ge (tgt := 120) dX10_feed_27 (by decide) (fun h27 => absurd h27 (fun q => absurd ((cmp 20 (by omega)).mp q) (by omega))) (fun h27 => ?_)
      refine bc_iload dX10_feed_30 rfl ?_
      refine bc_iconst (v := 4) dX10_feed_32 (by decide) ?_
      refine bc_icmp_ge (tgt := 40) dX10_feed_33 (by decide) (fun h33 => ?_) (fun h33 => ?_)
      · refine bc_iload dX10_feed_40 rfl ?_
        refine bc_bipush (v := 8) dX10_feed_42 (by decide) ?_
        refine bc_icmp_ge (tgt := 51) dX10_feed_44 (by decide) (fun h44 => ?_) (fun h44 => ?_)
        · refine bc_iload dX10_feed_51 rfl ?_
          refine bc_bipush (v := 12) dX10_feed_53 (by decide) ?_
          refine bc_icmp_ge (tgt := 62) dX10_feed_55 (by decide) (fun h55 => ?_) (fun h55 => ?_)
          · refine bc_iload dX10_feed_62 rfl ?_
            refine bc_bipush (v := 16) dX10_feed_64 (by decide) ?_
            refine bc_icmp_ge (tgt := 74) dX10_feed_66 (by decide) (fun h66 => ?_) (fun h66 => ?_)
            · refine bc_iload dX10_feed_74 rfl ?_
              exact from76 _ (by have z := (cmp 16 (by omega)).mp h66; rw [show k / 4 = 4 by omega]; rfl)
            · refine bc_iload dX10_feed_69 rfl ?_
              refine bc_goto (tgt := 76) dX10_feed_71 (by decide) ?_
              exact from76 _ (by have z := (cmp 12 (by omega)).mp h55; have y : ¬ 16 ≤ k := fun q => h66 ((cmp 16 (by omega)).mpr q); rw [show k / 4 = 3 by omega]; rfl)
          · refine bc_iload_n dX10_feed_58 rfl ?_
            refine bc_goto (tgt := 76) dX10_feed_59 (by decide) ?_
            exact from76 _ (by have z := (cmp 8 (by omega)).mp h44; have y : ¬ 12 ≤ k := fun q => h55 ((cmp 12 (by omega)).mpr q); rw [show k / 4 = 2 by omega]; rfl)
        · refine bc_iload_n dX10_feed_47 rfl ?_
          refine bc_goto (tgt := 76) dX10_feed_48 (by decide) ?_
          exact from76 _ (by have z := (cmp 4 (by omega)).mp h33; have y : ¬ 8 ≤ k := fun q => h44 ((cmp 8 (by omega)).mpr q); rw [show k / 4 = 1 by omega]; rfl)
      · refine bc_iload_n dX10_feed_36 rfl ?_
        refine bc_goto (tgt := 76) dX10_feed_37 (by decide) ?_
        exact from76 _ (by have y : ¬ 4 ≤ k := fun q => h33 ((cmp 4 (by omega)).mpr q); rw [show k / 4 = 0 by omega]; rfl)
  refine bc_aload_n dX10_feed_0 rfl ?_
  refine bc_iconst (v := 0) dX10_feed_1 (by decide) ?_
  refine bc_put dX10_feed_2 fX10_3 ftX10 fpX10_0 rfl rfl (rfl) rfl ?_
  refine bc_aload_n dX10_feed_5 rfl ?_
  refine bc_geti dX10_feed_6 fX10_115 (rfl) rfl ?_
  rw [show bc_u m 0 0 0 0 2 = nI tp from ht]
  refine bc_bipush (v := 20) dX10_feed_9 (by decide) ?_
  refine bc_iadd dX10_feed_11 ?_
  refine bc_sipush (v := 600) dX10_feed_12 (by decide) ?_
  refine bc_icmp_le (tgt := 20) dX10_feed_15 (by decide) (fun h15 => ?_) (fun h15 => absurd h15 (fun q => q (by rw [show (20 : Int32) = nI 20 from rfl, show (600 : Int32) = nI 600 from rfl, bn_add, bn_leN (by omega) (by omega)]; omega)))
  refine bc_iconst (v := 0) dX10_feed_20 (by decide) ?_
  refine bc_istore dX10_feed_21 (by decide) rfl ?_
  exact loop 20 0 _ _ rfl (by omega) ⟨fun i h0 _ => bc_u_ne _ _ _ h0, fun j h0 _ => by rw [bc_u_r, if_neg (by omega)], rfl, ht, fun _ _ => rfl, fun i hi => by omega⟩
theorem t_undoN (hw : m 0 40 = 0) : bc_C d LM mX10_undo [.ref 0] m (fun r ν => r = some (.int (-1)) ∧ ν = bc_u m 0 0 0) := by
  refine bc_enter (by decide) (Nat.le_of_ble_eq_true rfl) rfl ?_
  refine bc_aload_n dX10_undo_0 rfl ?_
  refine bc_iconst (v := 0) dX10_undo_1 (by decide) ?_
  refine bc_put dX10_undo_2 fX10_3 ftX10 fpX10_0 rfl rfl (rfl) rfl ?_
  refine bc_aload_n dX10_undo_5 rfl ?_
  refine bc_geti dX10_undo_6 fX10_204 (rfl) rfl ?_
  refine bc_if_ne (tgt := 14) dX10_undo_9 (by decide) (fun h9 => absurd h9 (fun q => q hw)) (fun h9 => ?_)
  refine bc_iconst (v := (-1)) dX10_undo_12 (by decide) ?_
  exact bc_ireturn dX10_undo_13 rfl rfl (⟨rfl, rfl⟩)
def umS (k : Nat) (m ν : bc_M) : Prop := (∀ i, i ≠ 0 → i ≠ 19 → ν i = m i) ∧ (∀ j, j ≠ 0 → j ≠ 40 → j ≠ 41 → ν 0 j = m 0 j) ∧ ν 0 0 = 0 ∧ ν 0 40 = nI k ∧ ν 0 41 = 0 ∧ ∀ j, j < 33 → ν 19 j = m 21 (33 * k + j)
theorem t_undoY {k : Nat} (hk : k < 16) (hw : m 0 40 = nI (k + 1)) : bc_C d LM mX10_undo [.ref 0] m (fun r ν => r = some (.int (nI k)) ∧ umS k m ν) := by
  refine bc_enter (by decide) (Nat.le_of_ble_eq_true rfl) rfl ?_
  obtain ⟨μ1, hμ1⟩ : ∃ μ1, μ1 = bc_u (bc_u m 0 0 0) 0 40 (nI k) := ⟨_, rfl⟩
  have w1 : μ1 0 40 = nI k := by rw [hμ1, bc_u_r, if_pos ⟨rfl, rfl⟩]
  have loop : ∀ (c j : Nat) (f : Nat → Int32), j + c = 33 → (∀ i, i < j → f i = m 21 (33 * k + i)) → bc_W d LM mX10_undo 26 [.ref 0, .int (nI j)] [] (bc_us μ1 19 f) (fun r ν => r = some (.int (nI k)) ∧ umS k m ν) := by
    intro c
    induction c with
    | zero =>
      intro j f hj hf
      have hj : j = 33 := by omega
      subst hj
      have w2 : bc_us μ1 19 f 0 40 = nI k := w1
      refine bc_iload_n dX10_undo_26 rfl ?_
      refine bc_bipush (v := 33) dX10_undo_27 (by decide) ?_
      refine bc_icmp_ge (tgt := 58) dX10_undo_29 (by decide) (fun h29 => ?_) (fun h29 => absurd h29 (fun q => q (by decide)))
      refine bc_aload_n dX10_undo_58 rfl ?_
      refine bc_iconst (v := 0) dX10_undo_59 (by decide) ?_
      refine bc_put dX10_undo_60 fX10_210 ftX10 fpX10_41 rfl rfl (rfl) rfl ?_
      refine bc_aload_n dX10_undo_63 rfl ?_
      refine bc_geti dX10_undo_64 fX10_204 (rfl) rfl ?_
      exact bc_ireturn dX10_undo_67 rfl rfl (⟨by rw [show bc_u (bc_us μ1 19 f) 0 41 0 0 40 = nI k by rw [bc_u_r, if_neg (by omega)]; exact w1], fun i h0 h19 => by rw [bc_u_ne _ _ _ h0, bc_us_ne _ _ h19, hμ1, bc_u_ne _ _ _ h0, bc_u_ne _ _ _ h0], fun j h0 h40 h41 => by rw [bc_u_r, if_neg (by omega), bc_us_ne _ _ (by decide), hμ1, bc_u_r, if_neg (by omega), bc_u_r, if_neg (by omega)], by rw [bc_u_r, if_neg (by omega), bc_us_ne _ _ (by decide), hμ1]; rfl, by rw [bc_u_r, if_neg (by omega)]; exact w1, by rw [bc_u_r, if_pos ⟨rfl, rfl⟩], fun j hj => by rw [bc_u_ne _ _ _ (by decide), bc_us_at]; exact hf j hj⟩)
    | succ c ih =>
      intro j f hj hf
      have e21 : ∀ z, bc_us μ1 19 f 21 z = m 21 z := fun z => by rw [bc_us_ne _ _ (by decide), hμ1]; rfl
      have h2 := ih (j + 1) (upd f j (m 21 (33 * k + j))) (by omega) (fun i hi => by
        by_cases e : i = j
        · subst e; simp [upd]
        · simp only [upd, e, if_false]; exact hf i (by omega))
      refine bc_iload_n dX10_undo_26 rfl ?_
      refine bc_bipush (v := 33) dX10_undo_27 (by decide) ?_
      refine bc_icmp_ge (tgt := 58) dX10_undo_29 (by decide) (fun h29 => absurd h29 (by rw [show (33 : Int32) = nI 33 from rfl, bn_leN (by omega) (by omega)]; omega)) (fun h29 => ?_)
      refine bc_aload_n dX10_undo_32 rfl ?_
      refine bc_getr dX10_undo_33 fX10_71 (rfl) rfl ?_
      refine bc_iload_n dX10_undo_36 rfl ?_
      refine bc_aload_n dX10_undo_37 rfl ?_
      refine bc_getr dX10_undo_38 fX10_77 (rfl) rfl ?_
      refine bc_bipush (v := 33) dX10_undo_41 (by decide) ?_
      refine bc_aload_n dX10_undo_43 rfl ?_
      refine bc_geti dX10_undo_44 fX10_204 (rfl) rfl ?_
      rw [show bc_us μ1 19 f 0 40 = nI k from w1]
      refine bc_imul dX10_undo_47 ?_
      refine bc_iload_n dX10_undo_48 rfl ?_
      refine bc_iadd dX10_undo_49 ?_
      refine bc_ialdE dX10_undo_50 (rfl) ((ixA (ixM (a := 33) rfl rfl) rfl)) (⟨by omega, by decide⟩) ?_
      rw [e21]
      refine bc_iastE (k := j) dX10_undo_51 (rfl) (rfl) (⟨by omega, by decide⟩) ?_
      refine bc_iinc1 dX10_undo_52 rfl (by decide) rfl ?_
      refine bc_goto (tgt := 26) dX10_undo_55 (by decide) ?_
      rw [bn_add1, bc_us_u]
      exact h2
  refine bc_aload_n dX10_undo_0 rfl ?_
  refine bc_iconst (v := 0) dX10_undo_1 (by decide) ?_
  refine bc_put dX10_undo_2 fX10_3 ftX10 fpX10_0 rfl rfl (rfl) rfl ?_
  refine bc_aload_n dX10_undo_5 rfl ?_
  refine bc_geti dX10_undo_6 fX10_204 (rfl) rfl ?_
  refine bc_if_ne (tgt := 14) dX10_undo_9 (by decide) (fun h9 => ?_) (fun h9 => absurd h9 (by show ¬ m 0 40 = 0; rw [hw]; exact nI_ne0 (by omega) (by omega)))
  refine bc_aload_n dX10_undo_14 rfl ?_
  refine bc_dup dX10_undo_15 rfl ?_
  refine bc_geti dX10_undo_16 fX10_204 (rfl) rfl ?_
  rw [show bc_u m 0 0 0 0 40 = nI (k + 1) from hw]
  refine bc_iconst (v := 1) dX10_undo_19 (by decide) ?_
  refine bc_isub dX10_undo_20 ?_
  rw [bn_s1 (by omega), Nat.add_sub_cancel]
  refine bc_put dX10_undo_21 fX10_204 ftX10 fpX10_40 rfl rfl (rfl) rfl ?_
  rw [← hμ1]
  refine bc_iconst (v := 0) dX10_undo_24 (by decide) ?_
  refine bc_istore_n dX10_undo_25 (by decide) rfl ?_
  have h2 := loop 33 0 (μ1 19) (by omega) (fun i hi => by omega)
  rw [bc_us_self] at h2
  exact h2
theorem t_keepK {a q c n0 : Nat} (ha : LM[a]? = some (0, n0, [])) (hc : c ≤ n0 ∧ n0 < 1000) (hq : q + c ≤ 1686) (hne : a ≠ 30) : bc_C d LM mX10_keepsRow [.ref 0, .int (nI q), .ref a, .int (nI c), .int 1] m (fun r ν => r = some (.int (nI (q + c))) ∧ ν = bc_us m 30 (fun j => if q ≤ j ∧ j < q + c then m a (j - q) else m 30 j)) := by
  refine bc_enter (by decide) (Nat.le_of_ble_eq_true rfl) rfl ?_
  have loop : ∀ (r j : Nat), j + r = c → bc_W d LM mX10_keepsRow 3 [.ref 0, .int (nI q), .ref a, .int (nI c), .int 1, .int (nI j)] [] (bc_us m 30 (fun z => if q ≤ z ∧ z < q + j then m a (z - q) else m 30 z)) (fun r ν => r = some (.int (nI (q + c))) ∧ ν = bc_us m 30 (fun j => if q ≤ j ∧ j < q + c then m a (j - q) else m 30 j)) := by
    intro r
    induction r with
    | zero =>
      intro j hj
      have hj : j = c := by omega
      subst hj
      refine bc_iload dX10_keepsRow_3 rfl ?_
      refine bc_iload_n dX10_keepsRow_5 rfl ?_
      refine bc_icmp_ge (tgt := 49) dX10_keepsRow_6 (by decide) (fun h6 => ?_) (fun h6 => absurd h6 (fun q => q (Int32.le_refl _)))
      refine bc_iload_n dX10_keepsRow_49 rfl ?_
      refine bc_iload_n dX10_keepsRow_50 rfl ?_
      refine bc_iadd dX10_keepsRow_51 ?_
      exact bc_ireturn dX10_keepsRow_52 rfl rfl (⟨by rw [bn_add], rfl⟩)
    | succ r ih =>
      intro j hj
      have h2 := ih (j + 1) (by omega)
      refine bc_iload dX10_keepsRow_3 rfl ?_
      refine bc_iload_n dX10_keepsRow_5 rfl ?_
      refine bc_icmp_ge (tgt := 49) dX10_keepsRow_6 (by decide) (fun h6 => absurd h6 (bx_in rfl (by omega) (by omega))) (fun h6 => ?_)
      refine bc_iload dX10_keepsRow_9 rfl ?_
      refine bc_if_eq (tgt := 30) dX10_keepsRow_11 (by decide) (fun h11 => absurd h11 (by decide)) (fun h11 => ?_)
      refine bc_aload_n dX10_keepsRow_14 rfl ?_
      refine bc_getr dX10_keepsRow_15 fX10_106 (rfl) rfl ?_
      refine bc_iload_n dX10_keepsRow_18 rfl ?_
      refine bc_iload dX10_keepsRow_19 rfl ?_
      refine bc_iadd dX10_keepsRow_21 ?_
      refine bc_aload_n dX10_keepsRow_22 rfl ?_
      refine bc_iload dX10_keepsRow_23 rfl ?_
      refine bc_ialdE dX10_keepsRow_25 (ha) (rfl) (⟨by omega, by omega⟩) ?_
      refine bc_iastE (k := q + j) dX10_keepsRow_26 (rfl) (ixA (a := q) (b := j) (rfl) (rfl)) (⟨by omega, by decide⟩) ?_
      refine bc_goto (tgt := 43) dX10_keepsRow_27 (by decide) ?_
      refine bc_iinc1 dX10_keepsRow_43 rfl (by decide) rfl ?_
      refine bc_goto (tgt := 3) dX10_keepsRow_46 (by decide) ?_
      rw [bn_add1, bc_us_u, bc_us_r, if_neg hne]
      refine Eq.mp ?_ h2
      congr 3
      funext z
      simp only [upd]
      by_cases e : z = q + j
      · rw [if_pos e, if_pos (by omega)]; congr 1; omega
      · rw [if_neg e]
        by_cases c1 : q ≤ z ∧ z < q + j
        · rw [if_pos c1, if_pos (by omega)]
        · rw [if_neg c1, if_neg (by omega)]
  refine bc_iconst (v := 0) dX10_keepsRow_0 (by decide) ?_
  refine bc_istore dX10_keepsRow_1 (by decide) rfl ?_
  have h2 := loop c 0 (by omega)
  have e : (fun z => if q ≤ z ∧ z < q + 0 then m a (z - q) else m 30 z) = m 30 := by
    funext z
    rw [if_neg (by omega)]
  rw [e, bc_us_self] at h2
  exact h2
theorem t_keepL {a q c n0 : Nat} (ha : LM[a]? = some (0, n0, [])) (hc : c ≤ n0 ∧ n0 < 1000) (hq : q + c ≤ 1686) (hne : a ≠ 30) : bc_C d LM mX10_keepsRow [.ref 0, .int (nI q), .ref a, .int (nI c), .int 0] m (fun r ν => r = some (.int (nI (q + c))) ∧ ν = bc_us m a (fun j => if j < c then m 30 (q + j) else m a j)) := by
  refine bc_enter (by decide) (Nat.le_of_ble_eq_true rfl) rfl ?_
  have loop : ∀ (r j : Nat), j + r = c → bc_W d LM mX10_keepsRow 3 [.ref 0, .int (nI q), .ref a, .int (nI c), .int 0, .int (nI j)] [] (bc_us m a (fun z => if z < j then m 30 (q + z) else m a z)) (fun r ν => r = some (.int (nI (q + c))) ∧ ν = bc_us m a (fun j => if j < c then m 30 (q + j) else m a j)) := by
    intro r
    induction r with
    | zero =>
      intro j hj
      have hj : j = c := by omega
      subst hj
      refine bc_iload dX10_keepsRow_3 rfl ?_
      refine bc_iload_n dX10_keepsRow_5 rfl ?_
      refine bc_icmp_ge (tgt := 49) dX10_keepsRow_6 (by decide) (fun h6 => ?_) (fun h6 => absurd h6 (fun q => q (Int32.le_refl _)))
      refine bc_iload_n dX10_keepsRow_49 rfl ?_
      refine bc_iload_n dX10_keepsRow_50 rfl ?_
      refine bc_iadd dX10_keepsRow_51 ?_
      exact bc_ireturn dX10_keepsRow_52 rfl rfl (⟨by rw [bn_add], rfl⟩)
    | succ r ih =>
      intro j hj
      have h2 := ih (j + 1) (by omega)
      refine bc_iload dX10_keepsRow_3 rfl ?_
      refine bc_iload_n dX10_keepsRow_5 rfl ?_
      refine bc_icmp_ge (tgt := 49) dX10_keepsRow_6 (by decide) (fun h6 => absurd h6 (bx_in rfl (by omega) (by omega))) (fun h6 => ?_)
      refine bc_iload dX10_keepsRow_9 rfl ?_
      refine bc_if_eq (tgt := 30) dX10_keepsRow_11 (by decide) (fun h11 => ?_) (fun h11 => absurd h11 (fun q => q rfl))
      refine bc_aload_n dX10_keepsRow_30 rfl ?_
      refine bc_iload dX10_keepsRow_31 rfl ?_
      refine bc_aload_n dX10_keepsRow_33 rfl ?_
      refine bc_getr dX10_keepsRow_34 fX10_106 (rfl) rfl ?_
      refine bc_iload_n dX10_keepsRow_37 rfl ?_
      refine bc_iload dX10_keepsRow_38 rfl ?_
      refine bc_iadd dX10_keepsRow_40 ?_
      refine bc_ialdE (k := q + j) dX10_keepsRow_41 (rfl) (ixA (a := q) (b := j) (rfl) (rfl)) (⟨by omega, by decide⟩) ?_
      refine bc_iastE dX10_keepsRow_42 (ha) (rfl) (⟨by omega, by omega⟩) ?_
      refine bc_iinc1 dX10_keepsRow_43 rfl (by decide) rfl ?_
      refine bc_goto (tgt := 3) dX10_keepsRow_46 (by decide) ?_
      rw [bn_add1, bc_us_u, bc_us_r, if_neg (fun z => hne z.symm)]
      refine Eq.mp ?_ h2
      congr 3
      funext z
      simp only [upd]
      by_cases e : z = j
      · rw [if_pos e, if_pos (by omega), e]
      · rw [if_neg e]
        by_cases c1 : z < j
        · rw [if_pos c1, if_pos (by omega)]
        · rw [if_neg c1, if_neg (by omega)]
  refine bc_iconst (v := 0) dX10_keepsRow_0 (by decide) ?_
  refine bc_istore dX10_keepsRow_1 (by decide) rfl ?_
  have h2 := loop c 0 (by omega)
  have e : (fun z => if z < 0 then m 30 (q + z) else m a z) = m a := by
    funext z
    rw [if_neg (by omega)]
  rw [e, bc_us_self] at h2
  exact h2
def kmS (i : Nat) (m ν : bc_M) : Prop := (∀ j, j ≠ 30 → ν j = m j) ∧ (∀ j, j < 33 → ν 30 (562 * i + j) = m 19 j) ∧ (∀ j, j < 528 → ν 30 (562 * i + 33 + j) = m 21 j) ∧ ν 30 (562 * i + 561) = m 0 40 ∧ ∀ j, j < 562 * i ∨ 562 * i + 562 ≤ j → ν 30 j = m 30 j
theorem t_keepAllK {i : Nat} (hi : i < 3) : bc_C (d + 1) LM mX10_keepsAll [.ref 0, .int (nI i), .int 1] m (fun r ν => r = none ∧ kmS i m ν) := by
  refine bc_enter (by decide) (Nat.le_of_ble_eq_true rfl) rfl ?_
  refine bc_aload_n dX10_keepsAll_0 rfl ?_
  refine bc_sipush (v := 562) dX10_keepsAll_1 (by decide) ?_
  refine bc_iload_n dX10_keepsAll_4 rfl ?_
  refine bc_imul dX10_keepsAll_5 ?_
  rw [show (562 : Int32) * nI i = nI (562 * i) from ixM (a := 562) rfl rfl]
  refine bc_aload_n dX10_keepsAll_6 rfl ?_
  refine bc_getr dX10_keepsAll_7 fX10_71 (rfl) rfl ?_
  refine bc_bipush (v := 33) dX10_keepsAll_10 (by decide) ?_
  refine bc_iload_n dX10_keepsAll_12 rfl ?_
  refine bc_callV (z := mX10_keepsRow) (ci := 10) dX10_keepsAll_13 lX10_453 qX10_keepsRow (by rfl) (by rfl) (by rfl) (by rfl) (Nat.le_of_ble_eq_true rfl) (t_keepK (c := 33) (a := 19) (q := 562 * i) rfl (by decide) (by omega) (by decide)) (fun r13 μ13 e13 => ?_)
  obtain ⟨rfl, q13⟩ := e13
  obtain rfl := q13.symm
  refine bc_istore_n dX10_keepsAll_16 (by decide) rfl ?_
  refine bc_aload_n dX10_keepsAll_17 rfl ?_
  refine bc_iload_n dX10_keepsAll_18 rfl ?_
  refine bc_aload_n dX10_keepsAll_19 rfl ?_
  refine bc_getr dX10_keepsAll_20 fX10_77 (rfl) rfl ?_
  refine bc_sipush (v := 528) dX10_keepsAll_23 (by decide) ?_
  refine bc_iload_n dX10_keepsAll_26 rfl ?_
  refine bc_callV (z := mX10_keepsRow) (ci := 10) dX10_keepsAll_27 lX10_453 qX10_keepsRow (by rfl) (by rfl) (by rfl) (by rfl) (Nat.le_of_ble_eq_true rfl) (t_keepK (c := 528) (a := 21) (q := 562 * i + 33) rfl (by decide) (by omega) (by decide)) (fun r27 μ27 e27 => ?_)
  obtain ⟨rfl, q27⟩ := e27
  obtain rfl := q27.symm
  refine bc_istore_n dX10_keepsAll_30 (by decide) rfl ?_
  refine bc_iload_n dX10_keepsAll_31 rfl ?_
  refine bc_if_eq (tgt := 48) dX10_keepsAll_32 (by decide) (fun h32 => absurd h32 (by decide)) (fun h32 => ?_)
  refine bc_aload_n dX10_keepsAll_35 rfl ?_
  refine bc_getr dX10_keepsAll_36 fX10_106 (rfl) rfl ?_
  refine bc_iload_n dX10_keepsAll_39 rfl ?_
  refine bc_aload_n dX10_keepsAll_40 rfl ?_
  refine bc_geti dX10_keepsAll_41 fX10_204 (rfl) rfl ?_
  refine bc_iastE (k := 562 * i + 33 + 528) dX10_keepsAll_44 (rfl) (rfl) (⟨by omega, by decide⟩) ?_
  refine bc_goto (tgt := 58) dX10_keepsAll_45 (by decide) ?_
  exact bc_return dX10_keepsAll_58 rfl (⟨rfl, fun j hj => by rw [bc_u_ne _ _ _ hj, bc_us_ne _ _ hj, bc_us_ne _ _ hj], fun j hj => by rw [bc_u_r, if_neg (by omega), bc_us_at, if_neg (by omega), bc_us_at, if_pos (by omega)]; congr 1; omega, fun j hj => by rw [bc_u_r, if_neg (by omega), bc_us_at, if_pos (by omega), bc_us_ne _ _ (by decide)]; congr 1; omega, by rw [bc_u_r, if_pos ⟨rfl, by omega⟩]; rfl, fun j hj => by rw [bc_u_r, if_neg (by omega), bc_us_at, if_neg (by omega), bc_us_at, if_neg (by omega)]⟩)
def lmS (i : Nat) (m ν : bc_M) : Prop := (∀ j, j ≠ 0 → j ≠ 19 → j ≠ 21 → ν j = m j) ∧ (∀ j, j ≠ 40 → ν 0 j = m 0 j) ∧ (∀ j, j < 33 → ν 19 j = m 30 (562 * i + j)) ∧ (∀ j, j < 528 → ν 21 j = m 30 (562 * i + 33 + j)) ∧ ν 0 40 = m 30 (562 * i + 561)
theorem t_keepAllL {i : Nat} (hi : i < 3) : bc_C (d + 1) LM mX10_keepsAll [.ref 0, .int (nI i), .int 0] m (fun r ν => r = none ∧ lmS i m ν) := by
  refine bc_enter (by decide) (Nat.le_of_ble_eq_true rfl) rfl ?_
  refine bc_aload_n dX10_keepsAll_0 rfl ?_
  refine bc_sipush (v := 562) dX10_keepsAll_1 (by decide) ?_
  refine bc_iload_n dX10_keepsAll_4 rfl ?_
  refine bc_imul dX10_keepsAll_5 ?_
  rw [show (562 : Int32) * nI i = nI (562 * i) from ixM (a := 562) rfl rfl]
  refine bc_aload_n dX10_keepsAll_6 rfl ?_
  refine bc_getr dX10_keepsAll_7 fX10_71 (rfl) rfl ?_
  refine bc_bipush (v := 33) dX10_keepsAll_10 (by decide) ?_
  refine bc_iload_n dX10_keepsAll_12 rfl ?_
  refine bc_callV (z := mX10_keepsRow) (ci := 10) dX10_keepsAll_13 lX10_453 qX10_keepsRow (by rfl) (by rfl) (by rfl) (by rfl) (Nat.le_of_ble_eq_true rfl) (t_keepL (c := 33) (a := 19) (q := 562 * i) rfl (by decide) (by omega) (by decide)) (fun r13 μ13 e13 => ?_)
  obtain ⟨rfl, q13⟩ := e13
  obtain rfl := q13.symm
  refine bc_istore_n dX10_keepsAll_16 (by decide) rfl ?_
  refine bc_aload_n dX10_keepsAll_17 rfl ?_
  refine bc_iload_n dX10_keepsAll_18 rfl ?_
  refine bc_aload_n dX10_keepsAll_19 rfl ?_
  refine bc_getr dX10_keepsAll_20 fX10_77 (rfl) rfl ?_
  refine bc_sipush (v := 528) dX10_keepsAll_23 (by decide) ?_
  refine bc_iload_n dX10_keepsAll_26 rfl ?_
  refine bc_callV (z := mX10_keepsRow) (ci := 10) dX10_keepsAll_27 lX10_453 qX10_keepsRow (by rfl) (by rfl) (by rfl) (by rfl) (Nat.le_of_ble_eq_true rfl) (t_keepL (c := 528) (a := 21) (q := 562 * i + 33) rfl (by decide) (by omega) (by decide)) (fun r27 μ27 e27 => ?_)
  obtain ⟨rfl, q27⟩ := e27
  obtain rfl := q27.symm
  refine bc_istore_n dX10_keepsAll_30 (by decide) rfl ?_
  refine bc_iload_n dX10_keepsAll_31 rfl ?_
  refine bc_if_eq (tgt := 48) dX10_keepsAll_32 (by decide) (fun h32 => ?_) (fun h32 => absurd h32 (fun q => q rfl))
  refine bc_aload_n dX10_keepsAll_48 rfl ?_
  refine bc_aload_n dX10_keepsAll_49 rfl ?_
  refine bc_getr dX10_keepsAll_50 fX10_106 (rfl) rfl ?_
  refine bc_iload_n dX10_keepsAll_53 rfl ?_
  refine bc_ialdE (k := 562 * i + 33 + 528) dX10_keepsAll_54 (rfl) (rfl) (⟨by omega, by decide⟩) ?_
  refine bc_put dX10_keepsAll_55 fX10_204 ftX10 fpX10_40 rfl rfl (rfl) rfl ?_
  exact bc_return dX10_keepsAll_58 rfl (⟨rfl, fun j h0 h1 h2 => by rw [bc_u_ne _ _ _ h0, bc_us_ne _ _ h2, bc_us_ne _ _ h1], fun j hj => by rw [bc_u_r, if_neg (by omega)]; rfl, fun j hj => by rw [bc_u_ne _ _ _ (by decide), bc_us_ne _ _ (by decide), bc_us_at, if_pos hj], fun j hj => by rw [bc_u_ne _ _ _ (by decide), bc_us_at, if_pos hj]; rfl, by rw [bc_u_r, if_pos ⟨rfl, rfl⟩]; show m 30 (562 * i + 33 + 528) = _; congr 1⟩)
theorem t_imageN (hw : m 0 59 = nI 3) : bc_C d LM mX10_image [.ref 0] m (fun r ν => r = some (.int (-1)) ∧ ν = bc_u m 0 0 0) := by
  refine bc_enter (by decide) (Nat.le_of_ble_eq_true rfl) rfl ?_
  refine bc_aload_n dX10_image_0 rfl ?_
  refine bc_iconst (v := 0) dX10_image_1 (by decide) ?_
  refine bc_put dX10_image_2 fX10_3 ftX10 fpX10_0 rfl rfl (rfl) rfl ?_
  refine bc_aload_n dX10_image_5 rfl ?_
  refine bc_geti dX10_image_6 fX10_207 (rfl) rfl ?_
  refine bc_iconst (v := 3) dX10_image_9 (by decide) ?_
  refine bc_icmp_ne (tgt := 15) dX10_image_10 (by decide) (fun h10 => absurd h10 (fun q => q hw)) (fun h10 => ?_)
  refine bc_iconst (v := (-1)) dX10_image_13 (by decide) ?_
  exact bc_ireturn dX10_image_14 rfl rfl (⟨rfl, rfl⟩)
def imS (k : Nat) (m ν : bc_M) : Prop := (∀ j, j ≠ 0 → j ≠ 30 → ν j = m j) ∧ (∀ j, j ≠ 0 → j ≠ 59 → ν 0 j = m 0 j) ∧ ν 0 0 = 0 ∧ ν 0 59 = nI (k + 1) ∧ (∀ j, j < 33 → ν 30 (562 * k + j) = m 19 j) ∧ (∀ j, j < 528 → ν 30 (562 * k + 33 + j) = m 21 j) ∧ ν 30 (562 * k + 561) = m 0 40 ∧ ∀ j, j < 562 * k ∨ 562 * k + 562 ≤ j → ν 30 j = m 30 j
theorem t_imageY {k : Nat} (hk : k < 3) (hw : m 0 59 = nI k) : bc_C (d + 2) LM mX10_image [.ref 0] m (fun r ν => r = some (.int (nI (k + 1))) ∧ imS k m ν) := by
  refine bc_enter (by decide) (Nat.le_of_ble_eq_true rfl) rfl ?_
  refine bc_aload_n dX10_image_0 rfl ?_
  refine bc_iconst (v := 0) dX10_image_1 (by decide) ?_
  refine bc_put dX10_image_2 fX10_3 ftX10 fpX10_0 rfl rfl (rfl) rfl ?_
  refine bc_aload_n dX10_image_5 rfl ?_
  refine bc_geti dX10_image_6 fX10_207 (rfl) rfl ?_
  refine bc_iconst (v := 3) dX10_image_9 (by decide) ?_
  refine bc_icmp_ne (tgt := 15) dX10_image_10 (by decide) (fun h10 => ?_) (fun h10 => absurd h10 (by show ¬ m 0 59 = nI 3; rw [hw, bn_eqN (by omega) (by omega)]; omega))
  refine bc_aload_n dX10_image_15 rfl ?_
  refine bc_aload_n dX10_image_16 rfl ?_
  refine bc_geti dX10_image_17 fX10_207 (rfl) rfl ?_
  rw [show bc_u m 0 0 0 0 59 = nI k from hw]
  refine bc_iconst (v := 1) dX10_image_20 (by decide) ?_
  refine bc_callV (z := mX10_keepsAll) (ci := 10) dX10_image_21 lX10_457 qX10_keepsAll (by rfl) (by rfl) (by rfl) (by rfl) (Nat.le_of_ble_eq_true rfl) (t_keepAllK hk) (fun r21 μ21 e21 => ?_)
  obtain ⟨rfl, h21⟩ := e21
  refine bc_aload_n dX10_image_24 rfl ?_
  refine bc_dup dX10_image_25 rfl ?_
  refine bc_geti dX10_image_26 fX10_207 (rfl) rfl ?_
  rw [show μ21 0 59 = nI k by rw [h21.1 0 (by decide)]; exact hw]
  refine bc_iconst (v := 1) dX10_image_29 (by decide) ?_
  refine bc_iadd dX10_image_30 ?_
  rw [bn_add1]
  refine bc_put dX10_image_31 fX10_207 ftX10 fpX10_59 rfl rfl (rfl) rfl ?_
  refine bc_aload_n dX10_image_34 rfl ?_
  refine bc_geti dX10_image_35 fX10_207 (rfl) rfl ?_
  exact bc_ireturn dX10_image_38 rfl rfl (⟨by rw [bc_u_r, if_pos ⟨rfl, rfl⟩], fun j h0 h1 => by rw [bc_u_ne _ _ _ h0, h21.1 j h1, bc_u_ne _ _ _ h0], fun j h0 h1 => by rw [bc_u_r, if_neg (by omega), h21.1 0 (by decide), bc_u_r, if_neg (by omega)], by rw [bc_u_r, if_neg (by omega), h21.1 0 (by decide)]; rfl, by rw [bc_u_r, if_pos ⟨rfl, rfl⟩], h21.2.1, h21.2.2.1, h21.2.2.2.1, h21.2.2.2.2⟩)
theorem t_restoreN (hw : m 0 59 = 0) : bc_C d LM mX10_restore [.ref 0] m (fun r ν => r = some (.int (-1)) ∧ ν = bc_u m 0 0 0) := by
  refine bc_enter (by decide) (Nat.le_of_ble_eq_true rfl) rfl ?_
  refine bc_aload_n dX10_restore_0 rfl ?_
  refine bc_iconst (v := 0) dX10_restore_1 (by decide) ?_
  refine bc_put dX10_restore_2 fX10_3 ftX10 fpX10_0 rfl rfl (rfl) rfl ?_
  refine bc_aload_n dX10_restore_5 rfl ?_
  refine bc_geti dX10_restore_6 fX10_207 (rfl) rfl ?_
  refine bc_if_ne (tgt := 14) dX10_restore_9 (by decide) (fun h9 => absurd h9 (fun q => q hw)) (fun h9 => ?_)
  refine bc_iconst (v := (-1)) dX10_restore_12 (by decide) ?_
  exact bc_ireturn dX10_restore_13 rfl rfl (⟨rfl, rfl⟩)
def rmS (k : Nat) (m ν : bc_M) : Prop := (∀ j, j ≠ 0 → j ≠ 19 → j ≠ 21 → ν j = m j) ∧ (∀ j, j ≠ 0 → j ≠ 40 → j ≠ 41 → j ≠ 59 → ν 0 j = m 0 j) ∧ ν 0 0 = 0 ∧ ν 0 41 = 0 ∧ ν 0 59 = nI k ∧ (∀ j, j < 33 → ν 19 j = m 30 (562 * k + j)) ∧ (∀ j, j < 528 → ν 21 j = m 30 (562 * k + 33 + j)) ∧ ν 0 40 = m 30 (562 * k + 561)
theorem t_restoreY {k : Nat} (hk : k < 3) (hw : m 0 59 = nI (k + 1)) : bc_C (d + 2) LM mX10_restore [.ref 0] m (fun r ν => r = some (.int (nI k)) ∧ rmS k m ν) := by
  refine bc_enter (by decide) (Nat.le_of_ble_eq_true rfl) rfl ?_
  refine bc_aload_n dX10_restore_0 rfl ?_
  refine bc_iconst (v := 0) dX10_restore_1 (by decide) ?_
  refine bc_put dX10_restore_2 fX10_3 ftX10 fpX10_0 rfl rfl (rfl) rfl ?_
  refine bc_aload_n dX10_restore_5 rfl ?_
  refine bc_geti dX10_restore_6 fX10_207 (rfl) rfl ?_
  refine bc_if_ne (tgt := 14) dX10_restore_9 (by decide) (fun h9 => ?_) (fun h9 => absurd h9 (by show ¬ m 0 59 = 0; rw [hw]; exact nI_ne0 (by omega) (by omega)))
  refine bc_aload_n dX10_restore_14 rfl ?_
  refine bc_dup dX10_restore_15 rfl ?_
  refine bc_geti dX10_restore_16 fX10_207 (rfl) rfl ?_
  rw [show bc_u m 0 0 0 0 59 = nI (k + 1) from hw]
  refine bc_iconst (v := 1) dX10_restore_19 (by decide) ?_
  refine bc_isub dX10_restore_20 ?_
  rw [bn_s1 (by omega), Nat.add_sub_cancel]
  refine bc_put dX10_restore_21 fX10_207 ftX10 fpX10_59 rfl rfl (rfl) rfl ?_
  refine bc_aload_n dX10_restore_24 rfl ?_
  refine bc_aload_n dX10_restore_25 rfl ?_
  refine bc_geti dX10_restore_26 fX10_207 (rfl) rfl ?_
  rw [show bc_u (bc_u m 0 0 0) 0 59 (nI k) 0 59 = nI k by rw [bc_u_r, if_pos ⟨rfl, rfl⟩]]
  refine bc_iconst (v := 0) dX10_restore_29 (by decide) ?_
  refine bc_callV (z := mX10_keepsAll) (ci := 10) dX10_restore_30 lX10_457 qX10_keepsAll (by rfl) (by rfl) (by rfl) (by rfl) (Nat.le_of_ble_eq_true rfl) (t_keepAllL hk) (fun r30 μ30 e30 => ?_)
  obtain ⟨rfl, h30⟩ := e30
  refine bc_aload_n dX10_restore_33 rfl ?_
  refine bc_iconst (v := 0) dX10_restore_34 (by decide) ?_
  refine bc_put dX10_restore_35 fX10_210 ftX10 fpX10_41 rfl rfl (rfl) rfl ?_
  refine bc_aload_n dX10_restore_38 rfl ?_
  refine bc_geti dX10_restore_39 fX10_207 (rfl) rfl ?_
  exact bc_ireturn dX10_restore_42 rfl rfl (⟨by rw [bc_u_r, if_neg (by omega), h30.2.1 59 (by decide), bc_u_r, if_pos ⟨rfl, rfl⟩], fun j h0 h1 h2 => by rw [bc_u_ne _ _ _ h0, h30.1 j h0 h1 h2, bc_u_ne _ _ _ h0, bc_u_ne _ _ _ h0], fun j h0 h1 h2 h3 => by rw [bc_u_r, if_neg (by omega), h30.2.1 j h1, bc_u_r, if_neg (by omega), bc_u_r, if_neg (by omega)], by rw [bc_u_r, if_neg (by omega), h30.2.1 0 (by decide)]; rfl, by rw [bc_u_r, if_pos ⟨rfl, rfl⟩], by rw [bc_u_r, if_neg (by omega), h30.2.1 59 (by decide), bc_u_r, if_pos ⟨rfl, rfl⟩], fun j hj => by rw [bc_u_ne _ _ _ (by decide), h30.2.2.1 j hj]; rfl, fun j hj => by rw [bc_u_ne _ _ _ (by decide), h30.2.2.2.1 j hj]; rfl, by rw [bc_u_r, if_neg (by omega), h30.2.2.2.2]; rfl⟩)
end T71
