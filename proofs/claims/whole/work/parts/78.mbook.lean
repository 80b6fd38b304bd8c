/-! the reference: book -/
def bkQ (m : bc_M) (z : TS × BK) (r : Option Value) (ξ : bc_M) : Prop := match z.1 with
  | .inl f => flE f m r ξ
  | .inr _ => r = some (.int (nI z.2.1)) ∧ ∃ ν, wF m ν ∧ ν 0 8 = -1 ∧ (∀ i, i ≠ 0 → i ≠ 23 → ξ i = ν i) ∧ (∀ j, j ≠ 50 → ξ 0 j = ν 0 j) ∧ ξ 0 50 = nI z.2.1 ∧ ∀ h, h < 13 → ξ 23 h = z.2.2 h
section T78
variable {d : Nat} {m μ ν M : bc_M} {n p : Nat} {t : Nat → Int32}
theorem pBk_inl {k : Nat} {B : BK} {f : Nat × Nat} : pBk t n k (.inl f, B) = (.inl f, B) := by cases k <;> rfl
theorem t_bookB {q : Int32} {tp : Nat} (ht : m 0 2 = nI tp) (h : ¬ (0 ≤ q ∧ q ≤ nI tp ∧ q ≤ 60)) : bc_C (d + 2) LM mX10_book [.ref 0, .int q] m (fun r ν => r = some (.int 0) ∧ ν = refM m 1 1) := by
  refine bc_enter (by decide) (Nat.le_of_ble_eq_true rfl) rfl ?_
  have bad : bc_W (d + 2) LM mX10_book 28 [.ref 0, .int q, .null, .null, .null, .null, .null] [.ref 0] (bc_u m 0 0 0) (fun r ν => r = some (.int 0) ∧ ν = refM m 1 1) := by
    refine bc_iconst (v := 0) dX10_book_28 (by decide) ?_
    refine bc_iconst (v := 1) dX10_book_29 (by decide) ?_
    refine bc_iconst (v := 1) dX10_book_30 (by decide) ?_
    refine bc_callV (z := mX10_may) (ci := 10) dX10_book_31 lX10_236 qX10_may (by rfl) (by rfl) (by rfl) (by rfl) (Nat.le_of_ble_eq_true rfl) (t_mayN (k := 1) False (fun x => x) _ (by decide) rfl (by decide)) (fun r31 μ31 e31 => ?_)
    obtain ⟨rfl, q31⟩ := e31
    obtain rfl := q31.symm
    refine bc_if_ne (tgt := 39) dX10_book_34 (by decide) (fun h34 => absurd h34 (fun q => q rfl)) (fun h34 => ?_)
    refine bc_iconst (v := 0) dX10_book_37 (by decide) ?_
    exact bc_ireturn dX10_book_38 rfl rfl (⟨rfl, rfl⟩)
  refine bc_aload_n dX10_book_0 rfl ?_
  refine bc_iconst (v := 0) dX10_book_1 (by decide) ?_
  refine bc_put dX10_book_2 fX10_3 ftX10 fpX10_0 rfl rfl (rfl) rfl ?_
  refine bc_aload_n dX10_book_5 rfl ?_
  refine bc_iload_n dX10_book_6 rfl ?_
  refine bc_if_lt (tgt := 28) dX10_book_7 (by decide) (fun h7 => ?_) (fun h7 => ?_)
  · exact bad
  · refine bc_iload_n dX10_book_10 rfl ?_
    refine bc_aload_n dX10_book_11 rfl ?_
    refine bc_geti dX10_book_12 fX10_115 (rfl) rfl ?_
    rw [show bc_u m 0 0 0 0 2 = nI tp from ht]
    refine bc_icmp_gt (tgt := 28) dX10_book_15 (by decide) (fun h15 => ?_) (fun h15 => ?_)
    · exact bad
    · refine bc_iload_n dX10_book_18 rfl ?_
      refine bc_bipush (v := 60) dX10_book_19 (by decide) ?_
      refine bc_icmp_gt (tgt := 28) dX10_book_21 (by decide) (fun h21 => ?_) (fun h21 => ?_)
      · exact bad
      · exact absurd ⟨Int32.not_lt.mp h7, Int32.not_lt.mp h15, Int32.not_lt.mp h21⟩ h
theorem t_book {tp : Nat} (ht : m 0 2 = nI tp) (htp : tp ≤ 600) (hn : n ≤ tp) (hn2 : n ≤ 60) (hb : ∀ j, j < tp → b8R (t j) (m 2 j)) : bc_C (d + 7) LM mX10_book [.ref 0, .int (nI n)] m (bkQ m (pBk t n 7 (.inr (skp t n 0), bk0))) := by
  refine bc_enter (by decide) (Nat.le_of_ble_eq_true rfl) rfl ?_
  have exitE : ∀ (z : Nat × Nat) (B : BK) (ν : bc_M) (v2 : Int32) (v3 v4 v5 v6 : Value), v3.category = 1 → v4.category = 1 → v5.category = 1 → v6.category = 1 → wF m ν → rS t n (.inl z) ν → bc_W (d + 7) LM mX10_book 198 [.ref 0, .int (nI n), .int v2, v3, v4, v5, v6] [] ν (bkQ m (.inl z, B)) := by
    intro z B ν v2 v3 v4 v5 v6 c3 c4 c5 c6 hw hs
    have hq : ν 0 5 = nI z.2 ∧ z.2 ≤ n := by
      obtain ⟨-, a, -, -, h5, -, h6⟩ := hs
      exact ⟨h5, h6⟩
    refine bc_aload_n dX10_book_198 rfl ?_
    refine bc_iload_n dX10_book_199 rfl ?_
    refine bc_callV (z := mX10_result) (ci := 10) dX10_book_200 lX10_262 qX10_result (by rfl) (by rfl) (by rfl) (by rfl) (Nat.le_of_ble_eq_true rfl) (t_result _ hs) (fun r200 μ200 e200 => ?_)
    obtain ⟨rfl, q200⟩ := e200
    obtain rfl := q200.symm
    refine bc_istore_n dX10_book_203 (by decide) rfl ?_
    refine bc_aload_n dX10_book_204 rfl ?_
    refine bc_geti dX10_book_205 fX10_118 (rfl) rfl ?_
    rw [show bc_u ν 0 8 (rsF (.inl z)) 0 5 = nI z.2 from hq.1]
    refine bc_iconst (v := (-1)) dX10_book_208 (by decide) ?_
    refine bc_icmp_eq (tgt := 214) dX10_book_209 (by decide) (fun h209 => absurd h209 (nI_m1 (by omega))) (fun h209 => ?_)
    refine bc_iload_n dX10_book_212 rfl ?_
    exact bc_ireturn dX10_book_213 rfl rfl (⟨rfl, hw.u8, by rw [bc_u_r, if_pos ⟨rfl, rfl⟩]; rfl⟩)
  have exitY : ∀ (p : Nat) (B : BK) (ν : bc_M) (v3 v4 v5 v6 : Value), v3.category = 1 → v4.category = 1 → v5.category = 1 → v6.category = 1 → wF m ν → rS t n (.inr p) ν → (∀ h, h < 13 → ν 22 h = B.2 h) → bc_W (d + 7) LM mX10_book 198 [.ref 0, .int (nI n), .int (nI B.1), v3, v4, v5, v6] [] ν (bkQ m (.inr p, B)) := by
    intro p B ν v3 v4 v5 v6 c3 c4 c5 c6 hw hs hB
    have h5 : ν 0 5 = -1 := by
      obtain ⟨-, a, -, -, h5, -⟩ := hs
      exact h5
    refine bc_aload_n dX10_book_198 rfl ?_
    refine bc_iload_n dX10_book_199 rfl ?_
    refine bc_callV (z := mX10_result) (ci := 10) dX10_book_200 lX10_262 qX10_result (by rfl) (by rfl) (by rfl) (by rfl) (Nat.le_of_ble_eq_true rfl) (t_result _ hs) (fun r200 μ200 e200 => ?_)
    obtain ⟨rfl, q200⟩ := e200
    obtain rfl := q200.symm
    refine bc_istore_n dX10_book_203 (by decide) rfl ?_
    refine bc_aload_n dX10_book_204 rfl ?_
    refine bc_geti dX10_book_205 fX10_118 (rfl) rfl ?_
    refine bc_iconst (v := (-1)) dX10_book_208 (by decide) ?_
    refine bc_icmp_eq (tgt := 214) dX10_book_209 (by decide) (fun h209 => ?_) (fun h209 => absurd h209 (fun q => q h5))
    refine bc_aload_n dX10_book_214 rfl ?_
    refine bc_iload_n dX10_book_215 rfl ?_
    refine bc_put dX10_book_216 fX10_201 ftX10 fpX10_50 rfl rfl (rfl) rfl ?_
    refine bc_aload_n dX10_book_219 rfl ?_
    refine bc_aload_n dX10_book_220 rfl ?_
    refine bc_getr dX10_book_221 fX10_80 (rfl) rfl ?_
    refine bc_aload_n dX10_book_224 rfl ?_
    refine bc_getr dX10_book_225 fX10_83 (rfl) rfl ?_
    refine bc_bipush (v := 13) dX10_book_228 (by decide) ?_
    refine bc_callV (z := mX10_copies) (ci := 10) dX10_book_230 lX10_194 qX10_copies (by rfl) (by rfl) (by rfl) (by rfl) (Nat.le_of_ble_eq_true rfl) (t_copies (n := 13) (i := 22) (j := 23) rfl rfl ⟨by decide, by decide⟩ ⟨by decide, by decide⟩ (by decide)) (fun r230 μ230 e230 => ?_)
    obtain ⟨rfl, q230⟩ := e230
    obtain rfl := q230.symm
    refine bc_iload_n dX10_book_233 rfl ?_
    exact bc_ireturn dX10_book_234 rfl rfl (by
refine ⟨rfl, _, hw.u8 (v := -1), by rw [bc_u_r, if_pos ⟨rfl, rfl⟩], fun i h0 h1 => ?_, fun j hj => ?_, rfl, fun h hh => ?_⟩
· rw [bc_us_ne _ _ h1, bc_u_ne _ _ _ h0]; rfl
· rw [bc_us_ne _ _ (by decide), bc_u_r, if_neg (by omega)]; rfl
· show cpN (ν 22) (ν 23) 13 h = B.2 h
  unfold cpN
  rw [if_pos hh]
  exact hB h hh)
  have loop : ∀ (k : Nat) (S : TS) (B : BK) (ν : bc_M) (v3 v4 v5 v6 : Value), v3.category = 1 → v4.category = 1 → v5.category = 1 → v6.category = 1 → B.1 + k = 7 → (B.1 ≤ 6 ∨ ∃ z, S = .inl z) → wF m ν → rS t n S ν → (∀ p, S = .inr p → ∀ h, h < 13 → ν 22 h = B.2 h) → bc_W (d + 7) LM mX10_book 67 [.ref 0, .int (nI n), .int (nI B.1), v3, v4, v5, v6] [] ν (bkQ m (pBk t n k (S, B))) := by
    intro k
    induction k with
    | zero =>
      intro S B ν v3 v4 v5 v6 c3 c4 c5 c6 hc h6 hw hs hB
      rcases h6 with q | ⟨z, rfl⟩
      · omega
      · rw [pBk_inl]
        refine bc_aload_n dX10_book_67 rfl ?_
        refine bc_callV (z := mX10_fine) (ci := 10) dX10_book_68 lX10_147 qX10_fine (by rfl) (by rfl) (by rfl) (by rfl) (Nat.le_of_ble_eq_true rfl) (t_fineN hs) (fun r68 μ68 e68 => ?_)
        obtain ⟨rfl, q68⟩ := e68
        obtain rfl := q68.symm
        refine bc_if_eq (tgt := 198) dX10_book_71 (by decide) (fun h71 => ?_) (fun h71 => absurd h71 (fun q => q rfl))
        exact exitE z B ν _ _ _ _ _ c3 c4 c5 c6 hw hs
    | succ k ih =>
      intro S B ν v3 v4 v5 v6 c3 c4 c5 c6 hc h6 hw hs hB
      cases S with
      | inl z =>
        rw [pBk_inl]
        refine bc_aload_n dX10_book_67 rfl ?_
        refine bc_callV (z := mX10_fine) (ci := 10) dX10_book_68 lX10_147 qX10_fine (by rfl) (by rfl) (by rfl) (by rfl) (Nat.le_of_ble_eq_true rfl) (t_fineN hs) (fun r68 μ68 e68 => ?_)
        obtain ⟨rfl, q68⟩ := e68
        obtain rfl := q68.symm
        refine bc_if_eq (tgt := 198) dX10_book_71 (by decide) (fun h71 => ?_) (fun h71 => absurd h71 (fun q => q rfl))
        exact exitE z B ν _ _ _ _ _ c3 c4 c5 c6 hw hs
      | inr p =>
        have hB1 := hB p rfl
        have hc6 : B.1 ≤ 6 := by
          rcases h6 with q | ⟨z, hz⟩
          · exact q
          · cases hz
        have hat := hs.at'
        have hpn := hs.le
        obtain ⟨ν1, hν1⟩ : ∃ ν1, ν1 = bc_u ν 0 4 (nI p) := ⟨_, rfl⟩
        have hf1 : f456 ν ν1 := by rw [hν1]; exact f456.u (by omega)
        rw [← hν1] at hat
        have hw1 : wF m ν1 := hw.rF hf1.rF
        have q4 : ν1 0 4 = nI p := by rw [hν1, bc_u_r, if_pos ⟨rfl, rfl⟩]
        have u4 : bc_u ν1 0 4 (nI p) = ν1 := u_self q4
        have hB2 : ∀ h, h < 13 → ν1 22 h = B.2 h := fun h hh => by rw [hf1.1 22 (by decide)]; exact hB1 h hh
        by_cases hpl : p < n
        · have hstep : pBk t n (k + 1) (.inr p, B) = pBk t n k (sNeed t n (nI 59) (pLn t n p B).1, (pLn t n p B).2) := by
            rw [pBk, if_pos hpl]
            rfl
          rw [hstep]
          unfold pLn
          have hzz : ∀ x, (sNum t n 1 13 (.inr p)).1 = .inr x → (sNum t n 1 13 (.inr p)).2 < 13 := fun x hx => (sNum_ok hx).2.2
          have readH := t_readNumber (d := d + 5) (lo := 1) (hi := 13) (hv := 12) hat (by omega) (by omega) rfl
          generalize sNum t n 1 13 (.inr p) = z at hzz readH
          obtain ⟨Z1, z2⟩ := z
          have rest : ∀ (S2 : TS) (ν : bc_M) (v5 v6 : Value), v5.category = 1 → v6.category = 1 → wF m ν → rS t n S2 ν → (∀ x, S2 = .inr x → z2 < 13 ∧ B.1 < 6) → (∀ h, h < 13 → ν 22 h = B.2 h) → S2 = sLn p B (Z1, z2) → bc_W (d + 7) LM mX10_book 143 [.ref 0, .int (nI n), .int (nI B.1), .int (nI p), .int (nI z2), v5, v6] [] ν (bkQ m (pBk t n k (sNeed t n (nI 59) (sTwo t n 0 31 0 31 (sLn p B (Z1, z2))).1, B.1 + 1, upd B.2 z2 (bkC (sTwo t n 0 31 0 31 (sLn p B (Z1, z2))).2.1 (sTwo t n 0 31 0 31 (sLn p B (Z1, z2))).2.2)))) := by
            intro S2 ν v5 v6 c5 c6 hw hs hS2 hB2 eS
            rw [← eS]
            cases hS3 : sNeed t n (nI 59) (sTwo t n 0 31 0 31 S2).1 with
            | inl f =>
              rw [pBk_inl]
              refine bc_aload_n dX10_book_143 rfl ?_
              refine bc_iconst (v := 0) dX10_book_144 (by decide) ?_
              refine bc_bipush (v := 30) dX10_book_145 (by decide) ?_
              refine bc_callV (z := mX10_readNumber) (ci := 10) dX10_book_147 lX10_232 qX10_readNumber (by rfl) (by rfl) (by rfl) (by rfl) (Nat.le_of_ble_eq_true rfl) (t_readNumber (lo := 0) (hi := 31) (hv := 30) hs (by omega) (by omega) rfl) (fun r147 μ147 e147 => ?_)
              obtain ⟨rfl, f147, s147⟩ := e147
              refine bc_istore dX10_book_150 (by decide) rfl ?_
              refine bc_aload_n dX10_book_152 rfl ?_
              refine bc_iconst (v := 0) dX10_book_153 (by decide) ?_
              refine bc_bipush (v := 30) dX10_book_154 (by decide) ?_
              refine bc_callV (z := mX10_readNumber) (ci := 10) dX10_book_156 lX10_232 qX10_readNumber (by rfl) (by rfl) (by rfl) (by rfl) (Nat.le_of_ble_eq_true rfl) (t_readNumber (lo := 0) (hi := 31) (hv := 30) s147 (by omega) (by omega) rfl) (fun r156 μ156 e156 => ?_)
              obtain ⟨rfl, f156, s156⟩ := e156
              refine bc_istore dX10_book_159 (by decide) rfl ?_
              refine bc_aload_n dX10_book_161 rfl ?_
              refine bc_bipush (v := 59) dX10_book_162 (by decide) ?_
              refine bc_callV (z := mX10_sign) (ci := 10) dX10_book_164 lX10_259 qX10_sign (by rfl) (by rfl) (by rfl) (by rfl) (Nat.le_of_ble_eq_true rfl) (t_sign (c := 59) s156 (by omega) (by omega)) (fun r164 μ164 e164 => ?_)
              obtain ⟨rfl, f164, s164⟩ := e164
              rw [show sNeed t n (nI 59) (sNum t n 0 31 (sNum t n 0 31 S2).1).1 = .inl f from hS3] at s164
              refine bc_aload_n dX10_book_167 rfl ?_
              refine bc_callV (z := mX10_fine) (ci := 10) dX10_book_168 lX10_147 qX10_fine (by rfl) (by rfl) (by rfl) (by rfl) (Nat.le_of_ble_eq_true rfl) (t_fineN s164) (fun r168 μ168 e168 => ?_)
              obtain ⟨rfl, q168⟩ := e168
              obtain rfl := q168.symm
              refine bc_if_ne (tgt := 177) dX10_book_171 (by decide) (fun h171 => absurd h171 (fun q => q rfl)) (fun h171 => ?_)
              refine bc_goto (tgt := 198) dX10_book_174 (by decide) ?_
              exact exitE f _ _ _ _ _ _ _ rfl rfl rfl rfl (((hw.rF f147.rF).rF f156.rF).rF f164.rF) s164
            | inr x =>
              have hx : z2 < 13 ∧ B.1 < 6 := by
                obtain ⟨x0, e0, -⟩ := sNeed_ok hS3
                obtain ⟨⟨x1, e1, -⟩, -⟩ := sNum_ok (show (sNum t n 0 31 (sNum t n 0 31 S2).1).1 = .inr x0 from e0)
                obtain ⟨⟨x2, e2, -⟩, -⟩ := sNum_ok e1
                exact hS2 x2 e2
              refine bc_aload_n dX10_book_143 rfl ?_
              refine bc_iconst (v := 0) dX10_book_144 (by decide) ?_
              refine bc_bipush (v := 30) dX10_book_145 (by decide) ?_
              refine bc_callV (z := mX10_readNumber) (ci := 10) dX10_book_147 lX10_232 qX10_readNumber (by rfl) (by rfl) (by rfl) (by rfl) (Nat.le_of_ble_eq_true rfl) (t_readNumber (lo := 0) (hi := 31) (hv := 30) hs (by omega) (by omega) rfl) (fun r147 μ147 e147 => ?_)
              obtain ⟨rfl, f147, s147⟩ := e147
              refine bc_istore dX10_book_150 (by decide) rfl ?_
              refine bc_aload_n dX10_book_152 rfl ?_
              refine bc_iconst (v := 0) dX10_book_153 (by decide) ?_
              refine bc_bipush (v := 30) dX10_book_154 (by decide) ?_
              refine bc_callV (z := mX10_readNumber) (ci := 10) dX10_book_156 lX10_232 qX10_readNumber (by rfl) (by rfl) (by rfl) (by rfl) (Nat.le_of_ble_eq_true rfl) (t_readNumber (lo := 0) (hi := 31) (hv := 30) s147 (by omega) (by omega) rfl) (fun r156 μ156 e156 => ?_)
              obtain ⟨rfl, f156, s156⟩ := e156
              refine bc_istore dX10_book_159 (by decide) rfl ?_
              refine bc_aload_n dX10_book_161 rfl ?_
              refine bc_bipush (v := 59) dX10_book_162 (by decide) ?_
              refine bc_callV (z := mX10_sign) (ci := 10) dX10_book_164 lX10_259 qX10_sign (by rfl) (by rfl) (by rfl) (by rfl) (Nat.le_of_ble_eq_true rfl) (t_sign (c := 59) s156 (by omega) (by omega)) (fun r164 μ164 e164 => ?_)
              obtain ⟨rfl, f164, s164⟩ := e164
              rw [show sNeed t n (nI 59) (sNum t n 0 31 (sNum t n 0 31 S2).1).1 = .inr x from hS3] at s164
              refine bc_aload_n dX10_book_167 rfl ?_
              refine bc_callV (z := mX10_fine) (ci := 10) dX10_book_168 lX10_147 qX10_fine (by rfl) (by rfl) (by rfl) (by rfl) (Nat.le_of_ble_eq_true rfl) (t_fineY rfl s164) (fun r168 μ168 e168 => ?_)
              obtain ⟨rfl, q168⟩ := e168
              obtain rfl := q168.symm
              refine bc_if_ne (tgt := 177) dX10_book_171 (by decide) (fun h171 => ?_) (fun h171 => absurd h171 (by decide))
              refine bc_aload_n dX10_book_177 rfl ?_
              refine bc_getr dX10_book_178 fX10_80 (rfl) rfl ?_
              refine bc_iload dX10_book_181 rfl ?_
              refine bc_bipush (v := 31) dX10_book_183 (by decide) ?_
              refine bc_iload dX10_book_185 rfl ?_
              refine bc_imul dX10_book_187 ?_
              refine bc_iload dX10_book_188 rfl ?_
              refine bc_iadd dX10_book_190 ?_
              refine bc_iastE dX10_book_191 (rfl) (rfl) (⟨hx.1, by decide⟩) ?_
              refine bc_iinc1 dX10_book_192 rfl (by decide) rfl ?_
              refine bc_goto (tgt := 67) dX10_book_195 (by decide) ?_
              rw [bn_add1]
              refine ih (.inr x) (B.1 + 1, upd B.2 z2 (bkC (sTwo t n 0 31 0 31 S2).2.1 (sTwo t n 0 31 0 31 S2).2.2)) _ _ _ _ _ rfl rfl rfl rfl (by show B.1 + 1 + k = 7; omega) (.inl (by show B.1 + 1 ≤ 6; omega)) ((((hw.rF f147.rF).rF f156.rF).rF f164.rF).rF (rF.ui (by omega))) (s164.ua (by decide) (by decide)) (fun p' hp' h hh => ?_)
              rw [bc_u_r]
              show _ = upd B.2 z2 _ h
              unfold upd
              by_cases e : h = z2
              · rw [if_pos ⟨rfl, e⟩, if_pos e]
                show 31 * nI (sNum t n 0 31 S2).2 + nI (sNum t n 0 31 (sNum t n 0 31 S2).1).2 = nI (sNum t n 0 31 S2).2 * 31 + nI (sNum t n 0 31 (sNum t n 0 31 S2).1).2
                rw [Int32.mul_comm]
              · rw [if_neg (fun q => e q.2), if_neg e, f164.1 22 (by decide), f156.1 22 (by decide), f147.1 22 (by decide)]
                exact hB2 h hh
          cases Z1 with
          | inl f =>
            have eL : sLn p B (.inl f, z2) = .inl f := by
              unfold sLn
              split <;> rfl
            refine bc_aload_n dX10_book_67 rfl ?_
            refine bc_callV (z := mX10_fine) (ci := 10) dX10_book_68 lX10_147 qX10_fine (by rfl) (by rfl) (by rfl) (by rfl) (Nat.le_of_ble_eq_true rfl) (t_fineY rfl hs) (fun r68 μ68 e68 => ?_)
            obtain ⟨rfl, q68⟩ := e68
            obtain rfl := q68.symm
            refine bc_if_eq (tgt := 198) dX10_book_71 (by decide) (fun h71 => absurd h71 (by decide)) (fun h71 => ?_)
            refine bc_aload_n dX10_book_74 rfl ?_
            refine bc_callV (z := mX10_isMore) (ci := 10) dX10_book_75 lX10_244 qX10_isMore (by rfl) (by rfl) (by rfl) (by rfl) (Nat.le_of_ble_eq_true rfl) (t_isMore hs) (fun r75 μ75 e75 => ?_)
            obtain ⟨rfl, q75⟩ := e75
            obtain rfl := q75.symm
            rw [if_pos hpl, ← hν1]
            refine bc_if_eq (tgt := 198) dX10_book_78 (by decide) (fun h78 => absurd h78 (by decide)) (fun h78 => ?_)
            refine bc_aload_n dX10_book_81 rfl ?_
            refine bc_callV (z := mX10_here) (ci := 10) dX10_book_82 lX10_130 qX10_here (by rfl) (by rfl) (by rfl) (by rfl) (Nat.le_of_ble_eq_true rfl) (t_here hat) (fun r82 μ82 e82 => ?_)
            obtain ⟨rfl, q82⟩ := e82
            obtain rfl := q82.symm
            rw [u4]
            refine bc_pop dX10_book_85 rfl ?_
            refine bc_aload_n dX10_book_86 rfl ?_
            refine bc_geti dX10_book_87 fX10_124 (rfl) rfl ?_
            rw [q4]
            refine bc_istore_n dX10_book_90 (by decide) rfl ?_
            refine bc_aload_n dX10_book_91 rfl ?_
            refine bc_iconst (v := 1) dX10_book_92 (by decide) ?_
            refine bc_bipush (v := 12) dX10_book_93 (by decide) ?_
            refine bc_callV (z := mX10_readNumber) (ci := 10) dX10_book_95 lX10_232 qX10_readNumber (by rfl) (by rfl) (by rfl) (by rfl) (Nat.le_of_ble_eq_true rfl) (readH) (fun r95 μ95 e95 => ?_)
            obtain ⟨rfl, f95, s95⟩ := e95
            refine bc_istore dX10_book_98 (by decide) rfl ?_
            refine bc_aload_n dX10_book_100 rfl ?_
            refine bc_callV (z := mX10_fine) (ci := 10) dX10_book_101 lX10_147 qX10_fine (by rfl) (by rfl) (by rfl) (by rfl) (Nat.le_of_ble_eq_true rfl) (t_fineN s95) (fun r101 μ101 e101 => ?_)
            obtain ⟨rfl, q101⟩ := e101
            obtain rfl := q101.symm
            refine bc_if_eq (tgt := 124) dX10_book_104 (by decide) (fun h104 => ?_) (fun h104 => absurd h104 (fun q => q rfl))
            refine bc_aload_n dX10_book_124 rfl ?_
            refine bc_callV (z := mX10_fine) (ci := 10) dX10_book_125 lX10_147 qX10_fine (by rfl) (by rfl) (by rfl) (by rfl) (Nat.le_of_ble_eq_true rfl) (t_fineN s95) (fun r125 μ125 e125 => ?_)
            obtain ⟨rfl, q125⟩ := e125
            obtain rfl := q125.symm
            refine bc_if_eq (tgt := 143) dX10_book_128 (by decide) (fun h128 => ?_) (fun h128 => absurd h128 (fun q => q rfl))
            exact rest (.inl f) _ _ _ c5 c6 (hw1.rF f95.rF) s95 (fun x hx => by cases hx) (fun h hh => by rw [f95.1 22 (by decide)]; exact hB2 h hh) eL.symm
          | inr x =>
            have hz13 := hzz x rfl
            by_cases hB3 : B.2 z2 = -1
            · by_cases hB6 : B.1 = 6
              · have eL : sLn p B (.inr x, z2) = .inl (3, p) := by
                  unfold sLn
                  rw [if_pos (by omega)]
                  show sAcc 3 p (if B.2 z2 = -1 then _ else _) = _
                  rw [if_pos hB3]
                  rfl
                refine bc_aload_n dX10_book_67 rfl ?_
                refine bc_callV (z := mX10_fine) (ci := 10) dX10_book_68 lX10_147 qX10_fine (by rfl) (by rfl) (by rfl) (by rfl) (Nat.le_of_ble_eq_true rfl) (t_fineY rfl hs) (fun r68 μ68 e68 => ?_)
                obtain ⟨rfl, q68⟩ := e68
                obtain rfl := q68.symm
                refine bc_if_eq (tgt := 198) dX10_book_71 (by decide) (fun h71 => absurd h71 (by decide)) (fun h71 => ?_)
                refine bc_aload_n dX10_book_74 rfl ?_
                refine bc_callV (z := mX10_isMore) (ci := 10) dX10_book_75 lX10_244 qX10_isMore (by rfl) (by rfl) (by rfl) (by rfl) (Nat.le_of_ble_eq_true rfl) (t_isMore hs) (fun r75 μ75 e75 => ?_)
                obtain ⟨rfl, q75⟩ := e75
                obtain rfl := q75.symm
                rw [if_pos hpl, ← hν1]
                refine bc_if_eq (tgt := 198) dX10_book_78 (by decide) (fun h78 => absurd h78 (by decide)) (fun h78 => ?_)
                refine bc_aload_n dX10_book_81 rfl ?_
                refine bc_callV (z := mX10_here) (ci := 10) dX10_book_82 lX10_130 qX10_here (by rfl) (by rfl) (by rfl) (by rfl) (Nat.le_of_ble_eq_true rfl) (t_here hat) (fun r82 μ82 e82 => ?_)
                obtain ⟨rfl, q82⟩ := e82
                obtain rfl := q82.symm
                rw [u4]
                refine bc_pop dX10_book_85 rfl ?_
                refine bc_aload_n dX10_book_86 rfl ?_
                refine bc_geti dX10_book_87 fX10_124 (rfl) rfl ?_
                rw [q4]
                refine bc_istore_n dX10_book_90 (by decide) rfl ?_
                refine bc_aload_n dX10_book_91 rfl ?_
                refine bc_iconst (v := 1) dX10_book_92 (by decide) ?_
                refine bc_bipush (v := 12) dX10_book_93 (by decide) ?_
                refine bc_callV (z := mX10_readNumber) (ci := 10) dX10_book_95 lX10_232 qX10_readNumber (by rfl) (by rfl) (by rfl) (by rfl) (Nat.le_of_ble_eq_true rfl) (readH) (fun r95 μ95 e95 => ?_)
                obtain ⟨rfl, f95, s95⟩ := e95
                refine bc_istore dX10_book_98 (by decide) rfl ?_
                refine bc_aload_n dX10_book_100 rfl ?_
                refine bc_callV (z := mX10_fine) (ci := 10) dX10_book_101 lX10_147 qX10_fine (by rfl) (by rfl) (by rfl) (by rfl) (Nat.le_of_ble_eq_true rfl) (t_fineY rfl s95) (fun r101 μ101 e101 => ?_)
                obtain ⟨rfl, q101⟩ := e101
                obtain rfl := q101.symm
                refine bc_if_eq (tgt := 124) dX10_book_104 (by decide) (fun h104 => absurd h104 (by decide)) (fun h104 => ?_)
                refine bc_aload_n dX10_book_107 rfl ?_
                refine bc_getr dX10_book_108 fX10_80 (rfl) rfl ?_
                refine bc_iload dX10_book_111 rfl ?_
                refine bc_ialdE dX10_book_113 (rfl) (rfl) (⟨hz13, by decide⟩) ?_
                rw [f95.1 22 (by decide), hB2 z2 hz13]
                refine bc_iconst (v := (-1)) dX10_book_114 (by decide) ?_
                refine bc_icmp_eq (tgt := 124) dX10_book_115 (by decide) (fun h115 => ?_) (fun h115 => absurd h115 (fun q => q hB3))
                refine bc_aload_n dX10_book_124 rfl ?_
                refine bc_callV (z := mX10_fine) (ci := 10) dX10_book_125 lX10_147 qX10_fine (by rfl) (by rfl) (by rfl) (by rfl) (Nat.le_of_ble_eq_true rfl) (t_fineY rfl s95) (fun r125 μ125 e125 => ?_)
                obtain ⟨rfl, q125⟩ := e125
                obtain rfl := q125.symm
                refine bc_if_eq (tgt := 143) dX10_book_128 (by decide) (fun h128 => absurd h128 (by decide)) (fun h128 => ?_)
                refine bc_iload_n dX10_book_131 rfl ?_
                refine bc_bipush (v := 6) dX10_book_132 (by decide) ?_
                refine bc_icmp_ne (tgt := 143) dX10_book_134 (by decide) (fun h134 => absurd h134 (fun q => q (by rw [hB6]; rfl))) (fun h134 => ?_)
                refine bc_aload_n dX10_book_137 rfl ?_
                refine bc_iconst (v := 3) dX10_book_138 (by decide) ?_
                refine bc_iload_n dX10_book_139 rfl ?_
                refine bc_callV (z := mX10_wrong) (ci := 10) dX10_book_140 lX10_154 qX10_wrong (by rfl) (by rfl) (by rfl) (by rfl) (Nat.le_of_ble_eq_true rfl) (t_wrongY (k := 3) s95 hpn) (fun r140 μ140 e140 => ?_)
                obtain ⟨rfl, f140, s140, -⟩ := e140
                exact rest (.inl (3, p)) _ _ _ c5 c6 ((hw1.rF f95.rF).rF f140.rF) s140 (fun x hx => by cases hx) (fun h hh => by rw [f140.1 22 (by decide), f95.1 22 (by decide)]; exact hB2 h hh) eL.symm
              · have eL : sLn p B (.inr x, z2) = .inr x := by
                  unfold sLn
                  rw [if_neg (by omega)]
                  show (if B.2 z2 = -1 then _ else _) = _
                  rw [if_pos hB3]
                refine bc_aload_n dX10_book_67 rfl ?_
                refine bc_callV (z := mX10_fine) (ci := 10) dX10_book_68 lX10_147 qX10_fine (by rfl) (by rfl) (by rfl) (by rfl) (Nat.le_of_ble_eq_true rfl) (t_fineY rfl hs) (fun r68 μ68 e68 => ?_)
                obtain ⟨rfl, q68⟩ := e68
                obtain rfl := q68.symm
                refine bc_if_eq (tgt := 198) dX10_book_71 (by decide) (fun h71 => absurd h71 (by decide)) (fun h71 => ?_)
                refine bc_aload_n dX10_book_74 rfl ?_
                refine bc_callV (z := mX10_isMore) (ci := 10) dX10_book_75 lX10_244 qX10_isMore (by rfl) (by rfl) (by rfl) (by rfl) (Nat.le_of_ble_eq_true rfl) (t_isMore hs) (fun r75 μ75 e75 => ?_)
                obtain ⟨rfl, q75⟩ := e75
                obtain rfl := q75.symm
                rw [if_pos hpl, ← hν1]
                refine bc_if_eq (tgt := 198) dX10_book_78 (by decide) (fun h78 => absurd h78 (by decide)) (fun h78 => ?_)
                refine bc_aload_n dX10_book_81 rfl ?_
                refine bc_callV (z := mX10_here) (ci := 10) dX10_book_82 lX10_130 qX10_here (by rfl) (by rfl) (by rfl) (by rfl) (Nat.le_of_ble_eq_true rfl) (t_here hat) (fun r82 μ82 e82 => ?_)
                obtain ⟨rfl, q82⟩ := e82
                obtain rfl := q82.symm
                rw [u4]
                refine bc_pop dX10_book_85 rfl ?_
                refine bc_aload_n dX10_book_86 rfl ?_
                refine bc_geti dX10_book_87 fX10_124 (rfl) rfl ?_
                rw [q4]
                refine bc_istore_n dX10_book_90 (by decide) rfl ?_
                refine bc_aload_n dX10_book_91 rfl ?_
                refine bc_iconst (v := 1) dX10_book_92 (by decide) ?_
                refine bc_bipush (v := 12) dX10_book_93 (by decide) ?_
                refine bc_callV (z := mX10_readNumber) (ci := 10) dX10_book_95 lX10_232 qX10_readNumber (by rfl) (by rfl) (by rfl) (by rfl) (Nat.le_of_ble_eq_true rfl) (readH) (fun r95 μ95 e95 => ?_)
                obtain ⟨rfl, f95, s95⟩ := e95
                refine bc_istore dX10_book_98 (by decide) rfl ?_
                refine bc_aload_n dX10_book_100 rfl ?_
                refine bc_callV (z := mX10_fine) (ci := 10) dX10_book_101 lX10_147 qX10_fine (by rfl) (by rfl) (by rfl) (by rfl) (Nat.le_of_ble_eq_true rfl) (t_fineY rfl s95) (fun r101 μ101 e101 => ?_)
                obtain ⟨rfl, q101⟩ := e101
                obtain rfl := q101.symm
                refine bc_if_eq (tgt := 124) dX10_book_104 (by decide) (fun h104 => absurd h104 (by decide)) (fun h104 => ?_)
                refine bc_aload_n dX10_book_107 rfl ?_
                refine bc_getr dX10_book_108 fX10_80 (rfl) rfl ?_
                refine bc_iload dX10_book_111 rfl ?_
                refine bc_ialdE dX10_book_113 (rfl) (rfl) (⟨hz13, by decide⟩) ?_
                rw [f95.1 22 (by decide), hB2 z2 hz13]
                refine bc_iconst (v := (-1)) dX10_book_114 (by decide) ?_
                refine bc_icmp_eq (tgt := 124) dX10_book_115 (by decide) (fun h115 => ?_) (fun h115 => absurd h115 (fun q => q hB3))
                refine bc_aload_n dX10_book_124 rfl ?_
                refine bc_callV (z := mX10_fine) (ci := 10) dX10_book_125 lX10_147 qX10_fine (by rfl) (by rfl) (by rfl) (by rfl) (Nat.le_of_ble_eq_true rfl) (t_fineY rfl s95) (fun r125 μ125 e125 => ?_)
                obtain ⟨rfl, q125⟩ := e125
                obtain rfl := q125.symm
                refine bc_if_eq (tgt := 143) dX10_book_128 (by decide) (fun h128 => absurd h128 (by decide)) (fun h128 => ?_)
                refine bc_iload_n dX10_book_131 rfl ?_
                refine bc_bipush (v := 6) dX10_book_132 (by decide) ?_
                refine bc_icmp_ne (tgt := 143) dX10_book_134 (by decide) (fun h134 => ?_) (fun h134 => absurd h134 (fun q => hB6 ((bn_eqN (b := 6) (by omega) (by omega)).mp q)))
                exact rest (.inr x) _ _ _ c5 c6 (hw1.rF f95.rF) s95 (fun x hx => ⟨hz13, by omega⟩) (fun h hh => by rw [f95.1 22 (by decide)]; exact hB2 h hh) eL.symm
            · have eL : sLn p B (.inr x, z2) = .inl (2, p) := by
                unfold sLn
                show (if 6 ≤ B.1 then sAcc 3 p (if B.2 z2 = -1 then _ else _) else (if B.2 z2 = -1 then _ else _)) = _
                rw [if_neg hB3]
                split <;> rfl
              refine bc_aload_n dX10_book_67 rfl ?_
              refine bc_callV (z := mX10_fine) (ci := 10) dX10_book_68 lX10_147 qX10_fine (by rfl) (by rfl) (by rfl) (by rfl) (Nat.le_of_ble_eq_true rfl) (t_fineY rfl hs) (fun r68 μ68 e68 => ?_)
              obtain ⟨rfl, q68⟩ := e68
              obtain rfl := q68.symm
              refine bc_if_eq (tgt := 198) dX10_book_71 (by decide) (fun h71 => absurd h71 (by decide)) (fun h71 => ?_)
              refine bc_aload_n dX10_book_74 rfl ?_
              refine bc_callV (z := mX10_isMore) (ci := 10) dX10_book_75 lX10_244 qX10_isMore (by rfl) (by rfl) (by rfl) (by rfl) (Nat.le_of_ble_eq_true rfl) (t_isMore hs) (fun r75 μ75 e75 => ?_)
              obtain ⟨rfl, q75⟩ := e75
              obtain rfl := q75.symm
              rw [if_pos hpl, ← hν1]
              refine bc_if_eq (tgt := 198) dX10_book_78 (by decide) (fun h78 => absurd h78 (by decide)) (fun h78 => ?_)
              refine bc_aload_n dX10_book_81 rfl ?_
              refine bc_callV (z := mX10_here) (ci := 10) dX10_book_82 lX10_130 qX10_here (by rfl) (by rfl) (by rfl) (by rfl) (Nat.le_of_ble_eq_true rfl) (t_here hat) (fun r82 μ82 e82 => ?_)
              obtain ⟨rfl, q82⟩ := e82
              obtain rfl := q82.symm
              rw [u4]
              refine bc_pop dX10_book_85 rfl ?_
              refine bc_aload_n dX10_book_86 rfl ?_
              refine bc_geti dX10_book_87 fX10_124 (rfl) rfl ?_
              rw [q4]
              refine bc_istore_n dX10_book_90 (by decide) rfl ?_
              refine bc_aload_n dX10_book_91 rfl ?_
              refine bc_iconst (v := 1) dX10_book_92 (by decide) ?_
              refine bc_bipush (v := 12) dX10_book_93 (by decide) ?_
              refine bc_callV (z := mX10_readNumber) (ci := 10) dX10_book_95 lX10_232 qX10_readNumber (by rfl) (by rfl) (by rfl) (by rfl) (Nat.le_of_ble_eq_true rfl) (readH) (fun r95 μ95 e95 => ?_)
              obtain ⟨rfl, f95, s95⟩ := e95
              refine bc_istore dX10_book_98 (by decide) rfl ?_
              refine bc_aload_n dX10_book_100 rfl ?_
              refine bc_callV (z := mX10_fine) (ci := 10) dX10_book_101 lX10_147 qX10_fine (by rfl) (by rfl) (by rfl) (by rfl) (Nat.le_of_ble_eq_true rfl) (t_fineY rfl s95) (fun r101 μ101 e101 => ?_)
              obtain ⟨rfl, q101⟩ := e101
              obtain rfl := q101.symm
              refine bc_if_eq (tgt := 124) dX10_book_104 (by decide) (fun h104 => absurd h104 (by decide)) (fun h104 => ?_)
              refine bc_aload_n dX10_book_107 rfl ?_
              refine bc_getr dX10_book_108 fX10_80 (rfl) rfl ?_
              refine bc_iload dX10_book_111 rfl ?_
              refine bc_ialdE dX10_book_113 (rfl) (rfl) (⟨hz13, by decide⟩) ?_
              rw [f95.1 22 (by decide), hB2 z2 hz13]
              refine bc_iconst (v := (-1)) dX10_book_114 (by decide) ?_
              refine bc_icmp_eq (tgt := 124) dX10_book_115 (by decide) (fun h115 => absurd h115 (hB3)) (fun h115 => ?_)
              refine bc_aload_n dX10_book_118 rfl ?_
              refine bc_iconst (v := 2) dX10_book_119 (by decide) ?_
              refine bc_iload_n dX10_book_120 rfl ?_
              refine bc_callV (z := mX10_wrong) (ci := 10) dX10_book_121 lX10_154 qX10_wrong (by rfl) (by rfl) (by rfl) (by rfl) (Nat.le_of_ble_eq_true rfl) (t_wrongY (k := 2) s95 hpn) (fun r121 μ121 e121 => ?_)
              obtain ⟨rfl, f121, s121, -⟩ := e121
              refine bc_aload_n dX10_book_124 rfl ?_
              refine bc_callV (z := mX10_fine) (ci := 10) dX10_book_125 lX10_147 qX10_fine (by rfl) (by rfl) (by rfl) (by rfl) (Nat.le_of_ble_eq_true rfl) (t_fineN s121) (fun r125 μ125 e125 => ?_)
              obtain ⟨rfl, q125⟩ := e125
              obtain rfl := q125.symm
              refine bc_if_eq (tgt := 143) dX10_book_128 (by decide) (fun h128 => ?_) (fun h128 => absurd h128 (fun q => q rfl))
              exact rest (.inl (2, p)) _ _ _ c5 c6 ((hw1.rF f95.rF).rF f121.rF) s121 (fun x hx => by cases hx) (fun h hh => by rw [f121.1 22 (by decide), f95.1 22 (by decide)]; exact hB2 h hh) eL.symm
        · have hstep : pBk t n (k + 1) (.inr p, B) = (.inr p, B) := by rw [pBk, if_neg hpl]
          rw [hstep]
          refine bc_aload_n dX10_book_67 rfl ?_
          refine bc_callV (z := mX10_fine) (ci := 10) dX10_book_68 lX10_147 qX10_fine (by rfl) (by rfl) (by rfl) (by rfl) (Nat.le_of_ble_eq_true rfl) (t_fineY rfl hs) (fun r68 μ68 e68 => ?_)
          obtain ⟨rfl, q68⟩ := e68
          obtain rfl := q68.symm
          refine bc_if_eq (tgt := 198) dX10_book_71 (by decide) (fun h71 => absurd h71 (by decide)) (fun h71 => ?_)
          refine bc_aload_n dX10_book_74 rfl ?_
          refine bc_callV (z := mX10_isMore) (ci := 10) dX10_book_75 lX10_244 qX10_isMore (by rfl) (by rfl) (by rfl) (by rfl) (Nat.le_of_ble_eq_true rfl) (t_isMore hs) (fun r75 μ75 e75 => ?_)
          obtain ⟨rfl, q75⟩ := e75
          obtain rfl := q75.symm
          rw [if_neg hpl, ← hν1]
          refine bc_if_eq (tgt := 198) dX10_book_78 (by decide) (fun h78 => ?_) (fun h78 => absurd h78 (fun q => q rfl))
          exact exitY p B ν1 _ _ _ _ c3 c4 c5 c6 hw1 hat hB2
  have init : ∀ (k c : Nat) (ν : bc_M), c + k = 13 → wF m ν → rS t n (.inr (skp t n 0)) ν → (∀ h, h < c → ν 22 h = -1) → bc_W (d + 7) LM mX10_book 46 [.ref 0, .int (nI n), .int (nI c), .null, .null, .null, .null] [] ν (bkQ m (pBk t n 7 (.inr (skp t n 0), bk0))) := by
    intro k
    induction k with
    | zero =>
      intro c ν hc hw hs hB
      have hc : c = 13 := by omega
      subst hc
      refine bc_iload_n dX10_book_46 rfl ?_
      refine bc_bipush (v := 12) dX10_book_47 (by decide) ?_
      refine bc_icmp_gt (tgt := 65) dX10_book_49 (by decide) (fun h49 => ?_) (fun h49 => absurd h49 (fun q => q (by decide)))
      refine bc_iconst (v := 0) dX10_book_65 (by decide) ?_
      refine bc_istore_n dX10_book_66 (by decide) rfl ?_
      exact loop 7 _ bk0 ν _ _ _ _ rfl rfl rfl rfl rfl (.inl (Nat.zero_le _)) hw hs (fun p hp h hh => hB h hh)
    | succ k ih =>
      intro c ν hc hw hs hB
      refine bc_iload_n dX10_book_46 rfl ?_
      refine bc_bipush (v := 12) dX10_book_47 (by decide) ?_
      refine bc_icmp_gt (tgt := 65) dX10_book_49 (by decide) (fun h49 => absurd h49 (by rw [show (12 : Int32) = nI 12 from rfl, bn_ltN (by omega) (by omega)]; omega)) (fun h49 => ?_)
      refine bc_aload_n dX10_book_52 rfl ?_
      refine bc_getr dX10_book_53 fX10_80 (rfl) rfl ?_
      refine bc_iload_n dX10_book_56 rfl ?_
      refine bc_iconst (v := (-1)) dX10_book_57 (by decide) ?_
      refine bc_iastE dX10_book_58 (rfl) (rfl) (⟨by omega, by decide⟩) ?_
      refine bc_iinc1 dX10_book_59 rfl (by decide) rfl ?_
      refine bc_goto (tgt := 46) dX10_book_62 (by decide) ?_
      rw [bn_add1]
      refine ih (c + 1) _ (by omega) (hw.rF (rF.ui (by omega))) (hs.ua (by decide) (by decide)) (fun h hh => ?_)
      rw [bc_u_r]
      by_cases e : h = c
      · rw [if_pos ⟨rfl, e⟩]
      · rw [if_neg (fun q => e q.2)]
        exact hB h (by omega)
  refine bc_aload_n dX10_book_0 rfl ?_
  refine bc_iconst (v := 0) dX10_book_1 (by decide) ?_
  refine bc_put dX10_book_2 fX10_3 ftX10 fpX10_0 rfl rfl (rfl) rfl ?_
  refine bc_aload_n dX10_book_5 rfl ?_
  refine bc_iload_n dX10_book_6 rfl ?_
  refine bc_if_lt (tgt := 28) dX10_book_7 (by decide) (fun h7 => absurd h7 (bn_nn (by omega))) (fun h7 => ?_)
  refine bc_iload_n dX10_book_10 rfl ?_
  refine bc_aload_n dX10_book_11 rfl ?_
  refine bc_geti dX10_book_12 fX10_115 (rfl) rfl ?_
  rw [show bc_u m 0 0 0 0 2 = nI tp from ht]
  refine bc_icmp_gt (tgt := 28) dX10_book_15 (by decide) (fun h15 => absurd h15 (by rw [bn_ltN (by omega) (by omega)]; omega)) (fun h15 => ?_)
  refine bc_iload_n dX10_book_18 rfl ?_
  refine bc_bipush (v := 60) dX10_book_19 (by decide) ?_
  refine bc_icmp_gt (tgt := 28) dX10_book_21 (by decide) (fun h21 => absurd h21 (by rw [show (60 : Int32) = nI 60 from rfl, bn_ltN (by omega) (by omega)]; omega)) (fun h21 => ?_)
  refine bc_iconst (v := 1) dX10_book_24 (by decide) ?_
  refine bc_goto (tgt := 29) dX10_book_25 (by decide) ?_
  refine bc_iconst (v := 1) dX10_book_29 (by decide) ?_
  refine bc_iconst (v := 1) dX10_book_30 (by decide) ?_
  refine bc_callV (z := mX10_may) (ci := 10) dX10_book_31 lX10_236 qX10_may (by rfl) (by rfl) (by rfl) (by rfl) (Nat.le_of_ble_eq_true rfl) (t_mayY (k := 1) True trivial _ (by decide) rfl (by decide)) (fun r31 μ31 e31 => ?_)
  obtain ⟨rfl, q31⟩ := e31
  obtain rfl := q31.symm
  refine bc_if_ne (tgt := 39) dX10_book_34 (by decide) (fun h34 => ?_) (fun h34 => absurd h34 (by decide))
  refine bc_aload_n dX10_book_39 rfl ?_
  refine bc_iload_n dX10_book_40 rfl ?_
  refine bc_callV (z := mX10_begins) (ci := 10) dX10_book_41 lX10_240 qX10_begins (by rfl) (by rfl) (by rfl) (by rfl) (Nat.le_of_ble_eq_true rfl) (t_begins (t := t) (n := n) (by omega) (fun j hj => hb j (by omega))) (fun r41 μ41 e41 => ?_)
  obtain ⟨rfl, g1, g2, g3, g4, g5, g6⟩ := e41
  refine bc_iconst (v := 0) dX10_book_44 (by decide) ?_
  refine bc_istore_n dX10_book_45 (by decide) rfl ?_
  exact init 13 0 _ rfl (wF.begin g1 g2 g3) g6 (fun h hh => absurd hh (Nat.not_lt_zero _))
end T78
