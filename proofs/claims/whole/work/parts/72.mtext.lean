/-! the reference: how it reads a text -/
theorem b8_eq {t u : Int32} (h : b8R t u) {c : Nat} (hc : c < 128) : t = nI c ↔ u = nI c := by
  obtain ⟨k, hk, rfl, ⟨h1, rfl⟩ | ⟨h1, h2⟩⟩ := h
  · exact Iff.rfl
  · rw [bn_eq, h2, bn_ti (by omega), bn_eqN (by omega) (by omega)]; omega
theorem b8_rg {t u : Int32} (h : b8R t u) {a b : Nat} (ha : 1 ≤ a) (hb : b < 128) (hab : a ≤ b) : ((nI a ≤ t ∧ t ≤ nI b) ↔ (nI a ≤ u ∧ u ≤ nI b)) ∧ ((nI a ≤ t ∧ t ≤ nI b) → u = t) := by
  obtain ⟨k, hk, rfl, ⟨h1, rfl⟩ | ⟨h1, h2⟩⟩ := h
  · exact ⟨Iff.rfl, fun _ => rfl⟩
  · rw [bn_le, bn_le, bn_leN (by omega) (by omega), bn_leN (by omega) (by omega), h2, bn_ti (by omega), bn_ti (by omega)]
    exact ⟨by omega, fun q => by omega⟩
theorem isDg_iff {t : Int32} : isDg t = true ↔ nI 48 ≤ t ∧ t ≤ nI 57 := by
  unfold isDg
  rw [Bool.and_eq_true, decide_eq_true_iff, decide_eq_true_iff]
  exact Iff.rfl
theorem isLt_iff {t : Int32} : isLt t = true ↔ nI 97 ≤ t ∧ t ≤ nI 122 := by
  unfold isLt
  rw [Bool.and_eq_true, decide_eq_true_iff, decide_eq_true_iff]
  exact Iff.rfl
theorem isBl_iff {t : Int32} : isBl t = true ↔ t = nI 32 := by
  unfold isBl
  rw [decide_eq_true_iff]
  exact Iff.rfl
/-- the tape up to n -/
def tpR (t : Nat → Int32) (n : Nat) (μ : bc_M) : Prop := μ 0 3 = nI n ∧ n ≤ 600 ∧ ∀ j, j < n → b8R (t j) (μ 2 j)
/-- the reference reads, and has come as far as S says -/
def rS (t : Nat → Int32) (n : Nat) (S : TS) (μ : bc_M) : Prop := tpR t n μ ∧ ∃ a, a ≤ n ∧ μ 0 4 = nI a ∧ (match S with | .inr p => μ 0 5 = -1 ∧ skp t n a = p | .inl z => μ 0 5 = nI z.2 ∧ μ 0 6 = nI z.1 ∧ z.2 ≤ n)
/-- nothing but where it stands has changed -/
def f456 (μ ν : bc_M) : Prop := (∀ i, i ≠ 0 → ν i = μ i) ∧ ∀ j, j ≠ 4 → j ≠ 5 → j ≠ 6 → ν 0 j = μ 0 j
section T72
variable {d : Nat} {m μ ν M : bc_M} {n p a : Nat} {t : Nat → Int32}
theorem f456.rf : f456 μ μ := ⟨fun _ _ => rfl, fun _ _ _ _ => rfl⟩
theorem f456.tr {ξ : bc_M} (h : f456 μ ν) (h2 : f456 ν ξ) : f456 μ ξ := ⟨fun i hi => (h2.1 i hi).trans (h.1 i hi), fun j a b c => (h2.2 j a b c).trans (h.2 j a b c)⟩
theorem f456.u {j : Nat} {v : Int32} (hj : j = 4 ∨ j = 5 ∨ j = 6) : f456 μ (bc_u μ 0 j v) := ⟨fun i hi => bc_u_ne _ _ _ hi, fun k a b c => by rw [bc_u_r, if_neg (by omega)]⟩
theorem tpR.mv (h : tpR t n μ) (hf : f456 μ ν) : tpR t n ν := ⟨(hf.2 3 (by omega) (by omega) (by omega)).trans h.1, h.2.1, fun j hj => by rw [hf.1 2 (by decide)]; exact h.2.2 j hj⟩
theorem skp_skp (t : Nat → Int32) (n a : Nat) (ha : a ≤ n) : skp t n (skp t n a) = skp t n a := by
  by_cases h : skp t n a < n
  · exact rn_stop (rn_at ha h)
  · exact rn_end (by omega)
theorem rS.le (h : rS t n (.inr p) μ) : p ≤ n := by
  obtain ⟨-, a, ha, -, -, rfl⟩ := h
  exact rn_le ha
theorem rS.sk (h : rS t n (.inr p) μ) : skp t n p = p := by
  obtain ⟨-, a, ha, -, -, rfl⟩ := h
  exact skp_skp t n a ha
/-- it stands right at p -/
theorem rS.at' (h : rS t n (.inr p) μ) : rS t n (.inr p) (bc_u μ 0 4 (nI p)) := by
  refine ⟨h.1.mv (f456.u (by omega)), p, h.le, by rw [bc_u_r, if_pos ⟨rfl, rfl⟩], ?_, h.sk⟩
  obtain ⟨-, a, -, -, hb, -⟩ := h
  rw [bc_u_r, if_neg (by omega)]; exact hb
theorem t_fineY {L : bc_L} (hL : L = LM) (h : rS t n (.inr p) μ) : bc_C d L mX10_fine [.ref 0] μ (fun r ν => r = some (.int 1) ∧ ν = μ) := by
  subst hL
  refine bc_enter (by decide) (Nat.le_of_ble_eq_true rfl) rfl ?_
  obtain ⟨-, a, -, -, hb, -⟩ := h
  refine bc_aload_n dX10_fine_0 rfl ?_
  refine bc_geti dX10_fine_1 fX10_118 (rfl) rfl ?_
  refine bc_iconst (v := (-1)) dX10_fine_4 (by decide) ?_
  refine bc_icmp_ne (tgt := 12) dX10_fine_5 (by decide) (fun h5 => absurd h5 (fun q => q hb)) (fun h5 => ?_)
  refine bc_iconst (v := 1) dX10_fine_8 (by decide) ?_
  refine bc_goto (tgt := 13) dX10_fine_9 (by decide) ?_
  exact bc_ireturn dX10_fine_13 rfl rfl (⟨rfl, rfl⟩)
theorem t_fineN {z : Nat × Nat} (h : rS t n (.inl z) μ) : bc_C d LM mX10_fine [.ref 0] μ (fun r ν => r = some (.int 0) ∧ ν = μ) := by
  refine bc_enter (by decide) (Nat.le_of_ble_eq_true rfl) rfl ?_
  obtain ⟨⟨-, h6, -⟩, a, -, -, hb, -, hq⟩ := h
  refine bc_aload_n dX10_fine_0 rfl ?_
  refine bc_geti dX10_fine_1 fX10_118 (rfl) rfl ?_
  refine bc_iconst (v := (-1)) dX10_fine_4 (by decide) ?_
  refine bc_icmp_ne (tgt := 12) dX10_fine_5 (by decide) (fun h5 => ?_) (fun h5 => absurd h5 (by rw [hb]; exact nI_m1 (by omega)))
  refine bc_iconst (v := 0) dX10_fine_12 (by decide) ?_
  exact bc_ireturn dX10_fine_13 rfl rfl (⟨rfl, rfl⟩)
theorem t_wrongY {k q : Nat} (h : rS t n (.inr p) μ) (hq : q ≤ n) : bc_C d LM mX10_wrong [.ref 0, .int (nI k), .int (nI q)] μ (fun r ν => r = none ∧ f456 μ ν ∧ rS t n (.inl (k, q)) ν ∧ ν 0 4 = μ 0 4) := by
  refine bc_enter (by decide) (Nat.le_of_ble_eq_true rfl) rfl ?_
  obtain ⟨ht, a, ha, h4, hb, -⟩ := h
  refine bc_aload_n dX10_wrong_0 rfl ?_
  refine bc_geti dX10_wrong_1 fX10_118 (rfl) rfl ?_
  refine bc_iconst (v := (-1)) dX10_wrong_4 (by decide) ?_
  refine bc_icmp_eq (tgt := 9) dX10_wrong_5 (by decide) (fun h5 => ?_) (fun h5 => absurd h5 (fun q => q hb))
  refine bc_aload_n dX10_wrong_9 rfl ?_
  refine bc_iload_n dX10_wrong_10 rfl ?_
  refine bc_put dX10_wrong_11 fX10_118 ftX10 fpX10_5 rfl rfl (rfl) rfl ?_
  refine bc_aload_n dX10_wrong_14 rfl ?_
  refine bc_iload_n dX10_wrong_15 rfl ?_
  refine bc_put dX10_wrong_16 fX10_121 ftX10 fpX10_6 rfl rfl (rfl) rfl ?_
  exact bc_return dX10_wrong_19 rfl (⟨rfl, (f456.u (by omega)).tr (f456.u (by omega)), ⟨ht.mv ((f456.u (by omega)).tr (f456.u (by omega))), a, ha, by rw [bc_u_r, if_neg (by omega), bc_u_r, if_neg (by omega)]; exact h4, by rw [bc_u_r, if_neg (by omega), bc_u_r, if_pos ⟨rfl, rfl⟩], by rw [bc_u_r, if_pos ⟨rfl, rfl⟩], hq⟩, by rw [bc_u_r, if_neg (by omega), bc_u_r, if_neg (by omega)]⟩)
theorem t_wrongN {k q : Int32} {z : Nat × Nat} (h : rS t n (.inl z) μ) : bc_C d LM mX10_wrong [.ref 0, .int k, .int q] μ (fun r ν => r = none ∧ ν = μ) := by
  refine bc_enter (by decide) (Nat.le_of_ble_eq_true rfl) rfl ?_
  obtain ⟨⟨-, h6, -⟩, a, -, -, hb, -, hq⟩ := h
  refine bc_aload_n dX10_wrong_0 rfl ?_
  refine bc_geti dX10_wrong_1 fX10_118 (rfl) rfl ?_
  refine bc_iconst (v := (-1)) dX10_wrong_4 (by decide) ?_
  refine bc_icmp_eq (tgt := 9) dX10_wrong_5 (by decide) (fun h5 => absurd h5 (by rw [hb]; exact nI_m1 (by omega))) (fun h5 => ?_)
  exact bc_return dX10_wrong_8 rfl (⟨rfl, rfl⟩)
def hx (u : Nat → Int32) (n p : Nat) : Int32 := if p < n then u p else 0
theorem hx_eq {u : Nat → Int32} (hb : ∀ j, j < n → b8R (t j) (u j)) {c : Nat} (h1 : 1 ≤ c) (hc : c < 128) : hx u n p = nI c ↔ p < n ∧ t p = nI c := by
  unfold hx
  by_cases h : p < n
  · rw [if_pos h, b8_eq (hb p h) hc]
    exact ⟨fun q => ⟨h, q⟩, fun q => q.2⟩
  · rw [if_neg h]
    exact ⟨fun q => by rw [show (0 : Int32) = nI 0 from rfl, bn_eqN (by omega) (by omega)] at q; omega, fun q => absurd q.1 h⟩
theorem t_here (h : rS t n (.inr p) μ) : bc_C d LM mX10_here [.ref 0] μ (fun r ν => r = some (.int (hx (μ 2) n p)) ∧ ν = bc_u μ 0 4 (nI p)) := by
  refine bc_enter (by decide) (Nat.le_of_ble_eq_true rfl) rfl ?_
  obtain ⟨⟨h3, h6, hb8⟩, a, ha, h4, hb, hsk⟩ := h
  have loop : ∀ (c a : Nat), a + c = p → (∀ i, a ≤ i → i < p → isBl (t i) = true) → p ≤ n → (p < n → ¬ isBl (t p) = true) → bc_W d LM mX10_here 0 [.ref 0] [] (bc_u μ 0 4 (nI a)) (fun r ν => r = some (.int (hx (μ 2) n p)) ∧ ν = bc_u μ 0 4 (nI p)) := by
    intro c
    induction c with
    | zero =>
      intro a hap hbl hpn hst
      have hap : a = p := by omega
      subst hap
      have q3 : bc_u μ 0 4 (nI a) 0 3 = nI n := h3
      have q4 : bc_u μ 0 4 (nI a) 0 4 = nI a := by rw [bc_u_r, if_pos ⟨rfl, rfl⟩]
      by_cases hlt : a < n
      · have h32 : ¬ μ 2 a = nI 32 := fun q => hst hlt (isBl_iff.mpr ((b8_eq (hb8 a hlt) (by omega)).mpr q))
        refine bc_aload_n dX10_here_0 rfl ?_
        refine bc_geti dX10_here_1 fX10_124 (rfl) rfl ?_
        rw [q4]
        refine bc_aload_n dX10_here_4 rfl ?_
        refine bc_geti dX10_here_5 fX10_127 (rfl) rfl ?_
        rw [q3]
        refine bc_icmp_ge (tgt := 38) dX10_here_8 (by decide) (fun h8 => absurd h8 (bx_in rfl (by omega) (by omega))) (fun h8 => ?_)
        refine bc_aload_n dX10_here_11 rfl ?_
        refine bc_getr dX10_here_12 fX10_20 (rfl) rfl ?_
        refine bc_aload_n dX10_here_15 rfl ?_
        refine bc_geti dX10_here_16 fX10_124 (rfl) rfl ?_
        rw [q4]
        refine bc_ialdE dX10_here_19 (rfl) (rfl) (⟨by omega, by decide⟩) ?_
        refine bc_bipush (v := 32) dX10_here_20 (by decide) ?_
        refine bc_icmp_ne (tgt := 38) dX10_here_22 (by decide) (fun h22 => ?_) (fun h22 => absurd h22 (h32))
        refine bc_aload_n dX10_here_38 rfl ?_
        refine bc_geti dX10_here_39 fX10_124 (rfl) rfl ?_
        rw [q4]
        refine bc_aload_n dX10_here_42 rfl ?_
        refine bc_geti dX10_here_43 fX10_127 (rfl) rfl ?_
        rw [q3]
        refine bc_icmp_ge (tgt := 61) dX10_here_46 (by decide) (fun h46 => absurd h46 (bx_in rfl (by omega) (by omega))) (fun h46 => ?_)
        refine bc_aload_n dX10_here_49 rfl ?_
        refine bc_getr dX10_here_50 fX10_20 (rfl) rfl ?_
        refine bc_aload_n dX10_here_53 rfl ?_
        refine bc_geti dX10_here_54 fX10_124 (rfl) rfl ?_
        rw [q4]
        refine bc_ialdE dX10_here_57 (rfl) (rfl) (⟨by omega, by decide⟩) ?_
        refine bc_goto (tgt := 62) dX10_here_58 (by decide) ?_
        exact bc_ireturn dX10_here_62 rfl rfl (⟨by rw [hx, if_pos hlt]; rfl, rfl⟩)
      · skip
        refine bc_aload_n dX10_here_0 rfl ?_
        refine bc_geti dX10_here_1 fX10_124 (rfl) rfl ?_
        rw [q4]
        refine bc_aload_n dX10_here_4 rfl ?_
        refine bc_geti dX10_here_5 fX10_127 (rfl) rfl ?_
        rw [q3]
        refine bc_icmp_ge (tgt := 38) dX10_here_8 (by decide) (fun h8 => ?_) (fun h8 => absurd h8 (fun q => q (bx_out rfl (by omega) (by omega))))
        refine bc_aload_n dX10_here_38 rfl ?_
        refine bc_geti dX10_here_39 fX10_124 (rfl) rfl ?_
        rw [q4]
        refine bc_aload_n dX10_here_42 rfl ?_
        refine bc_geti dX10_here_43 fX10_127 (rfl) rfl ?_
        rw [q3]
        refine bc_icmp_ge (tgt := 61) dX10_here_46 (by decide) (fun h46 => ?_) (fun h46 => absurd h46 (fun q => q (bx_out rfl (by omega) (by omega))))
        refine bc_iconst (v := 0) dX10_here_61 (by decide) ?_
        exact bc_ireturn dX10_here_62 rfl rfl (⟨by rw [hx, if_neg hlt], rfl⟩)
    | succ c ih =>
      intro a hap hbl hpn hst
      have q3 : bc_u μ 0 4 (nI a) 0 3 = nI n := h3
      have q4 : bc_u μ 0 4 (nI a) 0 4 = nI a := by rw [bc_u_r, if_pos ⟨rfl, rfl⟩]
      have h32 : μ 2 a = nI 32 := (b8_eq (hb8 a (by omega)) (by omega)).mp (isBl_iff.mp (hbl a (Nat.le_refl _) (by omega)))
      have h2 := ih (a + 1) (by omega) (fun i h1 h2 => hbl i (by omega) h2) hpn hst
      refine bc_aload_n dX10_here_0 rfl ?_
      refine bc_geti dX10_here_1 fX10_124 (rfl) rfl ?_
      rw [q4]
      refine bc_aload_n dX10_here_4 rfl ?_
      refine bc_geti dX10_here_5 fX10_127 (rfl) rfl ?_
      rw [q3]
      refine bc_icmp_ge (tgt := 38) dX10_here_8 (by decide) (fun h8 => absurd h8 (bx_in rfl (by omega) (by omega))) (fun h8 => ?_)
      refine bc_aload_n dX10_here_11 rfl ?_
      refine bc_getr dX10_here_12 fX10_20 (rfl) rfl ?_
      refine bc_aload_n dX10_here_15 rfl ?_
      refine bc_geti dX10_here_16 fX10_124 (rfl) rfl ?_
      rw [q4]
      refine bc_ialdE dX10_here_19 (rfl) (rfl) (⟨by omega, by decide⟩) ?_
      refine bc_bipush (v := 32) dX10_here_20 (by decide) ?_
      refine bc_icmp_ne (tgt := 38) dX10_here_22 (by decide) (fun h22 => absurd h22 (fun q => q h32)) (fun h22 => ?_)
      refine bc_aload_n dX10_here_25 rfl ?_
      refine bc_dup dX10_here_26 rfl ?_
      refine bc_geti dX10_here_27 fX10_124 (rfl) rfl ?_
      rw [q4]
      refine bc_iconst (v := 1) dX10_here_30 (by decide) ?_
      refine bc_iadd dX10_here_31 ?_
      rw [bn_add1]
      refine bc_put dX10_here_32 fX10_124 ftX10 fpX10_4 rfl rfl (rfl) rfl ?_
      refine bc_goto (tgt := 0) dX10_here_35 (by decide) ?_
      have e : bc_u (bc_u μ 0 4 (nI a)) 0 4 (nI (a + 1)) = bc_u μ 0 4 (nI (a + 1)) := by
        funext i j
        rw [bc_u_r, bc_u_r, bc_u_r]
        split <;> rfl
      rw [e]
      exact h2
  have e0 : bc_u μ 0 4 (nI a) = μ := by
    funext i j
    rw [bc_u_r]
    by_cases q : i = 0 ∧ j = 4
    · rw [if_pos q, q.1, q.2, h4]
    · rw [if_neg q]
  have hap : a ≤ p := by rw [← hsk]; exact rn_ge _ _ _ _
  have h2 := loop (p - a) a (by omega) (fun i h1 h2 => by rw [← hsk] at h2; exact rn_all h1 h2) (by rw [← hsk]; exact rn_le ha) (fun q => by rw [← hsk] at q ⊢; exact rn_at ha q)
  rw [e0] at h2
  exact h2
theorem t_isSmall {L : bc_L} (c : Int32) : bc_C d L mX10_isSmall [.int c] μ (fun r ν => r = some (.int (if nI 97 ≤ c ∧ c ≤ nI 122 then 1 else 0)) ∧ ν = μ) := by
  refine bc_enter (by decide) (Nat.le_of_ble_eq_true rfl) rfl ?_
  refine bc_iload_n dX10_isSmall_0 rfl ?_
  refine bc_bipush (v := 97) dX10_isSmall_1 (by decide) ?_
  refine bc_icmp_lt (tgt := 16) dX10_isSmall_3 (by decide) (fun h3 => ?_) (fun h3 => ?_)
  · refine bc_iconst (v := 0) dX10_isSmall_16 (by decide) ?_
    exact bc_ireturn dX10_isSmall_17 rfl rfl (⟨by rw [if_neg (fun q => absurd q.1 (Int32.not_le.mpr h3))], rfl⟩)
  · refine bc_iload_n dX10_isSmall_6 rfl ?_
    refine bc_bipush (v := 122) dX10_isSmall_7 (by decide) ?_
    refine bc_icmp_gt (tgt := 16) dX10_isSmall_9 (by decide) (fun h9 => ?_) (fun h9 => ?_)
    · refine bc_iconst (v := 0) dX10_isSmall_16 (by decide) ?_
      exact bc_ireturn dX10_isSmall_17 rfl rfl (⟨by rw [if_neg (fun q => absurd q.2 (Int32.not_le.mpr h9))], rfl⟩)
    · refine bc_iconst (v := 1) dX10_isSmall_12 (by decide) ?_
      refine bc_goto (tgt := 17) dX10_isSmall_13 (by decide) ?_
      exact bc_ireturn dX10_isSmall_17 rfl rfl (⟨by rw [if_pos ⟨Int32.not_lt.mp h3, Int32.not_lt.mp h9⟩], rfl⟩)
theorem t_isDigit {L : bc_L} (c : Int32) : bc_C d L mX10_isDigit [.int c] μ (fun r ν => r = some (.int (if nI 48 ≤ c ∧ c ≤ nI 57 then 1 else 0)) ∧ ν = μ) := by
  refine bc_enter (by decide) (Nat.le_of_ble_eq_true rfl) rfl ?_
  refine bc_iload_n dX10_isDigit_0 rfl ?_
  refine bc_bipush (v := 48) dX10_isDigit_1 (by decide) ?_
  refine bc_icmp_lt (tgt := 16) dX10_isDigit_3 (by decide) (fun h3 => ?_) (fun h3 => ?_)
  · refine bc_iconst (v := 0) dX10_isDigit_16 (by decide) ?_
    exact bc_ireturn dX10_isDigit_17 rfl rfl (⟨by rw [if_neg (fun q => absurd q.1 (Int32.not_le.mpr h3))], rfl⟩)
  · refine bc_iload_n dX10_isDigit_6 rfl ?_
    refine bc_bipush (v := 57) dX10_isDigit_7 (by decide) ?_
    refine bc_icmp_gt (tgt := 16) dX10_isDigit_9 (by decide) (fun h9 => ?_) (fun h9 => ?_)
    · refine bc_iconst (v := 0) dX10_isDigit_16 (by decide) ?_
      exact bc_ireturn dX10_isDigit_17 rfl rfl (⟨by rw [if_neg (fun q => absurd q.2 (Int32.not_le.mpr h9))], rfl⟩)
    · refine bc_iconst (v := 1) dX10_isDigit_12 (by decide) ?_
      refine bc_goto (tgt := 17) dX10_isDigit_13 (by decide) ?_
      exact bc_ireturn dX10_isDigit_17 rfl rfl (⟨by rw [if_pos ⟨Int32.not_lt.mp h3, Int32.not_lt.mp h9⟩], rfl⟩)
theorem b8_lt {t0 u0 : Int32} (h : b8R t0 u0) : (nI 97 ≤ u0 ∧ u0 ≤ nI 122) ↔ isLt t0 = true := by rw [isLt_iff]; exact (b8_rg h (by omega) (by omega) (by omega)).1.symm
theorem b8_dg {t0 u0 : Int32} (h : b8R t0 u0) : (nI 48 ≤ u0 ∧ u0 ≤ nI 57) ↔ isDg t0 = true := by rw [isDg_iff]; exact (b8_rg h (by omega) (by omega) (by omega)).1.symm
theorem u_uu {i j : Nat} {x y : Int32} : bc_u (bc_u μ i j x) i j y = bc_u μ i j y := by
  funext a b
  rw [bc_u_r, bc_u_r, bc_u_r]
  split <;> rfl
theorem u_self {i j : Nat} {x : Int32} (h : μ i j = x) : bc_u μ i j x = μ := by
  funext a b
  rw [bc_u_r]
  by_cases q : a = i ∧ b = j
  · rw [if_pos q, q.1, q.2, h]
  · rw [if_neg q]
theorem t_pass' (h3 : tpR t n μ) (hp : p ≤ n) (h4 : μ 0 4 = nI p) : bc_C (d + 1) LM mX10_pass [.ref 0] μ (fun r ν => r = none ∧ ν = bc_u μ 0 4 (nI (ltE t n p))) := by
  refine bc_enter (by decide) (Nat.le_of_ble_eq_true rfl) rfl ?_
  obtain ⟨h3, h6, hb8⟩ := h3
  obtain ⟨E, hE⟩ : ∃ E, E = ltE t n p := ⟨_, rfl⟩
  have hEn : E ≤ n := by rw [hE]; exact rn_le hp
  have hpE : p ≤ E := by rw [hE]; exact rn_ge _ _ _ _
  have hall : ∀ i, p ≤ i → i < E → isLt (t i) = true := fun i h1 h2 => by rw [hE] at h2; exact rn_all h1 h2
  have hend : E < n → ¬ isLt (t E) = true := fun q => by rw [hE] at q ⊢; exact rn_at hp q
  rw [← hE]
  have loop : ∀ (c a : Nat), a + c = E → p ≤ a → bc_W (d + 1) LM mX10_pass 0 [.ref 0] [] (bc_u μ 0 4 (nI a)) (fun r ν => r = none ∧ ν = bc_u μ 0 4 (nI E)) := by
    intro c
    induction c with
    | zero =>
      intro a hap ha
      have hap : a = E := by omega
      subst hap
      have q3 : bc_u μ 0 4 (nI a) 0 3 = nI n := h3
      have q4 : bc_u μ 0 4 (nI a) 0 4 = nI a := by rw [bc_u_r, if_pos ⟨rfl, rfl⟩]
      by_cases hlt : a < n
      · have h32 : ¬ (nI 97 ≤ μ 2 a ∧ μ 2 a ≤ nI 122) := fun q => hend hlt ((b8_lt (hb8 a hlt)).mp q)
        refine bc_aload_n dX10_pass_0 rfl ?_
        refine bc_geti dX10_pass_1 fX10_124 (rfl) rfl ?_
        rw [q4]
        refine bc_aload_n dX10_pass_4 rfl ?_
        refine bc_geti dX10_pass_5 fX10_127 (rfl) rfl ?_
        rw [q3]
        refine bc_icmp_ge (tgt := 39) dX10_pass_8 (by decide) (fun h8 => absurd h8 (bx_in rfl (by omega) (by omega))) (fun h8 => ?_)
        refine bc_aload_n dX10_pass_11 rfl ?_
        refine bc_getr dX10_pass_12 fX10_20 (rfl) rfl ?_
        refine bc_aload_n dX10_pass_15 rfl ?_
        refine bc_geti dX10_pass_16 fX10_124 (rfl) rfl ?_
        rw [q4]
        refine bc_ialdE dX10_pass_19 (rfl) (rfl) (⟨by omega, by decide⟩) ?_
        refine bc_callS (z := mX10_isSmall) dX10_pass_20 lX10_134 qX10_isSmall (by rfl) (by rfl) (Nat.le_of_ble_eq_true rfl) (t_isSmall _) (fun r20 μ20 e20 => ?_)
        obtain ⟨rfl, q20⟩ := e20
        obtain rfl := q20.symm
        refine bc_if_eq (tgt := 39) dX10_pass_23 (by decide) (fun h23 => ?_) (fun h23 => absurd h23 (fun q => q (ite0.mpr h32)))
        exact bc_return dX10_pass_39 rfl (⟨rfl, rfl⟩)
      · skip
        refine bc_aload_n dX10_pass_0 rfl ?_
        refine bc_geti dX10_pass_1 fX10_124 (rfl) rfl ?_
        rw [q4]
        refine bc_aload_n dX10_pass_4 rfl ?_
        refine bc_geti dX10_pass_5 fX10_127 (rfl) rfl ?_
        rw [q3]
        refine bc_icmp_ge (tgt := 39) dX10_pass_8 (by decide) (fun h8 => ?_) (fun h8 => absurd h8 (fun q => q (bx_out rfl (by omega) (by omega))))
        exact bc_return dX10_pass_39 rfl (⟨rfl, rfl⟩)
    | succ c ih =>
      intro a hap ha
      have q3 : bc_u μ 0 4 (nI a) 0 3 = nI n := h3
      have q4 : bc_u μ 0 4 (nI a) 0 4 = nI a := by rw [bc_u_r, if_pos ⟨rfl, rfl⟩]
      have h32 : nI 97 ≤ μ 2 a ∧ μ 2 a ≤ nI 122 := (b8_lt (hb8 a (by omega))).mpr (hall a ha (by omega))
      have h2 := ih (a + 1) (by omega) (by omega)
      refine bc_aload_n dX10_pass_0 rfl ?_
      refine bc_geti dX10_pass_1 fX10_124 (rfl) rfl ?_
      rw [q4]
      refine bc_aload_n dX10_pass_4 rfl ?_
      refine bc_geti dX10_pass_5 fX10_127 (rfl) rfl ?_
      rw [q3]
      refine bc_icmp_ge (tgt := 39) dX10_pass_8 (by decide) (fun h8 => absurd h8 (bx_in rfl (by omega) (by omega))) (fun h8 => ?_)
      refine bc_aload_n dX10_pass_11 rfl ?_
      refine bc_getr dX10_pass_12 fX10_20 (rfl) rfl ?_
      refine bc_aload_n dX10_pass_15 rfl ?_
      refine bc_geti dX10_pass_16 fX10_124 (rfl) rfl ?_
      rw [q4]
      refine bc_ialdE dX10_pass_19 (rfl) (rfl) (⟨by omega, by decide⟩) ?_
      refine bc_callS (z := mX10_isSmall) dX10_pass_20 lX10_134 qX10_isSmall (by rfl) (by rfl) (Nat.le_of_ble_eq_true rfl) (t_isSmall _) (fun r20 μ20 e20 => ?_)
      obtain ⟨rfl, q20⟩ := e20
      obtain rfl := q20.symm
      refine bc_if_eq (tgt := 39) dX10_pass_23 (by decide) (fun h23 => absurd h23 (fun q => ite0.mp q h32)) (fun h23 => ?_)
      refine bc_aload_n dX10_pass_26 rfl ?_
      refine bc_dup dX10_pass_27 rfl ?_
      refine bc_geti dX10_pass_28 fX10_124 (rfl) rfl ?_
      rw [q4]
      refine bc_iconst (v := 1) dX10_pass_31 (by decide) ?_
      refine bc_iadd dX10_pass_32 ?_
      rw [bn_add1]
      refine bc_put dX10_pass_33 fX10_124 ftX10 fpX10_4 rfl rfl (rfl) rfl ?_
      refine bc_goto (tgt := 0) dX10_pass_36 (by decide) ?_
      rw [u_uu]
      exact h2
  have h2 := loop (E - p) p (by omega) (Nat.le_refl _)
  rw [u_self h4] at h2
  exact h2
/-! numbers -/
theorem t_readNumber {S : TS} {lo hi : Nat} {hv : Int32} (h : rS t n S μ) (hlo : lo ≤ 1000) (hhi : hi ≤ 1000) (ev : hv.toInt = (hi : Int) - 1) : bc_C (d + 1) LM mX10_readNumber [.ref 0, .int (nI lo), .int hv] μ (fun r ν => r = some (.int (nI (sNum t n lo hi S).2)) ∧ f456 μ ν ∧ rS t n (sNum t n lo hi S).1 ν) := by
  refine bc_enter (by decide) (Nat.le_of_ble_eq_true rfl) rfl ?_
  cases S with
  | inl z =>
    refine bc_aload_n dX10_readNumber_0 rfl ?_
    refine bc_callV (z := mX10_fine) (ci := 10) dX10_readNumber_1 lX10_147 qX10_fine (by rfl) (by rfl) (by rfl) (by rfl) (Nat.le_of_ble_eq_true rfl) (t_fineN h) (fun r1 μ1 e1 => ?_)
    obtain ⟨rfl, q1⟩ := e1
    obtain rfl := q1.symm
    refine bc_if_ne (tgt := 9) dX10_readNumber_4 (by decide) (fun h4 => absurd h4 (fun q => q rfl)) (fun h4 => ?_)
    refine bc_iconst (v := 0) dX10_readNumber_7 (by decide) ?_
    exact bc_ireturn dX10_readNumber_8 rfl rfl (⟨rfl, f456.rf, h⟩)
  | inr p =>
    have hat := h.at'
    have hpn := h.le
    obtain ⟨h3, h6, hb8⟩ := id h.1
    obtain ⟨μ1, hμ1⟩ : ∃ μ1, μ1 = bc_u μ 0 4 (nI p) := ⟨_, rfl⟩
    have hf1 : f456 μ μ1 := by rw [hμ1]; exact f456.u (by omega)
    rw [← hμ1] at hat
    have q4 : μ1 0 4 = nI p := by rw [hμ1, bc_u_r, if_pos ⟨rfl, rfl⟩]
    have q2 : μ1 2 = μ 2 := hf1.1 2 (by decide)
    by_cases hdg : p < n ∧ isDg (t p) = true
    · obtain ⟨E, hE⟩ : ∃ E, E = dgE t n p := ⟨_, rfl⟩
      have hEn : E ≤ n := by rw [hE]; exact rn_le hpn
      have hpE : p ≤ E := by rw [hE]; exact rn_ge _ _ _ _
      have hall : ∀ i, p ≤ i → i < E → isDg (t i) = true := fun i h1 h2 => by rw [hE] at h2; exact rn_all h1 h2
      have hend : E < n → ¬ isDg (t E) = true := fun q => by rw [hE] at q ⊢; exact rn_at hpn q
      have hfin : ∀ (v : Nat) (μ2 : bc_M) , (dv t n p ≤ 9999 ∧ v = dv t n p ∨ 9999 < dv t n p ∧ 9999 < v) → v < 100000 → μ2 = bc_u μ1 0 4 (nI E) → bc_W (d + 1) LM mX10_readNumber 114 [.ref 0, .int (nI lo), .int hv, .int (μ 2 p), .int (nI p), .int (nI v)] [] μ2 (fun r ν => r = some (.int (nI (sNum t n lo hi (.inr p)).2)) ∧ f456 μ ν ∧ rS t n (sNum t n lo hi (.inr p)).1 ν) := by
        intro v μ2 hv' hv2 hμ2
        have hf2 : f456 μ μ2 := by rw [hμ2]; exact hf1.tr (f456.u (by omega))
        have hr2 : rS t n (.inr (skp t n E)) μ2 := by
          refine ⟨h.1.mv hf2, E, hEn, by rw [hμ2, bc_u_r, if_pos ⟨rfl, rfl⟩], ?_, rfl⟩
          obtain ⟨-, a, -, -, hb, -⟩ := hat
          rw [hμ2, bc_u_r, if_neg (by omega)]
          exact hb
        have hlt : nI v < nI lo ↔ v < lo := bn_ltN (by omega) (by omega)
        have hgt : nI v ≤ hv ↔ v < hi := by rw [bn_le, ev, bn_ti (by omega)]; omega
        have sN : sNum t n lo hi (.inr p) = if lo ≤ dv t n p ∧ dv t n p < hi then (.inr (skp t n (dgE t n p)), dv t n p) else (.inl (2, p), 0) := by
          simp only [sNum]; rw [if_pos hdg]
        by_cases hok : lo ≤ dv t n p ∧ dv t n p < hi
        · have ev2 : v = dv t n p := by omega
          rw [sN, if_pos hok, ← hE, ← ev2]
          refine bc_iload dX10_readNumber_114 rfl ?_
          refine bc_iload_n dX10_readNumber_116 rfl ?_
          refine bc_icmp_lt (tgt := 126) dX10_readNumber_117 (by decide) (fun h117 => absurd h117 (fun q => absurd (hlt.mp q) (by omega))) (fun h117 => ?_)
          refine bc_iload dX10_readNumber_120 rfl ?_
          refine bc_iload_n dX10_readNumber_122 rfl ?_
          refine bc_icmp_le (tgt := 135) dX10_readNumber_123 (by decide) (fun h123 => ?_) (fun h123 => absurd h123 (fun q => q (hgt.mpr (by omega))))
          refine bc_iload dX10_readNumber_135 rfl ?_
          exact bc_ireturn dX10_readNumber_137 rfl rfl (⟨rfl, hf2, hr2⟩)
        · rw [sN, if_neg hok]
          have bad : bc_W (d + 1) LM mX10_readNumber 126 [.ref 0, .int (nI lo), .int hv, .int (μ 2 p), .int (nI p), .int (nI v)] [] μ2 (fun r ν => r = some (.int (nI ((.inl (2, p), 0) : TS × Nat).2)) ∧ f456 μ ν ∧ rS t n ((.inl (2, p), 0) : TS × Nat).1 ν) := by
            refine bc_aload_n dX10_readNumber_126 rfl ?_
            refine bc_iconst (v := 2) dX10_readNumber_127 (by decide) ?_
            refine bc_iload dX10_readNumber_128 rfl ?_
            refine bc_callV (z := mX10_wrong) (ci := 10) dX10_readNumber_130 lX10_154 qX10_wrong (by rfl) (by rfl) (by rfl) (by rfl) (Nat.le_of_ble_eq_true rfl) (t_wrongY (k := 2) hr2 hpn) (fun r130 μ130 e130 => ?_)
            obtain ⟨rfl, f130, s130, -⟩ := e130
            refine bc_iconst (v := 0) dX10_readNumber_133 (by decide) ?_
            exact bc_ireturn dX10_readNumber_134 rfl rfl (⟨rfl, hf2.tr f130, s130⟩)
          refine bc_iload dX10_readNumber_114 rfl ?_
          refine bc_iload_n dX10_readNumber_116 rfl ?_
          refine bc_icmp_lt (tgt := 126) dX10_readNumber_117 (by decide) (fun h117 => ?_) (fun h117 => ?_)
          · exact bad
          · refine bc_iload dX10_readNumber_120 rfl ?_
            refine bc_iload_n dX10_readNumber_122 rfl ?_
            refine bc_icmp_le (tgt := 135) dX10_readNumber_123 (by decide) (fun h123 => ?_) (fun h123 => ?_)
            · refine bc_iload dX10_readNumber_135 rfl ?_
              exact bc_ireturn dX10_readNumber_137 rfl rfl (absurd (⟨by have q : ¬ v < lo := fun z => h117 (hlt.mpr z); omega, by have q := hgt.mp h123; omega⟩ : lo ≤ dv t n p ∧ dv t n p < hi) hok)
            · exact bad
      have loop : ∀ (c a tv v : Nat), a + c = E → p ≤ a → dvF t c a tv = dv t n p → (tv ≤ 9999 ∧ v = tv ∨ 9999 < tv ∧ 9999 < v) → v < 100000 → bc_W (d + 1) LM mX10_readNumber 41 [.ref 0, .int (nI lo), .int hv, .int (μ 2 p), .int (nI p), .int (nI v)] [] (bc_u μ1 0 4 (nI a)) (fun r ν => r = some (.int (nI (sNum t n lo hi (.inr p)).2)) ∧ f456 μ ν ∧ rS t n (sNum t n lo hi (.inr p)).1 ν) := by
        intro c
        induction c with
        | zero =>
          intro a tv v ha hpa hd hv' hv2
          have ha : a = E := by omega
          subst ha
          have hd : tv = dv t n p := hd
          rw [hd] at hv'
          have q3 : bc_u μ1 0 4 (nI a) 0 3 = nI n := by rw [bc_u_r, if_neg (by omega)]; exact hat.1.1
          have q4' : bc_u μ1 0 4 (nI a) 0 4 = nI a := by rw [bc_u_r, if_pos ⟨rfl, rfl⟩]
          by_cases hlt : a < n
          · have h32 : ¬ (nI 48 ≤ μ 2 a ∧ μ 2 a ≤ nI 57) := fun q => hend hlt ((b8_dg (hb8 a hlt)).mp q)
            refine bc_aload_n dX10_readNumber_41 rfl ?_
            refine bc_geti dX10_readNumber_42 fX10_124 (rfl) rfl ?_
            rw [q4']
            refine bc_aload_n dX10_readNumber_45 rfl ?_
            refine bc_geti dX10_readNumber_46 fX10_127 (rfl) rfl ?_
            rw [q3]
            refine bc_icmp_ge (tgt := 114) dX10_readNumber_49 (by decide) (fun h49 => absurd h49 (bx_in rfl (by omega) (by omega))) (fun h49 => ?_)
            refine bc_aload_n dX10_readNumber_52 rfl ?_
            refine bc_getr dX10_readNumber_53 fX10_20 (rfl) rfl ?_
            refine bc_aload_n dX10_readNumber_56 rfl ?_
            refine bc_geti dX10_readNumber_57 fX10_124 (rfl) rfl ?_
            rw [q4']
            refine bc_ialdE dX10_readNumber_60 (rfl) (rfl) (⟨by omega, by decide⟩) ?_
            rw [show bc_u μ1 0 4 (nI a) 2 a = μ 2 a by rw [bc_u_ne _ _ _ (by decide), q2]]
            refine bc_callS (z := mX10_isDigit) dX10_readNumber_61 lX10_151 qX10_isDigit (by rfl) (by rfl) (Nat.le_of_ble_eq_true rfl) (t_isDigit _) (fun r61 μ61 e61 => ?_)
            obtain ⟨rfl, q61⟩ := e61
            obtain rfl := q61.symm
            refine bc_if_eq (tgt := 114) dX10_readNumber_64 (by decide) (fun h64 => ?_) (fun h64 => absurd h64 (fun q => q (ite0.mpr h32)))
            exact hfin v _ hv' hv2 rfl
          · skip
            refine bc_aload_n dX10_readNumber_41 rfl ?_
            refine bc_geti dX10_readNumber_42 fX10_124 (rfl) rfl ?_
            rw [q4']
            refine bc_aload_n dX10_readNumber_45 rfl ?_
            refine bc_geti dX10_readNumber_46 fX10_127 (rfl) rfl ?_
            rw [q3]
            refine bc_icmp_ge (tgt := 114) dX10_readNumber_49 (by decide) (fun h49 => ?_) (fun h49 => absurd h49 (fun q => q (bx_out rfl (by omega) (by omega))))
            exact hfin v _ hv' hv2 rfl
        | succ c ih =>
          intro a tv v ha hpa hd hv' hv2
          have q3 : bc_u μ1 0 4 (nI a) 0 3 = nI n := by rw [bc_u_r, if_neg (by omega)]; exact hat.1.1
          have q4' : bc_u μ1 0 4 (nI a) 0 4 = nI a := by rw [bc_u_r, if_pos ⟨rfl, rfl⟩]
          have q2' : bc_u μ1 0 4 (nI a) 2 a = μ 2 a := by rw [bc_u_ne _ _ _ (by decide), q2]
          have hda := hall a hpa (by omega)
          have h32 : nI 48 ≤ μ 2 a ∧ μ 2 a ≤ nI 57 := (b8_dg (hb8 a (by omega))).mpr hda
          have hu : μ 2 a = t a := (b8_rg (hb8 a (by omega)) (a := 48) (b := 57) (by omega) (by omega) (by omega)).2 (isDg_iff.mp hda)
          obtain ⟨hd1, hd2⟩ := dg_sub hda
          have e48 : nI (10 * v) + μ 2 a - 48 = nI (10 * v + dgV (t a)) := by
            obtain ⟨g, hg⟩ : ∃ g, g = dgV (t a) := ⟨_, rfl⟩
            rw [← hg] at hd1 hd2 ⊢
            rw [hu, hd1, bn_add]
            have := ixS (x := nI (10 * v + (g + 48))) (y := 48) (a := 10 * v + (g + 48)) (b := 48) rfl rfl (by omega)
            rw [this, show 10 * v + (g + 48) - 48 = 10 * v + g by omega]
          have next : ∀ v', (tv * 10 + dgV (t a) ≤ 9999 ∧ v' = tv * 10 + dgV (t a) ∨ 9999 < tv * 10 + dgV (t a) ∧ 9999 < v') → v' < 100000 → bc_W (d + 1) LM mX10_readNumber 99 [.ref 0, .int (nI lo), .int hv, .int (μ 2 p), .int (nI p), .int (nI v)] [.int (nI v')] (bc_u μ1 0 4 (nI a)) (fun r ν => r = some (.int (nI (sNum t n lo hi (.inr p)).2)) ∧ f456 μ ν ∧ rS t n (sNum t n lo hi (.inr p)).1 ν) := by
            intro v' hv1 hv3
            have h2 := ih (a + 1) (tv * 10 + dgV (t a)) v' (by omega) (by omega) hd hv1 hv3
            refine bc_istore dX10_readNumber_99 (by decide) rfl ?_
            refine bc_aload_n dX10_readNumber_101 rfl ?_
            refine bc_dup dX10_readNumber_102 rfl ?_
            refine bc_geti dX10_readNumber_103 fX10_124 (rfl) rfl ?_
            rw [q4']
            refine bc_iconst (v := 1) dX10_readNumber_106 (by decide) ?_
            refine bc_iadd dX10_readNumber_107 ?_
            rw [bn_add1]
            refine bc_put dX10_readNumber_108 fX10_124 ftX10 fpX10_4 rfl rfl (rfl) rfl ?_
            refine bc_goto (tgt := 41) dX10_readNumber_111 (by decide) ?_
            rw [u_uu]
            exact h2
          have c99 : nI v ≤ 9999 ↔ v ≤ 9999 := bn_leN (b := 9999) (by omega) (by omega)
          refine bc_aload_n dX10_readNumber_41 rfl ?_
          refine bc_geti dX10_readNumber_42 fX10_124 (rfl) rfl ?_
          rw [q4']
          refine bc_aload_n dX10_readNumber_45 rfl ?_
          refine bc_geti dX10_readNumber_46 fX10_127 (rfl) rfl ?_
          rw [q3]
          refine bc_icmp_ge (tgt := 114) dX10_readNumber_49 (by decide) (fun h49 => absurd h49 (bx_in rfl (by omega) (by omega))) (fun h49 => ?_)
          refine bc_aload_n dX10_readNumber_52 rfl ?_
          refine bc_getr dX10_readNumber_53 fX10_20 (rfl) rfl ?_
          refine bc_aload_n dX10_readNumber_56 rfl ?_
          refine bc_geti dX10_readNumber_57 fX10_124 (rfl) rfl ?_
          rw [q4']
          refine bc_ialdE dX10_readNumber_60 (rfl) (rfl) (⟨by omega, by decide⟩) ?_
          rw [q2']
          refine bc_callS (z := mX10_isDigit) dX10_readNumber_61 lX10_151 qX10_isDigit (by rfl) (by rfl) (Nat.le_of_ble_eq_true rfl) (t_isDigit _) (fun r61 μ61 e61 => ?_)
          obtain ⟨rfl, q61⟩ := e61
          obtain rfl := q61.symm
          refine bc_if_eq (tgt := 114) dX10_readNumber_64 (by decide) (fun h64 => absurd h64 (fun q => ite0.mp q h32)) (fun h64 => ?_)
          refine bc_iload dX10_readNumber_67 rfl ?_
          refine bc_sipush (v := 9999) dX10_readNumber_69 (by decide) ?_
          refine bc_icmp_le (tgt := 81) dX10_readNumber_72 (by decide) (fun h72 => ?_) (fun h72 => ?_)
          · refine bc_bipush (v := 10) dX10_readNumber_81 (by decide) ?_
            refine bc_iload dX10_readNumber_83 rfl ?_
            refine bc_imul dX10_readNumber_85 ?_
            rw [show (10 : Int32) * nI v = nI (10 * v) from ixM (a := 10) rfl rfl]
            refine bc_aload_n dX10_readNumber_86 rfl ?_
            refine bc_getr dX10_readNumber_87 fX10_20 (rfl) rfl ?_
            refine bc_aload_n dX10_readNumber_90 rfl ?_
            refine bc_geti dX10_readNumber_91 fX10_124 (rfl) rfl ?_
            rw [q4']
            refine bc_ialdE dX10_readNumber_94 (rfl) (rfl) (⟨by omega, by decide⟩) ?_
            rw [q2']
            refine bc_iadd dX10_readNumber_95 ?_
            refine bc_bipush (v := 48) dX10_readNumber_96 (by decide) ?_
            refine bc_isub dX10_readNumber_98 ?_
            rw [e48]
            have hsm := c99.mp h72
            exact next (10 * v + dgV (t a)) (by omega) (by omega)
          · refine bc_sipush (v := 10000) dX10_readNumber_75 (by decide) ?_
            refine bc_goto (tgt := 99) dX10_readNumber_78 (by decide) ?_
            have hbig : ¬ v ≤ 9999 := fun q => h72 (c99.mpr q)
            exact next 10000 (by omega) (by omega)
      have hx1 : hx (μ 2) n p = μ 2 p := if_pos hdg.1
      have h48 : nI 48 ≤ μ 2 p ∧ μ 2 p ≤ nI 57 := (b8_dg (hb8 p hdg.1)).mpr hdg.2
      refine bc_aload_n dX10_readNumber_0 rfl ?_
      refine bc_callV (z := mX10_fine) (ci := 10) dX10_readNumber_1 lX10_147 qX10_fine (by rfl) (by rfl) (by rfl) (by rfl) (Nat.le_of_ble_eq_true rfl) (t_fineY rfl h) (fun r1 μ1 e1 => ?_)
      obtain ⟨rfl, q1⟩ := e1
      obtain rfl := q1.symm
      refine bc_if_ne (tgt := 9) dX10_readNumber_4 (by decide) (fun h4 => ?_) (fun h4 => absurd h4 (by decide))
      refine bc_aload_n dX10_readNumber_9 rfl ?_
      refine bc_callV (z := mX10_here) (ci := 10) dX10_readNumber_10 lX10_130 qX10_here (by rfl) (by rfl) (by rfl) (by rfl) (Nat.le_of_ble_eq_true rfl) (t_here h) (fun r10 μ10 e10 => ?_)
      obtain ⟨rfl, q10⟩ := e10
      obtain rfl := q10.symm
      rw [hx1, ← hμ1]
      refine bc_istore_n dX10_readNumber_13 (by decide) rfl ?_
      refine bc_aload_n dX10_readNumber_14 rfl ?_
      refine bc_geti dX10_readNumber_15 fX10_124 (rfl) rfl ?_
      rw [q4]
      refine bc_istore dX10_readNumber_18 (by decide) rfl ?_
      refine bc_iconst (v := 0) dX10_readNumber_20 (by decide) ?_
      refine bc_istore dX10_readNumber_21 (by decide) rfl ?_
      refine bc_iload_n dX10_readNumber_23 rfl ?_
      refine bc_callS (z := mX10_isDigit) dX10_readNumber_24 lX10_151 qX10_isDigit (by rfl) (by rfl) (Nat.le_of_ble_eq_true rfl) (t_isDigit _) (fun r24 μ24 e24 => ?_)
      obtain ⟨rfl, q24⟩ := e24
      obtain rfl := q24.symm
      refine bc_if_ne (tgt := 41) dX10_readNumber_27 (by decide) (fun h27 => ?_) (fun h27 => absurd h27 (fun q => ite0.mp q h48))
      have h2 := loop (E - p) p 0 0 (by omega) (Nat.le_refl _) (by rw [hE]; rfl) (.inl ⟨by omega, rfl⟩) (by omega)
      rw [u_self q4] at h2
      exact h2
    · have sN : sNum t n lo hi (.inr p) = (.inl (1, p), 0) := by simp only [sNum]; rw [if_neg hdg]
      rw [sN]
      have hx0 : ¬ (nI 48 ≤ hx (μ 2) n p ∧ hx (μ 2) n p ≤ nI 57) := by
        unfold hx
        by_cases q : p < n
        · rw [if_pos q, b8_dg (hb8 p q)]; exact fun z => hdg ⟨q, z⟩
        · rw [if_neg q]; decide
      refine bc_aload_n dX10_readNumber_0 rfl ?_
      refine bc_callV (z := mX10_fine) (ci := 10) dX10_readNumber_1 lX10_147 qX10_fine (by rfl) (by rfl) (by rfl) (by rfl) (Nat.le_of_ble_eq_true rfl) (t_fineY rfl h) (fun r1 μ1 e1 => ?_)
      obtain ⟨rfl, q1⟩ := e1
      obtain rfl := q1.symm
      refine bc_if_ne (tgt := 9) dX10_readNumber_4 (by decide) (fun h4 => ?_) (fun h4 => absurd h4 (by decide))
      refine bc_aload_n dX10_readNumber_9 rfl ?_
      refine bc_callV (z := mX10_here) (ci := 10) dX10_readNumber_10 lX10_130 qX10_here (by rfl) (by rfl) (by rfl) (by rfl) (Nat.le_of_ble_eq_true rfl) (t_here h) (fun r10 μ10 e10 => ?_)
      obtain ⟨rfl, q10⟩ := e10
      obtain rfl := q10.symm
      rw [← hμ1]
      refine bc_istore_n dX10_readNumber_13 (by decide) rfl ?_
      refine bc_aload_n dX10_readNumber_14 rfl ?_
      refine bc_geti dX10_readNumber_15 fX10_124 (rfl) rfl ?_
      refine bc_istore dX10_readNumber_18 (by decide) rfl ?_
      refine bc_iconst (v := 0) dX10_readNumber_20 (by decide) ?_
      refine bc_istore dX10_readNumber_21 (by decide) rfl ?_
      refine bc_iload_n dX10_readNumber_23 rfl ?_
      refine bc_callS (z := mX10_isDigit) dX10_readNumber_24 lX10_151 qX10_isDigit (by rfl) (by rfl) (Nat.le_of_ble_eq_true rfl) (t_isDigit _) (fun r24 μ24 e24 => ?_)
      obtain ⟨rfl, q24⟩ := e24
      obtain rfl := q24.symm
      refine bc_if_ne (tgt := 41) dX10_readNumber_27 (by decide) (fun h27 => absurd h27 (fun q => q (ite0.mpr hx0))) (fun h27 => ?_)
      refine bc_aload_n dX10_readNumber_30 rfl ?_
      refine bc_iconst (v := 1) dX10_readNumber_31 (by decide) ?_
      refine bc_aload_n dX10_readNumber_32 rfl ?_
      refine bc_geti dX10_readNumber_33 fX10_124 (rfl) rfl ?_
      rw [q4]
      refine bc_callV (z := mX10_wrong) (ci := 10) dX10_readNumber_36 lX10_154 qX10_wrong (by rfl) (by rfl) (by rfl) (by rfl) (Nat.le_of_ble_eq_true rfl) (t_wrongY (k := 1) hat hpn) (fun r36 μ36 e36 => ?_)
      obtain ⟨rfl, f36, s36, -⟩ := e36
      refine bc_iconst (v := 0) dX10_readNumber_39 (by decide) ?_
      exact bc_ireturn dX10_readNumber_40 rfl rfl (⟨rfl, hf1.tr f36, s36⟩)
theorem t_sign {S : TS} {c : Nat} (h : rS t n S μ) (h1 : 1 ≤ c) (hc : c < 128) : bc_C (d + 1) LM mX10_sign [.ref 0, .int (nI c)] μ (fun r ν => r = none ∧ f456 μ ν ∧ rS t n (sNeed t n (nI c) S) ν) := by
  refine bc_enter (by decide) (Nat.le_of_ble_eq_true rfl) rfl ?_
  cases S with
  | inl z =>
    refine bc_aload_n dX10_sign_0 rfl ?_
    refine bc_callV (z := mX10_fine) (ci := 10) dX10_sign_1 lX10_147 qX10_fine (by rfl) (by rfl) (by rfl) (by rfl) (Nat.le_of_ble_eq_true rfl) (t_fineN h) (fun r1 μ1 e1 => ?_)
    obtain ⟨rfl, q1⟩ := e1
    obtain rfl := q1.symm
    refine bc_if_eq (tgt := 24) dX10_sign_4 (by decide) (fun h4 => ?_) (fun h4 => absurd h4 (fun q => q rfl))
    refine bc_aload_n dX10_sign_24 rfl ?_
    refine bc_callV (z := mX10_fine) (ci := 10) dX10_sign_25 lX10_147 qX10_fine (by rfl) (by rfl) (by rfl) (by rfl) (Nat.le_of_ble_eq_true rfl) (t_fineN h) (fun r25 μ25 e25 => ?_)
    obtain ⟨rfl, q25⟩ := e25
    obtain rfl := q25.symm
    refine bc_if_eq (tgt := 41) dX10_sign_28 (by decide) (fun h28 => ?_) (fun h28 => absurd h28 (fun q => q rfl))
    exact bc_return dX10_sign_41 rfl (⟨rfl, f456.rf, h⟩)
  | inr p =>
    have hat := h.at'
    have hpn := h.le
    have hhx := hx_eq (p := p) h.1.2.2 h1 hc
    obtain ⟨μ1, hμ1⟩ : ∃ μ1, μ1 = bc_u μ 0 4 (nI p) := ⟨_, rfl⟩
    have hf1 : f456 μ μ1 := by rw [hμ1]; exact f456.u (by omega)
    rw [← hμ1] at hat
    have q4 : μ1 0 4 = nI p := by rw [hμ1, bc_u_r, if_pos ⟨rfl, rfl⟩]
    by_cases hok : p < n ∧ t p = nI c
    · have sN : sNeed t n (nI c) (.inr p) = .inr (skp t n (p + 1)) := by simp only [sNeed]; rw [if_pos hok]
      rw [sN]
      refine bc_aload_n dX10_sign_0 rfl ?_
      refine bc_callV (z := mX10_fine) (ci := 10) dX10_sign_1 lX10_147 qX10_fine (by rfl) (by rfl) (by rfl) (by rfl) (Nat.le_of_ble_eq_true rfl) (t_fineY rfl h) (fun r1 μ1 e1 => ?_)
      obtain ⟨rfl, q1⟩ := e1
      obtain rfl := q1.symm
      refine bc_if_eq (tgt := 24) dX10_sign_4 (by decide) (fun h4 => absurd h4 (by decide)) (fun h4 => ?_)
      refine bc_aload_n dX10_sign_7 rfl ?_
      refine bc_callV (z := mX10_here) (ci := 10) dX10_sign_8 lX10_130 qX10_here (by rfl) (by rfl) (by rfl) (by rfl) (Nat.le_of_ble_eq_true rfl) (t_here h) (fun r8 μ8 e8 => ?_)
      obtain ⟨rfl, q8⟩ := e8
      obtain rfl := q8.symm
      rw [hhx.mpr hok, ← hμ1]
      refine bc_iload_n dX10_sign_11 rfl ?_
      refine bc_icmp_eq (tgt := 24) dX10_sign_12 (by decide) (fun h12 => ?_) (fun h12 => absurd h12 (fun q => q rfl))
      refine bc_aload_n dX10_sign_24 rfl ?_
      refine bc_callV (z := mX10_fine) (ci := 10) dX10_sign_25 lX10_147 qX10_fine (by rfl) (by rfl) (by rfl) (by rfl) (Nat.le_of_ble_eq_true rfl) (t_fineY rfl hat) (fun r25 μ25 e25 => ?_)
      obtain ⟨rfl, q25⟩ := e25
      obtain rfl := q25.symm
      refine bc_if_eq (tgt := 41) dX10_sign_28 (by decide) (fun h28 => absurd h28 (by decide)) (fun h28 => ?_)
      refine bc_aload_n dX10_sign_31 rfl ?_
      refine bc_dup dX10_sign_32 rfl ?_
      refine bc_geti dX10_sign_33 fX10_124 (rfl) rfl ?_
      rw [q4]
      refine bc_iconst (v := 1) dX10_sign_36 (by decide) ?_
      refine bc_iadd dX10_sign_37 ?_
      rw [bn_add1]
      refine bc_put dX10_sign_38 fX10_124 ftX10 fpX10_4 rfl rfl (rfl) rfl ?_
      exact bc_return dX10_sign_41 rfl (⟨rfl, hf1.tr (f456.u (by omega)), hat.1.mv (f456.u (by omega)), p + 1, by omega, by rw [bc_u_r, if_pos ⟨rfl, rfl⟩], by obtain ⟨-, a, -, -, hb, -⟩ := hat; rw [bc_u_r, if_neg (by omega)]; exact hb, rfl⟩)
    · have sN : sNeed t n (nI c) (.inr p) = .inl (1, p) := by simp only [sNeed]; rw [if_neg hok]
      rw [sN]
      refine bc_aload_n dX10_sign_0 rfl ?_
      refine bc_callV (z := mX10_fine) (ci := 10) dX10_sign_1 lX10_147 qX10_fine (by rfl) (by rfl) (by rfl) (by rfl) (Nat.le_of_ble_eq_true rfl) (t_fineY rfl h) (fun r1 μ1 e1 => ?_)
      obtain ⟨rfl, q1⟩ := e1
      obtain rfl := q1.symm
      refine bc_if_eq (tgt := 24) dX10_sign_4 (by decide) (fun h4 => absurd h4 (by decide)) (fun h4 => ?_)
      refine bc_aload_n dX10_sign_7 rfl ?_
      refine bc_callV (z := mX10_here) (ci := 10) dX10_sign_8 lX10_130 qX10_here (by rfl) (by rfl) (by rfl) (by rfl) (Nat.le_of_ble_eq_true rfl) (t_here h) (fun r8 μ8 e8 => ?_)
      obtain ⟨rfl, q8⟩ := e8
      obtain rfl := q8.symm
      rw [← hμ1]
      refine bc_iload_n dX10_sign_11 rfl ?_
      refine bc_icmp_eq (tgt := 24) dX10_sign_12 (by decide) (fun h12 => absurd h12 (fun q => hok (hhx.mp q))) (fun h12 => ?_)
      refine bc_aload_n dX10_sign_15 rfl ?_
      refine bc_iconst (v := 1) dX10_sign_16 (by decide) ?_
      refine bc_aload_n dX10_sign_17 rfl ?_
      refine bc_geti dX10_sign_18 fX10_124 (rfl) rfl ?_
      rw [q4]
      refine bc_callV (z := mX10_wrong) (ci := 10) dX10_sign_21 lX10_154 qX10_wrong (by rfl) (by rfl) (by rfl) (by rfl) (Nat.le_of_ble_eq_true rfl) (t_wrongY (k := 1) hat hpn) (fun r21 μ21 e21 => ?_)
      obtain ⟨rfl, f21, s21, -⟩ := e21
      refine bc_aload_n dX10_sign_24 rfl ?_
      refine bc_callV (z := mX10_fine) (ci := 10) dX10_sign_25 lX10_147 qX10_fine (by rfl) (by rfl) (by rfl) (by rfl) (Nat.le_of_ble_eq_true rfl) (t_fineN s21) (fun r25 μ25 e25 => ?_)
      obtain ⟨rfl, q25⟩ := e25
      obtain rfl := q25.symm
      refine bc_if_eq (tgt := 41) dX10_sign_28 (by decide) (fun h28 => ?_) (fun h28 => absurd h28 (fun q => q rfl))
      exact bc_return dX10_sign_41 rfl (⟨rfl, hf1.tr f21, s21⟩)
theorem t_isMore (h : rS t n (.inr p) μ) : bc_C (d + 1) LM mX10_isMore [.ref 0] μ (fun r ν => r = some (.int (if p < n then 1 else 0)) ∧ ν = bc_u μ 0 4 (nI p)) := by
  refine bc_enter (by decide) (Nat.le_of_ble_eq_true rfl) rfl ?_
  have hpn := h.le
  have h6 := h.1.2.1
  have q3 : bc_u μ 0 4 (nI p) 0 3 = nI n := h.1.1
  have q4 : bc_u μ 0 4 (nI p) 0 4 = nI p := by rw [bc_u_r, if_pos ⟨rfl, rfl⟩]
  have hc : nI n ≤ nI p ↔ n ≤ p := bn_leN (by omega) (by omega)
  refine bc_aload_n dX10_isMore_0 rfl ?_
  refine bc_callV (z := mX10_here) (ci := 10) dX10_isMore_1 lX10_130 qX10_here (by rfl) (by rfl) (by rfl) (by rfl) (Nat.le_of_ble_eq_true rfl) (t_here h) (fun r1 μ1 e1 => ?_)
  obtain ⟨rfl, q1⟩ := e1
  obtain rfl := q1.symm
  refine bc_pop dX10_isMore_4 rfl ?_
  refine bc_aload_n dX10_isMore_5 rfl ?_
  refine bc_geti dX10_isMore_6 fX10_124 (rfl) rfl ?_
  rw [q4]
  refine bc_aload_n dX10_isMore_9 rfl ?_
  refine bc_geti dX10_isMore_10 fX10_127 (rfl) rfl ?_
  rw [q3]
  refine bc_icmp_ge (tgt := 20) dX10_isMore_13 (by decide) (fun h13 => ?_) (fun h13 => ?_)
  · refine bc_iconst (v := 0) dX10_isMore_20 (by decide) ?_
    exact bc_ireturn dX10_isMore_21 rfl rfl (⟨by rw [if_neg (by have := hc.mp h13; omega)], rfl⟩)
  · refine bc_iconst (v := 1) dX10_isMore_16 (by decide) ?_
    refine bc_goto (tgt := 21) dX10_isMore_17 (by decide) ?_
    exact bc_ireturn dX10_isMore_21 rfl rfl (⟨by rw [if_pos (by have z : ¬ n ≤ p := fun q => h13 (hc.mpr q); omega)], rfl⟩)
theorem t_begins (hn : n ≤ 600) (hb : ∀ j, j < n → b8R (t j) (μ 2 j)) : bc_C d LM mX10_begins [.ref 0, .int (nI n)] μ (fun r ν => r = none ∧ (∀ i, i ≠ 0 → ν i = μ i) ∧ (∀ j, j ≠ 2 → j ≠ 3 → j ≠ 4 → j ≠ 5 → j ≠ 7 → j ≠ 8 → ν 0 j = μ 0 j) ∧ ν 0 2 = 0 ∧ ν 0 7 = 0 ∧ ν 0 8 = -1 ∧ rS t n (.inr (skp t n 0)) ν) := by
  refine bc_enter (by decide) (Nat.le_of_ble_eq_true rfl) rfl ?_
  refine bc_aload_n dX10_begins_0 rfl ?_
  refine bc_iconst (v := 0) dX10_begins_1 (by decide) ?_
  refine bc_put dX10_begins_2 fX10_115 ftX10 fpX10_2 rfl rfl (rfl) rfl ?_
  refine bc_aload_n dX10_begins_5 rfl ?_
  refine bc_iconst (v := (-1)) dX10_begins_6 (by decide) ?_
  refine bc_put dX10_begins_7 fX10_17 ftX10 fpX10_8 rfl rfl (rfl) rfl ?_
  refine bc_aload_n dX10_begins_10 rfl ?_
  refine bc_iload_n dX10_begins_11 rfl ?_
  refine bc_put dX10_begins_12 fX10_127 ftX10 fpX10_3 rfl rfl (rfl) rfl ?_
  refine bc_aload_n dX10_begins_15 rfl ?_
  refine bc_iconst (v := 0) dX10_begins_16 (by decide) ?_
  refine bc_put dX10_begins_17 fX10_124 ftX10 fpX10_4 rfl rfl (rfl) rfl ?_
  refine bc_aload_n dX10_begins_20 rfl ?_
  refine bc_iconst (v := (-1)) dX10_begins_21 (by decide) ?_
  refine bc_put dX10_begins_22 fX10_118 ftX10 fpX10_5 rfl rfl (rfl) rfl ?_
  refine bc_aload_n dX10_begins_25 rfl ?_
  refine bc_iconst (v := 0) dX10_begins_26 (by decide) ?_
  refine bc_put dX10_begins_27 fX10_158 ftX10 fpX10_7 rfl rfl (rfl) rfl ?_
  exact bc_return dX10_begins_30 rfl (⟨rfl, fun i h0 => by simp only [bc_u_ne _ _ _ h0], fun j h2 h3 h4 h5 h7 h8 => by simp only [bc_u_r]; rw [if_neg (by omega), if_neg (by omega), if_neg (by omega), if_neg (by omega), if_neg (by omega), if_neg (by omega)], rfl, rfl, rfl, ⟨rfl, hn, hb⟩, 0, by omega, rfl, rfl, rfl⟩)
def rsV (g : Int32) : TS → Int32
  | .inr _ => g
  | .inl z => nI z.1 - 10
def rsF : TS → Int32
  | .inr _ => -1
  | .inl z => nI z.2
theorem t_result {S : TS} (g : Int32) (h : rS t n S μ) : bc_C (d + 1) LM mX10_result [.ref 0, .int g] μ (fun r ν => r = some (.int (rsV g S)) ∧ ν = bc_u μ 0 8 (rsF S)) := by
  refine bc_enter (by decide) (Nat.le_of_ble_eq_true rfl) rfl ?_
  cases S with
  | inr p =>
    have h2 : rS t n (.inr p) (bc_u μ 0 8 (-1)) := by
      obtain ⟨⟨a1, a2, a3⟩, a, ha, h4, hb, hs⟩ := h
      exact ⟨⟨a1, a2, a3⟩, a, ha, h4, hb, hs⟩
    obtain ⟨-, a, -, -, hb, -⟩ := h
    refine bc_aload_n dX10_result_0 rfl ?_
    refine bc_aload_n dX10_result_1 rfl ?_
    refine bc_geti dX10_result_2 fX10_118 (rfl) rfl ?_
    rw [hb]
    refine bc_put dX10_result_5 fX10_17 ftX10 fpX10_8 rfl rfl (rfl) rfl ?_
    refine bc_aload_n dX10_result_8 rfl ?_
    refine bc_callV (z := mX10_fine) (ci := 10) dX10_result_9 lX10_147 qX10_fine (by rfl) (by rfl) (by rfl) (by rfl) (Nat.le_of_ble_eq_true rfl) (t_fineY rfl h2) (fun r9 μ9 e9 => ?_)
    obtain ⟨rfl, q9⟩ := e9
    obtain rfl := q9.symm
    refine bc_if_eq (tgt := 19) dX10_result_12 (by decide) (fun h12 => absurd h12 (by decide)) (fun h12 => ?_)
    refine bc_iload_n dX10_result_15 rfl ?_
    refine bc_goto (tgt := 26) dX10_result_16 (by decide) ?_
    exact bc_ireturn dX10_result_26 rfl rfl (⟨rfl, rfl⟩)
  | inl z =>
    have h2 : rS t n (.inl z) (bc_u μ 0 8 (nI z.2)) := by
      obtain ⟨⟨a1, a2, a3⟩, a, ha, h4, hb, hs⟩ := h
      exact ⟨⟨a1, a2, a3⟩, a, ha, h4, hb, hs⟩
    obtain ⟨-, a, -, -, hb, hk, -⟩ := h
    refine bc_aload_n dX10_result_0 rfl ?_
    refine bc_aload_n dX10_result_1 rfl ?_
    refine bc_geti dX10_result_2 fX10_118 (rfl) rfl ?_
    rw [hb]
    refine bc_put dX10_result_5 fX10_17 ftX10 fpX10_8 rfl rfl (rfl) rfl ?_
    refine bc_aload_n dX10_result_8 rfl ?_
    refine bc_callV (z := mX10_fine) (ci := 10) dX10_result_9 lX10_147 qX10_fine (by rfl) (by rfl) (by rfl) (by rfl) (Nat.le_of_ble_eq_true rfl) (t_fineN h2) (fun r9 μ9 e9 => ?_)
    obtain ⟨rfl, q9⟩ := e9
    obtain rfl := q9.symm
    refine bc_if_eq (tgt := 19) dX10_result_12 (by decide) (fun h12 => ?_) (fun h12 => absurd h12 (fun q => q rfl))
    refine bc_aload_n dX10_result_19 rfl ?_
    refine bc_geti dX10_result_20 fX10_121 (rfl) rfl ?_
    rw [show bc_u μ 0 8 (nI z.2) 0 6 = nI z.1 from hk]
    refine bc_bipush (v := 10) dX10_result_23 (by decide) ?_
    refine bc_isub dX10_result_25 ?_
    exact bc_ireturn dX10_result_26 rfl rfl (⟨rfl, rfl⟩)
end T72
