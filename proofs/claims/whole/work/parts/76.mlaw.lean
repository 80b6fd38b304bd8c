/-! the reference: a law is read -/
def clR (μ : bc_M) (l : List Nat) : Prop := μ 0 34 = nI l.length ∧ ∀ i x, l[i]? = some x → cR (nI x) (μ 11 i) (μ 12 i)
def lm (t : Nat → Int32) (n : Nat) (S : TS) (l : List Nat) (op : Nat) (μ : bc_M) : Prop := rS t n S μ ∧ μ 0 7 = nI op ∧ ∀ p, S = .inr p → clR μ l
def Mok (t : Nat → Int32) (n D : Nat) (y : bc_Y) (as : List Value) (op : Nat) (F : LSt → LSt) : Prop := ∀ (μ : bc_M) (S : TS) (l : List Nat), lm t n S l op μ → (∀ p, S = .inr p → l.length ≤ p ∧ p ≤ n) → bc_C D LM y as μ (fun r ν => r = none ∧ rF μ ν ∧ lm t n (F (S, l)).1 (F (S, l)).2 op ν)
section T76
variable {d : Nat} {m μ ν M : bc_M} {n p op : Nat} {t : Nat → Int32}
theorem clR.mv {l : List Nat} (h : clR μ l) (hf : f456 μ ν) : clR ν l := by
  unfold clR at h ⊢
  rw [hf.2 34 (by omega) (by omega) (by omega), hf.1 11 (by decide), hf.1 12 (by decide)]
  exact h
theorem lm.mv {S S' : TS} {l : List Nat} (h : lm t n S l op μ) (hf : f456 μ ν) (hs : rS t n S' ν) (hS : ∀ p', S' = .inr p' → ∃ p, S = .inr p) : lm t n S' l op ν := ⟨hs, (hf.2 7 (by omega) (by omega) (by omega)).trans h.2.1, fun p' hp' => by
  obtain ⟨p, hp⟩ := hS p' hp'
  exact (h.2.2 p hp).mv hf⟩
theorem lm.inl {f : Nat × Nat} {l l' : List Nat} (h : lm t n (.inl f) l op μ) : lm t n (.inl f) l' op μ := ⟨h.1, h.2.1, fun p hp => by cases hp⟩
/-- it stands right at p -/
theorem lm.at' {l : List Nat} (h : lm t n (.inr p) l op μ) : lm t n (.inr p) l op (bc_u μ 0 4 (nI p)) := h.mv (f456.u (by omega)) h.1.at' (fun p' hp' => ⟨p, rfl⟩)
theorem lm.go {l : List Nat} {a : Nat} (h : lm t n (.inr p) l op μ) (ha : a ≤ n) : lm t n (.inr (skp t n a)) l op (bc_u μ 0 4 (nI a)) := by
  refine h.mv (f456.u (by omega)) ?_ (fun p' hp' => ⟨p, rfl⟩)
  obtain ⟨⟨h1, a0, -, -, h5, -⟩, -⟩ := h
  exact ⟨h1.mv (f456.u (by omega)), a, ha, by rw [bc_u_r, if_pos ⟨rfl, rfl⟩], by rw [bc_u_r, if_neg (by omega)]; exact h5, rfl⟩
theorem lm.o {S : TS} {l : List Nat} {op' : Nat} (h : lm t n S l op μ) : lm t n S l op' (bc_u μ 0 7 (nI op')) := by
  refine ⟨h.1.u (by decide), by rw [bc_u_r, if_pos ⟨rfl, rfl⟩], fun p hp => ?_⟩
  have := h.2.2 p hp
  unfold clR at this ⊢
  exact this
theorem t_emit {S : TS} {l : List Nat} {x : Nat} {c o : Int32} (h : lm t n S l op μ) (hx : ∀ p, S = .inr p → cR (nI x) c o ∧ l.length < 150) : bc_C (d + 1) LM mX10_emit [.ref 0, .int c, .int o] μ (fun r ν => r = none ∧ rF μ ν ∧ lm t n S (l ++ [x]) op ν) := by
  refine bc_enter (by decide) (Nat.le_of_ble_eq_true rfl) rfl ?_
  cases S with
  | inl f =>
    refine bc_aload_n dX10_emit_0 rfl ?_
    refine bc_callV (z := mX10_fine) (ci := 10) dX10_emit_1 lX10_147 qX10_fine (by rfl) (by rfl) (by rfl) (by rfl) (Nat.le_of_ble_eq_true rfl) (t_fineN h.1) (fun r1 μ1 e1 => ?_)
    obtain ⟨rfl, q1⟩ := e1
    obtain rfl := q1.symm
    refine bc_if_ne (tgt := 8) dX10_emit_4 (by decide) (fun h4 => absurd h4 (fun q => q rfl)) (fun h4 => ?_)
    exact bc_return dX10_emit_7 rfl (⟨rfl, rF.rf, h.inl⟩)
  | inr p =>
    obtain ⟨hc, h150⟩ := hx p rfl
    have hcl := h.2.2 p rfl
    have e34 := hcl.1
    refine bc_aload_n dX10_emit_0 rfl ?_
    refine bc_callV (z := mX10_fine) (ci := 10) dX10_emit_1 lX10_147 qX10_fine (by rfl) (by rfl) (by rfl) (by rfl) (Nat.le_of_ble_eq_true rfl) (t_fineY rfl h.1) (fun r1 μ1 e1 => ?_)
    obtain ⟨rfl, q1⟩ := e1
    obtain rfl := q1.symm
    refine bc_if_ne (tgt := 8) dX10_emit_4 (by decide) (fun h4 => ?_) (fun h4 => absurd h4 (by decide))
    refine bc_aload_n dX10_emit_8 rfl ?_
    refine bc_getr dX10_emit_9 fX10_47 (rfl) rfl ?_
    refine bc_aload_n dX10_emit_12 rfl ?_
    refine bc_geti dX10_emit_13 fX10_266 (rfl) rfl ?_
    rw [e34]
    refine bc_iload_n dX10_emit_16 rfl ?_
    refine bc_iastE dX10_emit_17 (rfl) (rfl) (⟨by omega, by decide⟩) ?_
    refine bc_aload_n dX10_emit_18 rfl ?_
    refine bc_getr dX10_emit_19 fX10_50 (rfl) rfl ?_
    refine bc_aload_n dX10_emit_22 rfl ?_
    refine bc_geti dX10_emit_23 fX10_266 (rfl) rfl ?_
    rw [show bc_u μ 11 l.length c 0 34 = nI l.length from e34]
    refine bc_iload_n dX10_emit_26 rfl ?_
    refine bc_iastE dX10_emit_27 (rfl) (rfl) (⟨by omega, by decide⟩) ?_
    refine bc_aload_n dX10_emit_28 rfl ?_
    refine bc_dup dX10_emit_29 rfl ?_
    refine bc_geti dX10_emit_30 fX10_266 (rfl) rfl ?_
    rw [show bc_u (bc_u μ 11 l.length c) 12 l.length o 0 34 = nI l.length from e34]
    refine bc_iconst (v := 1) dX10_emit_33 (by decide) ?_
    refine bc_iadd dX10_emit_34 ?_
    rw [bn_add1]
    refine bc_put dX10_emit_35 fX10_266 ftX10 fpX10_34 rfl rfl (rfl) rfl ?_
    exact bc_return dX10_emit_38 rfl (by
refine ⟨rfl, ((rF.ui (by omega)).tr (rF.ui (by omega))).tr (rF.u0 (by omega)), ((h.1.ua (by decide) (by decide)).ua (by decide) (by decide)).u (by decide), h.2.1, fun p' hp' => ⟨?_, fun i z hz => ?_⟩⟩
· rw [bc_u_r, if_pos ⟨rfl, rfl⟩, List.length_append]; rfl
· have e11 : bc_u (bc_u (bc_u μ 11 l.length c) 12 l.length o) 0 34 (nI (l.length + 1)) 11 = upd (μ 11) l.length c := by rw [bc_u_ne _ _ _ (by decide), bc_u_ne _ _ _ (by decide), bc_u_at]
  have e12 : bc_u (bc_u (bc_u μ 11 l.length c) 12 l.length o) 0 34 (nI (l.length + 1)) 12 = upd (μ 12) l.length o := by rw [bc_u_ne _ _ _ (by decide), bc_u_at, bc_u_ne _ _ _ (by decide)]
  rw [e11, e12]
  by_cases e : i = l.length
  · subst e
    rw [List.getElem?_append_right (Nat.le_refl _)] at hz
    simp at hz
    subst hz
    simp only [upd, if_true]
    exact hc
  · have hl : i < l.length := by
      have := (List.getElem?_eq_some_iff.mp hz).1
      rw [List.length_append] at this
      simp at this
      omega
    rw [List.getElem?_append_left hl] at hz
    simp only [upd, e, if_false]
    exact hcl.2 i z hz)
theorem t_opensN {f : Nat × Nat} {l : List Nat} {b : Int32} (h : lm t n (.inl f) l op μ) : bc_C (d + 1) LM mX10_opensOne [.ref 0, .int b] μ (fun r ν => r = none ∧ rF μ ν ∧ lm t n (.inl f) l (op + 1) ν) := by
  refine bc_enter (by decide) (Nat.le_of_ble_eq_true rfl) rfl ?_
  refine bc_aload_n dX10_opensOne_0 rfl ?_
  refine bc_callV (z := mX10_fine) (ci := 10) dX10_opensOne_1 lX10_147 qX10_fine (by rfl) (by rfl) (by rfl) (by rfl) (Nat.le_of_ble_eq_true rfl) (t_fineN h.1) (fun r1 μ1 e1 => ?_)
  obtain ⟨rfl, q1⟩ := e1
  obtain rfl := q1.symm
  refine bc_if_eq (tgt := 25) dX10_opensOne_4 (by decide) (fun h4 => ?_) (fun h4 => absurd h4 (fun q => q rfl))
  refine bc_aload_n dX10_opensOne_25 rfl ?_
  refine bc_callV (z := mX10_fine) (ci := 10) dX10_opensOne_26 lX10_147 qX10_fine (by rfl) (by rfl) (by rfl) (by rfl) (Nat.le_of_ble_eq_true rfl) (t_fineN h.1) (fun r26 μ26 e26 => ?_)
  obtain ⟨rfl, q26⟩ := e26
  obtain rfl := q26.symm
  refine bc_if_eq (tgt := 42) dX10_opensOne_29 (by decide) (fun h29 => ?_) (fun h29 => absurd h29 (fun q => q rfl))
  refine bc_aload_n dX10_opensOne_42 rfl ?_
  refine bc_dup dX10_opensOne_43 rfl ?_
  refine bc_geti dX10_opensOne_44 fX10_158 (rfl) rfl ?_
  rw [h.2.1]
  refine bc_iconst (v := 1) dX10_opensOne_47 (by decide) ?_
  refine bc_iadd dX10_opensOne_48 ?_
  rw [bn_add1]
  refine bc_put dX10_opensOne_49 fX10_158 ftX10 fpX10_7 rfl rfl (rfl) rfl ?_
  exact bc_return dX10_opensOne_52 rfl (⟨rfl, rF.u0 (by omega), h.o⟩)
theorem t_opensF {l : List Nat} {b : Int32} (h : lm t n (.inr p) l 6 μ) (hq4 : μ 0 4 = nI p) : bc_C (d + 1) LM mX10_opensOne [.ref 0, .int b] μ (fun r ν => r = none ∧ rF μ ν ∧ lm t n (.inl (3, p)) l 7 ν) := by
  refine bc_enter (by decide) (Nat.le_of_ble_eq_true rfl) rfl ?_
  have hpn := h.1.le
  refine bc_aload_n dX10_opensOne_0 rfl ?_
  refine bc_callV (z := mX10_fine) (ci := 10) dX10_opensOne_1 lX10_147 qX10_fine (by rfl) (by rfl) (by rfl) (by rfl) (Nat.le_of_ble_eq_true rfl) (t_fineY rfl h.1) (fun r1 μ1 e1 => ?_)
  obtain ⟨rfl, q1⟩ := e1
  obtain rfl := q1.symm
  refine bc_if_eq (tgt := 25) dX10_opensOne_4 (by decide) (fun h4 => absurd h4 (by decide)) (fun h4 => ?_)
  refine bc_aload_n dX10_opensOne_7 rfl ?_
  refine bc_geti dX10_opensOne_8 fX10_158 (rfl) rfl ?_
  refine bc_bipush (v := 6) dX10_opensOne_11 (by decide) ?_
  refine bc_icmp_ne (tgt := 25) dX10_opensOne_13 (by decide) (fun h13 => absurd h13 (fun q => q h.2.1)) (fun h13 => ?_)
  refine bc_aload_n dX10_opensOne_16 rfl ?_
  refine bc_iconst (v := 3) dX10_opensOne_17 (by decide) ?_
  refine bc_aload_n dX10_opensOne_18 rfl ?_
  refine bc_geti dX10_opensOne_19 fX10_124 (rfl) rfl ?_
  rw [hq4]
  refine bc_callV (z := mX10_wrong) (ci := 10) dX10_opensOne_22 lX10_154 qX10_wrong (by rfl) (by rfl) (by rfl) (by rfl) (Nat.le_of_ble_eq_true rfl) (t_wrongY (k := 3) h.1 hpn) (fun r22 μ22 e22 => ?_)
  obtain ⟨rfl, f22, s22, -⟩ := e22
  refine bc_aload_n dX10_opensOne_25 rfl ?_
  refine bc_callV (z := mX10_fine) (ci := 10) dX10_opensOne_26 lX10_147 qX10_fine (by rfl) (by rfl) (by rfl) (by rfl) (Nat.le_of_ble_eq_true rfl) (t_fineN s22) (fun r26 μ26 e26 => ?_)
  obtain ⟨rfl, q26⟩ := e26
  obtain rfl := q26.symm
  refine bc_if_eq (tgt := 42) dX10_opensOne_29 (by decide) (fun h29 => ?_) (fun h29 => absurd h29 (fun q => q rfl))
  refine bc_aload_n dX10_opensOne_42 rfl ?_
  refine bc_dup dX10_opensOne_43 rfl ?_
  refine bc_geti dX10_opensOne_44 fX10_158 (rfl) rfl ?_
  rw [show μ22 0 7 = nI 6 from (f22.2 7 (by omega) (by omega) (by omega)).trans h.2.1]
  refine bc_iconst (v := 1) dX10_opensOne_47 (by decide) ?_
  refine bc_iadd dX10_opensOne_48 ?_
  rw [bn_add1]
  refine bc_put dX10_opensOne_49 fX10_158 ftX10 fpX10_7 rfl rfl (rfl) rfl ?_
  exact bc_return dX10_opensOne_52 rfl (⟨rfl, f22.rF.tr (rF.u0 (by omega)), (h.mv f22 s22 (fun p' hp' => by cases hp')).o⟩)
theorem t_opensY {l : List Nat} {b : Nat} (hop : op < 6) (h : lm t n (.inr p) l op μ) (hq4 : μ 0 4 = nI p) (hb : p + b ≤ n) : bc_C (d + 1) LM mX10_opensOne [.ref 0, .int (nI b)] μ (fun r ν => r = none ∧ rF μ ν ∧ lm t n (.inr (skp t n (p + b))) l (op + 1) ν) := by
  refine bc_enter (by decide) (Nat.le_of_ble_eq_true rfl) rfl ?_
  have n6 : ¬ nI op = 6 := by rw [show (6 : Int32) = nI 6 from rfl, bn_eqN (by omega) (by omega)]; omega
  have hg := h.go hb
  refine bc_aload_n dX10_opensOne_0 rfl ?_
  refine bc_callV (z := mX10_fine) (ci := 10) dX10_opensOne_1 lX10_147 qX10_fine (by rfl) (by rfl) (by rfl) (by rfl) (Nat.le_of_ble_eq_true rfl) (t_fineY rfl h.1) (fun r1 μ1 e1 => ?_)
  obtain ⟨rfl, q1⟩ := e1
  obtain rfl := q1.symm
  refine bc_if_eq (tgt := 25) dX10_opensOne_4 (by decide) (fun h4 => absurd h4 (by decide)) (fun h4 => ?_)
  refine bc_aload_n dX10_opensOne_7 rfl ?_
  refine bc_geti dX10_opensOne_8 fX10_158 (rfl) rfl ?_
  rw [h.2.1]
  refine bc_bipush (v := 6) dX10_opensOne_11 (by decide) ?_
  refine bc_icmp_ne (tgt := 25) dX10_opensOne_13 (by decide) (fun h13 => ?_) (fun h13 => absurd h13 (n6))
  refine bc_aload_n dX10_opensOne_25 rfl ?_
  refine bc_callV (z := mX10_fine) (ci := 10) dX10_opensOne_26 lX10_147 qX10_fine (by rfl) (by rfl) (by rfl) (by rfl) (Nat.le_of_ble_eq_true rfl) (t_fineY rfl h.1) (fun r26 μ26 e26 => ?_)
  obtain ⟨rfl, q26⟩ := e26
  obtain rfl := q26.symm
  refine bc_if_eq (tgt := 42) dX10_opensOne_29 (by decide) (fun h29 => absurd h29 (by decide)) (fun h29 => ?_)
  refine bc_aload_n dX10_opensOne_32 rfl ?_
  refine bc_dup dX10_opensOne_33 rfl ?_
  refine bc_geti dX10_opensOne_34 fX10_124 (rfl) rfl ?_
  rw [hq4]
  refine bc_iload_n dX10_opensOne_37 rfl ?_
  refine bc_iadd dX10_opensOne_38 ?_
  rw [bn_add]
  refine bc_put dX10_opensOne_39 fX10_124 ftX10 fpX10_4 rfl rfl (rfl) rfl ?_
  refine bc_aload_n dX10_opensOne_42 rfl ?_
  refine bc_dup dX10_opensOne_43 rfl ?_
  refine bc_geti dX10_opensOne_44 fX10_158 (rfl) rfl ?_
  rw [show bc_u μ 0 4 (nI (p + b)) 0 7 = nI op from h.2.1]
  refine bc_iconst (v := 1) dX10_opensOne_47 (by decide) ?_
  refine bc_iadd dX10_opensOne_48 ?_
  rw [bn_add1]
  refine bc_put dX10_opensOne_49 fX10_158 ftX10 fpX10_7 rfl rfl (rfl) rfl ?_
  exact bc_return dX10_opensOne_52 rfl (⟨rfl, (rF.u0 (by omega)).tr (rF.u0 (by omega)), hg.o⟩)
/-! behind a fault nothing is read -/
theorem t_unitF {f : Nat × Nat} (h : rS t n (.inl f) μ) : bc_C (d + 1) LM mX10_readUnit [.ref 0] μ (fun r ν => r = none ∧ ν = μ) := by
  refine bc_enter (by decide) (Nat.le_of_ble_eq_true rfl) rfl ?_
  refine bc_aload_n dX10_readUnit_0 rfl ?_
  refine bc_callV (z := mX10_fine) (ci := 10) dX10_readUnit_1 lX10_147 qX10_fine (by rfl) (by rfl) (by rfl) (by rfl) (Nat.le_of_ble_eq_true rfl) (t_fineN h) (fun r1 μ1 e1 => ?_)
  obtain ⟨rfl, q1⟩ := e1
  obtain rfl := q1.symm
  refine bc_if_ne (tgt := 8) dX10_readUnit_4 (by decide) (fun h4 => absurd h4 (fun q => q rfl)) (fun h4 => ?_)
  exact bc_return dX10_readUnit_7 rfl (⟨rfl, rfl⟩)
theorem t_prodF {f : Nat × Nat} (h : rS t n (.inl f) μ) : bc_C (d + 2) LM mX10_readProduct [.ref 0] μ (fun r ν => r = none ∧ ν = μ) := by
  refine bc_enter (by decide) (Nat.le_of_ble_eq_true rfl) rfl ?_
  refine bc_aload_n dX10_readProduct_0 rfl ?_
  refine bc_callV (z := mX10_readUnit) (ci := 10) dX10_readProduct_1 lX10_275 qX10_readUnit (by rfl) (by rfl) (by rfl) (by rfl) (Nat.le_of_ble_eq_true rfl) (t_unitF h) (fun r1 μ1 e1 => ?_)
  obtain ⟨rfl, q1⟩ := e1
  obtain rfl := q1.symm
  refine bc_aload_n dX10_readProduct_4 rfl ?_
  refine bc_callV (z := mX10_fine) (ci := 10) dX10_readProduct_5 lX10_147 qX10_fine (by rfl) (by rfl) (by rfl) (by rfl) (Nat.le_of_ble_eq_true rfl) (t_fineN h) (fun r5 μ5 e5 => ?_)
  obtain ⟨rfl, q5⟩ := e5
  obtain rfl := q5.symm
  refine bc_if_eq (tgt := 90) dX10_readProduct_8 (by decide) (fun h8 => ?_) (fun h8 => absurd h8 (fun q => q rfl))
  exact bc_return dX10_readProduct_90 rfl (⟨rfl, rfl⟩)
theorem t_sumF {f : Nat × Nat} (h : rS t n (.inl f) μ) : bc_C (d + 3) LM mX10_readSum [.ref 0] μ (fun r ν => r = none ∧ ν = μ) := by
  refine bc_enter (by decide) (Nat.le_of_ble_eq_true rfl) rfl ?_
  refine bc_aload_n dX10_readSum_0 rfl ?_
  refine bc_callV (z := mX10_readProduct) (ci := 10) dX10_readSum_1 lX10_269 qX10_readProduct (by rfl) (by rfl) (by rfl) (by rfl) (Nat.le_of_ble_eq_true rfl) (t_prodF h) (fun r1 μ1 e1 => ?_)
  obtain ⟨rfl, q1⟩ := e1
  obtain rfl := q1.symm
  refine bc_aload_n dX10_readSum_4 rfl ?_
  refine bc_callV (z := mX10_fine) (ci := 10) dX10_readSum_5 lX10_147 qX10_fine (by rfl) (by rfl) (by rfl) (by rfl) (Nat.le_of_ble_eq_true rfl) (t_fineN h) (fun r5 μ5 e5 => ?_)
  obtain ⟨rfl, q5⟩ := e5
  obtain rfl := q5.symm
  refine bc_if_eq (tgt := 67) dX10_readSum_8 (by decide) (fun h8 => ?_) (fun h8 => absurd h8 (fun q => q rfl))
  exact bc_return dX10_readSum_67 rfl (⟨rfl, rfl⟩)
theorem t_prod {u : LSt → LSt} {D : Nat} (hn : n ≤ 150) (hu : good n u) (hU : Mok t n (D + 1) mX10_readUnit [.ref 0] op u) : Mok t n (D + 2) mX10_readProduct [.ref 0] op (pPr t n u) := by
  intro μ0 S0 l0 h0 hl0
  refine bc_enter (by decide) (Nat.le_of_ble_eq_true rfl) rfl ?_
  have loop : ∀ (k : Nat) (S : TS) (l : List Nat) (μ : bc_M) (v1 : Value), v1.category = 1 → lm t n S l op μ → rF μ0 μ → (∀ p, S = .inr p → l.length ≤ p ∧ p ≤ n ∧ n < p + k) → bc_W (D + 2) LM mX10_readProduct 4 [.ref 0, v1] [] μ (fun r ν => r = none ∧ rF μ0 ν ∧ lm t n (pLp t n ops3 u k (S, l)).1 (pLp t n ops3 u k (S, l)).2 op ν) := by
    intro k
    induction k with
    | zero =>
      intro S l μ v1 c1 h hf hl
      cases S with
      | inl f =>
        refine bc_aload_n dX10_readProduct_4 rfl ?_
        refine bc_callV (z := mX10_fine) (ci := 10) dX10_readProduct_5 lX10_147 qX10_fine (by rfl) (by rfl) (by rfl) (by rfl) (Nat.le_of_ble_eq_true rfl) (t_fineN h.1) (fun r5 μ5 e5 => ?_)
        obtain ⟨rfl, q5⟩ := e5
        obtain rfl := q5.symm
        refine bc_if_eq (tgt := 90) dX10_readProduct_8 (by decide) (fun h8 => ?_) (fun h8 => absurd h8 (fun q => q rfl))
        exact bc_return dX10_readProduct_90 rfl (⟨rfl, hf, h⟩)
      | inr p => have := hl p rfl; omega
    | succ k ih =>
      intro S l μ v1 c1 h hf hl
      cases S with
      | inl f =>
        refine bc_aload_n dX10_readProduct_4 rfl ?_
        refine bc_callV (z := mX10_fine) (ci := 10) dX10_readProduct_5 lX10_147 qX10_fine (by rfl) (by rfl) (by rfl) (by rfl) (Nat.le_of_ble_eq_true rfl) (t_fineN h.1) (fun r5 μ5 e5 => ?_)
        obtain ⟨rfl, q5⟩ := e5
        obtain rfl := q5.symm
        refine bc_if_eq (tgt := 90) dX10_readProduct_8 (by decide) (fun h8 => ?_) (fun h8 => absurd h8 (fun q => q rfl))
        exact bc_return dX10_readProduct_90 rfl (⟨rfl, hf, h⟩)
      | inr p =>
        obtain ⟨hl1, hl2, hl3⟩ := hl p rfl
        have hat := h.at'
        obtain ⟨μ1, hμ1⟩ : ∃ μ1, μ1 = bc_u μ 0 4 (nI p) := ⟨_, rfl⟩
        rw [← hμ1] at hat
        have hf1 : rF μ0 μ1 := by rw [hμ1]; exact hf.tr (rF.u0 (by omega))
        have q4 : μ1 0 4 = nI p := by rw [hμ1, bc_u_r, if_pos ⟨rfl, rfl⟩]
        have u4 : bc_u μ1 0 4 (nI p) = μ1 := u_self q4
        have e2 : μ1 2 = μ 2 := by rw [hμ1]; rfl
        have hx : ∀ c : Nat, 1 ≤ c → c < 128 → (hx (μ 2) n p = nI c ↔ p < n ∧ t p = nI c) := fun c h1 h2 => hx_eq h.1.1.2.2 h1 h2
        have x42 := hx 42 (by omega) (by omega)
        have x47 := hx 47 (by omega) (by omega)
        have x37 := hx 37 (by omega) (by omega)
        have hop := opL3 (n := n) (t := t) (p := p)
        have step : ∀ (c : Nat) (code : Int32), opL t n ops3 p = some c → cR (nI c) code 0 → bc_W (D + 2) LM mX10_readProduct 66 [.ref 0, v1] [.int code] μ1 (fun r ν => r = none ∧ rF μ0 ν ∧ lm t n (pLp t n ops3 u (k + 1) (.inr p, l)).1 (pLp t n ops3 u (k + 1) (.inr p, l)).2 op ν) := by
          intro c code hc hcr
          obtain ⟨hpn, -, -⟩ := opL_ok hc ops3_ok
          have hgo := hat.go (a := p + 1) (by omega)
          have hsk : p + 1 ≤ skp t n (p + 1) := rn_ge _ _ _ _
          have hsn : skp t n (p + 1) ≤ n := rn_le (by omega)
          have e : pLp t n ops3 u (k + 1) (.inr p, l) = pLp t n ops3 u k ((u (.inr (skp t n (p + 1)), l)).1, (u (.inr (skp t n (p + 1)), l)).2 ++ [c]) := by
            rw [pLp, hc]
          rw [e]
          have hgd : ∀ p', (u (.inr (skp t n (p + 1)), l)).1 = .inr p' → (u (.inr (skp t n (p + 1)), l)).2.length + 1 ≤ p' ∧ p' ≤ n ∧ p + 1 < p' := fun p' hp' => by
            obtain ⟨p0, e0, g1, g2, -, g3, g4, g5⟩ := hu.2 (.inr (skp t n (p + 1))) l p' (fun z hz => by cases hz; exact hsn) hp'
            cases g1
            rw [g2, List.length_append]
            omega
          refine bc_istore_n dX10_readProduct_66 (by decide) rfl ?_
          refine bc_aload_n dX10_readProduct_67 rfl ?_
          refine bc_dup dX10_readProduct_68 rfl ?_
          refine bc_geti dX10_readProduct_69 fX10_124 (rfl) rfl ?_
          rw [q4]
          refine bc_iconst (v := 1) dX10_readProduct_72 (by decide) ?_
          refine bc_iadd dX10_readProduct_73 ?_
          rw [bn_add1]
          refine bc_put dX10_readProduct_74 fX10_124 ftX10 fpX10_4 rfl rfl (rfl) rfl ?_
          refine bc_aload_n dX10_readProduct_77 rfl ?_
          refine bc_callV (z := mX10_readUnit) (ci := 10) dX10_readProduct_78 lX10_275 qX10_readUnit (by rfl) (by rfl) (by rfl) (by rfl) (Nat.le_of_ble_eq_true rfl) (hU _ _ l hgo (fun z hz => by cases hz; omega)) (fun r78 μ78 e78 => ?_)
          obtain ⟨rfl, f78, s78⟩ := e78
          refine bc_aload_n dX10_readProduct_81 rfl ?_
          refine bc_iload_n dX10_readProduct_82 rfl ?_
          refine bc_iconst (v := 0) dX10_readProduct_83 (by decide) ?_
          refine bc_callV (z := mX10_emit) (ci := 10) dX10_readProduct_84 lX10_272 qX10_emit (by rfl) (by rfl) (by rfl) (by rfl) (Nat.le_of_ble_eq_true rfl) (t_emit (x := c) (l := (u (.inr (skp t n (p + 1)), l)).2) s78 (fun p' hp' => ⟨hcr, by have := hgd p' hp'; omega⟩)) (fun r84 μ84 e84 => ?_)
          obtain ⟨rfl, f84, s84⟩ := e84
          refine bc_goto (tgt := 4) dX10_readProduct_87 (by decide) ?_
          exact ih _ _ _ _ rfl s84 (((hf1.tr (rF.u0 (by omega))).tr f78).tr f84) (fun p' hp' => by have := hgd p' hp'; rw [List.length_append]; exact ⟨by simpa using this.1, this.2.1, by omega⟩)
        by_cases h1 : p < n ∧ t p = nI 42
        · have hc : opL t n ops3 p = some 1009 := by rw [hop]; exact if_pos h1
          refine bc_aload_n dX10_readProduct_4 rfl ?_
          refine bc_callV (z := mX10_fine) (ci := 10) dX10_readProduct_5 lX10_147 qX10_fine (by rfl) (by rfl) (by rfl) (by rfl) (Nat.le_of_ble_eq_true rfl) (t_fineY rfl h.1) (fun r5 μ5 e5 => ?_)
          obtain ⟨rfl, q5⟩ := e5
          obtain rfl := q5.symm
          refine bc_if_eq (tgt := 90) dX10_readProduct_8 (by decide) (fun h8 => absurd h8 (by decide)) (fun h8 => ?_)
          refine bc_aload_n dX10_readProduct_11 rfl ?_
          refine bc_callV (z := mX10_here) (ci := 10) dX10_readProduct_12 lX10_130 qX10_here (by rfl) (by rfl) (by rfl) (by rfl) (Nat.le_of_ble_eq_true rfl) (t_here h.1) (fun r12 μ12 e12 => ?_)
          obtain ⟨rfl, q12⟩ := e12
          obtain rfl := q12.symm
          rw [x42.mpr h1, ← hμ1]
          refine bc_bipush (v := 42) dX10_readProduct_15 (by decide) ?_
          refine bc_icmp_eq (tgt := 38) dX10_readProduct_17 (by decide) (fun h17 => ?_) (fun h17 => absurd h17 (fun q => q rfl))
          refine bc_aload_n dX10_readProduct_38 rfl ?_
          refine bc_callV (z := mX10_here) (ci := 10) dX10_readProduct_39 lX10_130 qX10_here (by rfl) (by rfl) (by rfl) (by rfl) (Nat.le_of_ble_eq_true rfl) (t_here hat.1) (fun r39 μ39 e39 => ?_)
          obtain ⟨rfl, q39⟩ := e39
          obtain rfl := q39.symm
          rw [e2, x42.mpr h1, u4]
          refine bc_bipush (v := 42) dX10_readProduct_42 (by decide) ?_
          refine bc_icmp_ne (tgt := 51) dX10_readProduct_44 (by decide) (fun h44 => absurd h44 (fun q => q rfl)) (fun h44 => ?_)
          refine bc_iconst (v := 4) dX10_readProduct_47 (by decide) ?_
          refine bc_goto (tgt := 66) dX10_readProduct_48 (by decide) ?_
          exact step 1009 4 hc (by unfold cR; decide)
        · have hc1 : opL t n ops3 p = if p < n ∧ t p = 47 then some 1010 else if p < n ∧ t p = 37 then some 1011 else none := by rw [hop]; exact if_neg h1
          by_cases h2 : p < n ∧ t p = nI 47
          · have hc : opL t n ops3 p = some 1010 := by rw [hc1]; exact if_pos h2
            refine bc_aload_n dX10_readProduct_4 rfl ?_
            refine bc_callV (z := mX10_fine) (ci := 10) dX10_readProduct_5 lX10_147 qX10_fine (by rfl) (by rfl) (by rfl) (by rfl) (Nat.le_of_ble_eq_true rfl) (t_fineY rfl h.1) (fun r5 μ5 e5 => ?_)
            obtain ⟨rfl, q5⟩ := e5
            obtain rfl := q5.symm
            refine bc_if_eq (tgt := 90) dX10_readProduct_8 (by decide) (fun h8 => absurd h8 (by decide)) (fun h8 => ?_)
            refine bc_aload_n dX10_readProduct_11 rfl ?_
            refine bc_callV (z := mX10_here) (ci := 10) dX10_readProduct_12 lX10_130 qX10_here (by rfl) (by rfl) (by rfl) (by rfl) (Nat.le_of_ble_eq_true rfl) (t_here h.1) (fun r12 μ12 e12 => ?_)
            obtain ⟨rfl, q12⟩ := e12
            obtain rfl := q12.symm
            rw [x47.mpr h2, ← hμ1]
            refine bc_bipush (v := 42) dX10_readProduct_15 (by decide) ?_
            refine bc_icmp_eq (tgt := 38) dX10_readProduct_17 (by decide) (fun h17 => absurd h17 (by decide)) (fun h17 => ?_)
            refine bc_aload_n dX10_readProduct_20 rfl ?_
            refine bc_callV (z := mX10_here) (ci := 10) dX10_readProduct_21 lX10_130 qX10_here (by rfl) (by rfl) (by rfl) (by rfl) (Nat.le_of_ble_eq_true rfl) (t_here hat.1) (fun r21 μ21 e21 => ?_)
            obtain ⟨rfl, q21⟩ := e21
            obtain rfl := q21.symm
            rw [e2, x47.mpr h2, u4]
            refine bc_bipush (v := 47) dX10_readProduct_24 (by decide) ?_
            refine bc_icmp_eq (tgt := 38) dX10_readProduct_26 (by decide) (fun h26 => ?_) (fun h26 => absurd h26 (fun q => q rfl))
            refine bc_aload_n dX10_readProduct_38 rfl ?_
            refine bc_callV (z := mX10_here) (ci := 10) dX10_readProduct_39 lX10_130 qX10_here (by rfl) (by rfl) (by rfl) (by rfl) (Nat.le_of_ble_eq_true rfl) (t_here hat.1) (fun r39 μ39 e39 => ?_)
            obtain ⟨rfl, q39⟩ := e39
            obtain rfl := q39.symm
            rw [e2, x47.mpr h2, u4]
            refine bc_bipush (v := 42) dX10_readProduct_42 (by decide) ?_
            refine bc_icmp_ne (tgt := 51) dX10_readProduct_44 (by decide) (fun h44 => ?_) (fun h44 => absurd h44 (by decide))
            refine bc_aload_n dX10_readProduct_51 rfl ?_
            refine bc_callV (z := mX10_here) (ci := 10) dX10_readProduct_52 lX10_130 qX10_here (by rfl) (by rfl) (by rfl) (by rfl) (Nat.le_of_ble_eq_true rfl) (t_here hat.1) (fun r52 μ52 e52 => ?_)
            obtain ⟨rfl, q52⟩ := e52
            obtain rfl := q52.symm
            rw [e2, x47.mpr h2, u4]
            refine bc_bipush (v := 47) dX10_readProduct_55 (by decide) ?_
            refine bc_icmp_ne (tgt := 64) dX10_readProduct_57 (by decide) (fun h57 => absurd h57 (fun q => q rfl)) (fun h57 => ?_)
            refine bc_iconst (v := 5) dX10_readProduct_60 (by decide) ?_
            refine bc_goto (tgt := 66) dX10_readProduct_61 (by decide) ?_
            exact step 1010 5 hc (by unfold cR; decide)
          · have hc2 : opL t n ops3 p = if p < n ∧ t p = 37 then some 1011 else none := by rw [hc1]; exact if_neg h2
            by_cases h3 : p < n ∧ t p = nI 37
            · have hc : opL t n ops3 p = some 1011 := by rw [hc2]; exact if_pos h3
              refine bc_aload_n dX10_readProduct_4 rfl ?_
              refine bc_callV (z := mX10_fine) (ci := 10) dX10_readProduct_5 lX10_147 qX10_fine (by rfl) (by rfl) (by rfl) (by rfl) (Nat.le_of_ble_eq_true rfl) (t_fineY rfl h.1) (fun r5 μ5 e5 => ?_)
              obtain ⟨rfl, q5⟩ := e5
              obtain rfl := q5.symm
              refine bc_if_eq (tgt := 90) dX10_readProduct_8 (by decide) (fun h8 => absurd h8 (by decide)) (fun h8 => ?_)
              refine bc_aload_n dX10_readProduct_11 rfl ?_
              refine bc_callV (z := mX10_here) (ci := 10) dX10_readProduct_12 lX10_130 qX10_here (by rfl) (by rfl) (by rfl) (by rfl) (Nat.le_of_ble_eq_true rfl) (t_here h.1) (fun r12 μ12 e12 => ?_)
              obtain ⟨rfl, q12⟩ := e12
              obtain rfl := q12.symm
              rw [x37.mpr h3, ← hμ1]
              refine bc_bipush (v := 42) dX10_readProduct_15 (by decide) ?_
              refine bc_icmp_eq (tgt := 38) dX10_readProduct_17 (by decide) (fun h17 => absurd h17 (by decide)) (fun h17 => ?_)
              refine bc_aload_n dX10_readProduct_20 rfl ?_
              refine bc_callV (z := mX10_here) (ci := 10) dX10_readProduct_21 lX10_130 qX10_here (by rfl) (by rfl) (by rfl) (by rfl) (Nat.le_of_ble_eq_true rfl) (t_here hat.1) (fun r21 μ21 e21 => ?_)
              obtain ⟨rfl, q21⟩ := e21
              obtain rfl := q21.symm
              rw [e2, x37.mpr h3, u4]
              refine bc_bipush (v := 47) dX10_readProduct_24 (by decide) ?_
              refine bc_icmp_eq (tgt := 38) dX10_readProduct_26 (by decide) (fun h26 => absurd h26 (by decide)) (fun h26 => ?_)
              refine bc_aload_n dX10_readProduct_29 rfl ?_
              refine bc_callV (z := mX10_here) (ci := 10) dX10_readProduct_30 lX10_130 qX10_here (by rfl) (by rfl) (by rfl) (by rfl) (Nat.le_of_ble_eq_true rfl) (t_here hat.1) (fun r30 μ30 e30 => ?_)
              obtain ⟨rfl, q30⟩ := e30
              obtain rfl := q30.symm
              rw [e2, x37.mpr h3, u4]
              refine bc_bipush (v := 37) dX10_readProduct_33 (by decide) ?_
              refine bc_icmp_ne (tgt := 90) dX10_readProduct_35 (by decide) (fun h35 => absurd h35 (fun q => q rfl)) (fun h35 => ?_)
              refine bc_aload_n dX10_readProduct_38 rfl ?_
              refine bc_callV (z := mX10_here) (ci := 10) dX10_readProduct_39 lX10_130 qX10_here (by rfl) (by rfl) (by rfl) (by rfl) (Nat.le_of_ble_eq_true rfl) (t_here hat.1) (fun r39 μ39 e39 => ?_)
              obtain ⟨rfl, q39⟩ := e39
              obtain rfl := q39.symm
              rw [e2, x37.mpr h3, u4]
              refine bc_bipush (v := 42) dX10_readProduct_42 (by decide) ?_
              refine bc_icmp_ne (tgt := 51) dX10_readProduct_44 (by decide) (fun h44 => ?_) (fun h44 => absurd h44 (by decide))
              refine bc_aload_n dX10_readProduct_51 rfl ?_
              refine bc_callV (z := mX10_here) (ci := 10) dX10_readProduct_52 lX10_130 qX10_here (by rfl) (by rfl) (by rfl) (by rfl) (Nat.le_of_ble_eq_true rfl) (t_here hat.1) (fun r52 μ52 e52 => ?_)
              obtain ⟨rfl, q52⟩ := e52
              obtain rfl := q52.symm
              rw [e2, x37.mpr h3, u4]
              refine bc_bipush (v := 47) dX10_readProduct_55 (by decide) ?_
              refine bc_icmp_ne (tgt := 64) dX10_readProduct_57 (by decide) (fun h57 => ?_) (fun h57 => absurd h57 (by decide))
              refine bc_bipush (v := 8) dX10_readProduct_64 (by decide) ?_
              exact step 1011 8 hc (by unfold cR; decide)
            · have hc : opL t n ops3 p = none := by rw [hc2]; exact if_neg h3
              have e : pLp t n ops3 u (k + 1) (.inr p, l) = (.inr p, l) := by rw [pLp, hc]
              rw [e]
              refine bc_aload_n dX10_readProduct_4 rfl ?_
              refine bc_callV (z := mX10_fine) (ci := 10) dX10_readProduct_5 lX10_147 qX10_fine (by rfl) (by rfl) (by rfl) (by rfl) (Nat.le_of_ble_eq_true rfl) (t_fineY rfl h.1) (fun r5 μ5 e5 => ?_)
              obtain ⟨rfl, q5⟩ := e5
              obtain rfl := q5.symm
              refine bc_if_eq (tgt := 90) dX10_readProduct_8 (by decide) (fun h8 => absurd h8 (by decide)) (fun h8 => ?_)
              refine bc_aload_n dX10_readProduct_11 rfl ?_
              refine bc_callV (z := mX10_here) (ci := 10) dX10_readProduct_12 lX10_130 qX10_here (by rfl) (by rfl) (by rfl) (by rfl) (Nat.le_of_ble_eq_true rfl) (t_here h.1) (fun r12 μ12 e12 => ?_)
              obtain ⟨rfl, q12⟩ := e12
              obtain rfl := q12.symm
              rw [← hμ1]
              refine bc_bipush (v := 42) dX10_readProduct_15 (by decide) ?_
              refine bc_icmp_eq (tgt := 38) dX10_readProduct_17 (by decide) (fun h17 => absurd h17 (fun q => h1 (x42.mp q))) (fun h17 => ?_)
              refine bc_aload_n dX10_readProduct_20 rfl ?_
              refine bc_callV (z := mX10_here) (ci := 10) dX10_readProduct_21 lX10_130 qX10_here (by rfl) (by rfl) (by rfl) (by rfl) (Nat.le_of_ble_eq_true rfl) (t_here hat.1) (fun r21 μ21 e21 => ?_)
              obtain ⟨rfl, q21⟩ := e21
              obtain rfl := q21.symm
              rw [e2, u4]
              refine bc_bipush (v := 47) dX10_readProduct_24 (by decide) ?_
              refine bc_icmp_eq (tgt := 38) dX10_readProduct_26 (by decide) (fun h26 => absurd h26 (fun q => h2 (x47.mp q))) (fun h26 => ?_)
              refine bc_aload_n dX10_readProduct_29 rfl ?_
              refine bc_callV (z := mX10_here) (ci := 10) dX10_readProduct_30 lX10_130 qX10_here (by rfl) (by rfl) (by rfl) (by rfl) (Nat.le_of_ble_eq_true rfl) (t_here hat.1) (fun r30 μ30 e30 => ?_)
              obtain ⟨rfl, q30⟩ := e30
              obtain rfl := q30.symm
              rw [e2, u4]
              refine bc_bipush (v := 37) dX10_readProduct_33 (by decide) ?_
              refine bc_icmp_ne (tgt := 90) dX10_readProduct_35 (by decide) (fun h35 => ?_) (fun h35 => absurd h35 (fun q => h3 (x37.mp q)))
              exact bc_return dX10_readProduct_90 rfl (⟨rfl, hf1, hat⟩)
  have hgd : ∀ p', (u (S0, l0)).1 = .inr p' → (u (S0, l0)).2.length ≤ p' ∧ p' ≤ n ∧ n < p' + 150 := fun p' hp' => by
    obtain ⟨p0, e0, g1, g2, -, g3, g4, g5⟩ := hu.2 S0 l0 p' (fun z hz => (hl0 z hz).2) hp'
    have := hl0 p0 g1
    rw [g2, List.length_append]
    omega
  refine bc_aload_n dX10_readProduct_0 rfl ?_
  refine bc_callV (z := mX10_readUnit) (ci := 10) dX10_readProduct_1 lX10_275 qX10_readUnit (by rfl) (by rfl) (by rfl) (by rfl) (Nat.le_of_ble_eq_true rfl) (hU _ S0 l0 h0 hl0) (fun r1 μ1 e1 => ?_)
  obtain ⟨rfl, f1, s1⟩ := e1
  exact loop 150 _ _ _ _ rfl s1 f1 hgd
theorem t_sum {u : LSt → LSt} {D : Nat} (hn : n ≤ 150) (hu : good n u) (hU : Mok t n (D + 1) mX10_readProduct [.ref 0] op u) : Mok t n (D + 2) mX10_readSum [.ref 0] op (fun s => pLp t n ops2 u 150 (u s)) := by
  intro μ0 S0 l0 h0 hl0
  refine bc_enter (by decide) (Nat.le_of_ble_eq_true rfl) rfl ?_
  have loop : ∀ (k : Nat) (S : TS) (l : List Nat) (μ : bc_M) (v1 : Value), v1.category = 1 → lm t n S l op μ → rF μ0 μ → (∀ p, S = .inr p → l.length ≤ p ∧ p ≤ n ∧ n < p + k) → bc_W (D + 2) LM mX10_readSum 4 [.ref 0, v1] [] μ (fun r ν => r = none ∧ rF μ0 ν ∧ lm t n (pLp t n ops2 u k (S, l)).1 (pLp t n ops2 u k (S, l)).2 op ν) := by
    intro k
    induction k with
    | zero =>
      intro S l μ v1 c1 h hf hl
      cases S with
      | inl f =>
        refine bc_aload_n dX10_readSum_4 rfl ?_
        refine bc_callV (z := mX10_fine) (ci := 10) dX10_readSum_5 lX10_147 qX10_fine (by rfl) (by rfl) (by rfl) (by rfl) (Nat.le_of_ble_eq_true rfl) (t_fineN h.1) (fun r5 μ5 e5 => ?_)
        obtain ⟨rfl, q5⟩ := e5
        obtain rfl := q5.symm
        refine bc_if_eq (tgt := 67) dX10_readSum_8 (by decide) (fun h8 => ?_) (fun h8 => absurd h8 (fun q => q rfl))
        exact bc_return dX10_readSum_67 rfl (⟨rfl, hf, h⟩)
      | inr p => have := hl p rfl; omega
    | succ k ih =>
      intro S l μ v1 c1 h hf hl
      cases S with
      | inl f =>
        refine bc_aload_n dX10_readSum_4 rfl ?_
        refine bc_callV (z := mX10_fine) (ci := 10) dX10_readSum_5 lX10_147 qX10_fine (by rfl) (by rfl) (by rfl) (by rfl) (Nat.le_of_ble_eq_true rfl) (t_fineN h.1) (fun r5 μ5 e5 => ?_)
        obtain ⟨rfl, q5⟩ := e5
        obtain rfl := q5.symm
        refine bc_if_eq (tgt := 67) dX10_readSum_8 (by decide) (fun h8 => ?_) (fun h8 => absurd h8 (fun q => q rfl))
        exact bc_return dX10_readSum_67 rfl (⟨rfl, hf, h⟩)
      | inr p =>
        obtain ⟨hl1, hl2, hl3⟩ := hl p rfl
        have hat := h.at'
        obtain ⟨μ1, hμ1⟩ : ∃ μ1, μ1 = bc_u μ 0 4 (nI p) := ⟨_, rfl⟩
        rw [← hμ1] at hat
        have hf1 : rF μ0 μ1 := by rw [hμ1]; exact hf.tr (rF.u0 (by omega))
        have q4 : μ1 0 4 = nI p := by rw [hμ1, bc_u_r, if_pos ⟨rfl, rfl⟩]
        have u4 : bc_u μ1 0 4 (nI p) = μ1 := u_self q4
        have e2 : μ1 2 = μ 2 := by rw [hμ1]; rfl
        have hx : ∀ c : Nat, 1 ≤ c → c < 128 → (hx (μ 2) n p = nI c ↔ p < n ∧ t p = nI c) := fun c h1 h2 => hx_eq h.1.1.2.2 h1 h2
        have x43 := hx 43 (by omega) (by omega)
        have x45 := hx 45 (by omega) (by omega)
        have hop := opL2 (n := n) (t := t) (p := p)
        have step : ∀ (c : Nat) (code : Int32), opL t n ops2 p = some c → cR (nI c) code 0 → bc_W (D + 2) LM mX10_readSum 43 [.ref 0, v1] [.int code] μ1 (fun r ν => r = none ∧ rF μ0 ν ∧ lm t n (pLp t n ops2 u (k + 1) (.inr p, l)).1 (pLp t n ops2 u (k + 1) (.inr p, l)).2 op ν) := by
          intro c code hc hcr
          obtain ⟨hpn, -, -⟩ := opL_ok hc ops2_ok
          have hgo := hat.go (a := p + 1) (by omega)
          have hsk : p + 1 ≤ skp t n (p + 1) := rn_ge _ _ _ _
          have hsn : skp t n (p + 1) ≤ n := rn_le (by omega)
          have e : pLp t n ops2 u (k + 1) (.inr p, l) = pLp t n ops2 u k ((u (.inr (skp t n (p + 1)), l)).1, (u (.inr (skp t n (p + 1)), l)).2 ++ [c]) := by
            rw [pLp, hc]
          rw [e]
          have hgd : ∀ p', (u (.inr (skp t n (p + 1)), l)).1 = .inr p' → (u (.inr (skp t n (p + 1)), l)).2.length + 1 ≤ p' ∧ p' ≤ n ∧ p + 1 < p' := fun p' hp' => by
            obtain ⟨p0, e0, g1, g2, -, g3, g4, g5⟩ := hu.2 (.inr (skp t n (p + 1))) l p' (fun z hz => by cases hz; exact hsn) hp'
            cases g1
            rw [g2, List.length_append]
            omega
          refine bc_istore_n dX10_readSum_43 (by decide) rfl ?_
          refine bc_aload_n dX10_readSum_44 rfl ?_
          refine bc_dup dX10_readSum_45 rfl ?_
          refine bc_geti dX10_readSum_46 fX10_124 (rfl) rfl ?_
          rw [q4]
          refine bc_iconst (v := 1) dX10_readSum_49 (by decide) ?_
          refine bc_iadd dX10_readSum_50 ?_
          rw [bn_add1]
          refine bc_put dX10_readSum_51 fX10_124 ftX10 fpX10_4 rfl rfl (rfl) rfl ?_
          refine bc_aload_n dX10_readSum_54 rfl ?_
          refine bc_callV (z := mX10_readProduct) (ci := 10) dX10_readSum_55 lX10_269 qX10_readProduct (by rfl) (by rfl) (by rfl) (by rfl) (Nat.le_of_ble_eq_true rfl) (hU _ _ l hgo (fun z hz => by cases hz; omega)) (fun r55 μ55 e55 => ?_)
          obtain ⟨rfl, f78, s78⟩ := e55
          refine bc_aload_n dX10_readSum_58 rfl ?_
          refine bc_iload_n dX10_readSum_59 rfl ?_
          refine bc_iconst (v := 0) dX10_readSum_60 (by decide) ?_
          refine bc_callV (z := mX10_emit) (ci := 10) dX10_readSum_61 lX10_272 qX10_emit (by rfl) (by rfl) (by rfl) (by rfl) (Nat.le_of_ble_eq_true rfl) (t_emit (x := c) (l := (u (.inr (skp t n (p + 1)), l)).2) s78 (fun p' hp' => ⟨hcr, by have := hgd p' hp'; omega⟩)) (fun r61 μ61 e61 => ?_)
          obtain ⟨rfl, f84, s84⟩ := e61
          refine bc_goto (tgt := 4) dX10_readSum_64 (by decide) ?_
          exact ih _ _ _ _ rfl s84 (((hf1.tr (rF.u0 (by omega))).tr f78).tr f84) (fun p' hp' => by have := hgd p' hp'; rw [List.length_append]; exact ⟨by simpa using this.1, this.2.1, by omega⟩)
        by_cases h1 : p < n ∧ t p = nI 43
        · have hc : opL t n ops2 p = some 1007 := by rw [hop]; exact if_pos h1
          refine bc_aload_n dX10_readSum_4 rfl ?_
          refine bc_callV (z := mX10_fine) (ci := 10) dX10_readSum_5 lX10_147 qX10_fine (by rfl) (by rfl) (by rfl) (by rfl) (Nat.le_of_ble_eq_true rfl) (t_fineY rfl h.1) (fun r5 μ5 e5 => ?_)
          obtain ⟨rfl, q5⟩ := e5
          obtain rfl := q5.symm
          refine bc_if_eq (tgt := 67) dX10_readSum_8 (by decide) (fun h8 => absurd h8 (by decide)) (fun h8 => ?_)
          refine bc_aload_n dX10_readSum_11 rfl ?_
          refine bc_callV (z := mX10_here) (ci := 10) dX10_readSum_12 lX10_130 qX10_here (by rfl) (by rfl) (by rfl) (by rfl) (Nat.le_of_ble_eq_true rfl) (t_here h.1) (fun r12 μ12 e12 => ?_)
          obtain ⟨rfl, q12⟩ := e12
          obtain rfl := q12.symm
          rw [x43.mpr h1, ← hμ1]
          refine bc_bipush (v := 43) dX10_readSum_15 (by decide) ?_
          refine bc_icmp_eq (tgt := 29) dX10_readSum_17 (by decide) (fun h17 => ?_) (fun h17 => absurd h17 (fun q => q rfl))
          refine bc_aload_n dX10_readSum_29 rfl ?_
          refine bc_callV (z := mX10_here) (ci := 10) dX10_readSum_30 lX10_130 qX10_here (by rfl) (by rfl) (by rfl) (by rfl) (Nat.le_of_ble_eq_true rfl) (t_here hat.1) (fun r30 μ30 e30 => ?_)
          obtain ⟨rfl, q30⟩ := e30
          obtain rfl := q30.symm
          rw [e2, x43.mpr h1, u4]
          refine bc_bipush (v := 43) dX10_readSum_33 (by decide) ?_
          refine bc_icmp_ne (tgt := 42) dX10_readSum_35 (by decide) (fun h35 => absurd h35 (fun q => q rfl)) (fun h35 => ?_)
          refine bc_iconst (v := 2) dX10_readSum_38 (by decide) ?_
          refine bc_goto (tgt := 43) dX10_readSum_39 (by decide) ?_
          exact step 1007 2 hc (by unfold cR; decide)
        · have hc1 : opL t n ops2 p = if p < n ∧ t p = 45 then some 1008 else none := by rw [hop]; exact if_neg h1
          by_cases h2 : p < n ∧ t p = nI 45
          · have hc : opL t n ops2 p = some 1008 := by rw [hc1]; exact if_pos h2
            refine bc_aload_n dX10_readSum_4 rfl ?_
            refine bc_callV (z := mX10_fine) (ci := 10) dX10_readSum_5 lX10_147 qX10_fine (by rfl) (by rfl) (by rfl) (by rfl) (Nat.le_of_ble_eq_true rfl) (t_fineY rfl h.1) (fun r5 μ5 e5 => ?_)
            obtain ⟨rfl, q5⟩ := e5
            obtain rfl := q5.symm
            refine bc_if_eq (tgt := 67) dX10_readSum_8 (by decide) (fun h8 => absurd h8 (by decide)) (fun h8 => ?_)
            refine bc_aload_n dX10_readSum_11 rfl ?_
            refine bc_callV (z := mX10_here) (ci := 10) dX10_readSum_12 lX10_130 qX10_here (by rfl) (by rfl) (by rfl) (by rfl) (Nat.le_of_ble_eq_true rfl) (t_here h.1) (fun r12 μ12 e12 => ?_)
            obtain ⟨rfl, q12⟩ := e12
            obtain rfl := q12.symm
            rw [x45.mpr h2, ← hμ1]
            refine bc_bipush (v := 43) dX10_readSum_15 (by decide) ?_
            refine bc_icmp_eq (tgt := 29) dX10_readSum_17 (by decide) (fun h17 => absurd h17 (by decide)) (fun h17 => ?_)
            refine bc_aload_n dX10_readSum_20 rfl ?_
            refine bc_callV (z := mX10_here) (ci := 10) dX10_readSum_21 lX10_130 qX10_here (by rfl) (by rfl) (by rfl) (by rfl) (Nat.le_of_ble_eq_true rfl) (t_here hat.1) (fun r21 μ21 e21 => ?_)
            obtain ⟨rfl, q21⟩ := e21
            obtain rfl := q21.symm
            rw [e2, x45.mpr h2, u4]
            refine bc_bipush (v := 45) dX10_readSum_24 (by decide) ?_
            refine bc_icmp_ne (tgt := 67) dX10_readSum_26 (by decide) (fun h26 => absurd h26 (fun q => q rfl)) (fun h26 => ?_)
            refine bc_aload_n dX10_readSum_29 rfl ?_
            refine bc_callV (z := mX10_here) (ci := 10) dX10_readSum_30 lX10_130 qX10_here (by rfl) (by rfl) (by rfl) (by rfl) (Nat.le_of_ble_eq_true rfl) (t_here hat.1) (fun r30 μ30 e30 => ?_)
            obtain ⟨rfl, q30⟩ := e30
            obtain rfl := q30.symm
            rw [e2, x45.mpr h2, u4]
            refine bc_bipush (v := 43) dX10_readSum_33 (by decide) ?_
            refine bc_icmp_ne (tgt := 42) dX10_readSum_35 (by decide) (fun h35 => ?_) (fun h35 => absurd h35 (by decide))
            refine bc_iconst (v := 3) dX10_readSum_42 (by decide) ?_
            exact step 1008 3 hc (by unfold cR; decide)
          · have hc : opL t n ops2 p = none := by rw [hc1]; exact if_neg h2
            have e : pLp t n ops2 u (k + 1) (.inr p, l) = (.inr p, l) := by rw [pLp, hc]
            rw [e]
            refine bc_aload_n dX10_readSum_4 rfl ?_
            refine bc_callV (z := mX10_fine) (ci := 10) dX10_readSum_5 lX10_147 qX10_fine (by rfl) (by rfl) (by rfl) (by rfl) (Nat.le_of_ble_eq_true rfl) (t_fineY rfl h.1) (fun r5 μ5 e5 => ?_)
            obtain ⟨rfl, q5⟩ := e5
            obtain rfl := q5.symm
            refine bc_if_eq (tgt := 67) dX10_readSum_8 (by decide) (fun h8 => absurd h8 (by decide)) (fun h8 => ?_)
            refine bc_aload_n dX10_readSum_11 rfl ?_
            refine bc_callV (z := mX10_here) (ci := 10) dX10_readSum_12 lX10_130 qX10_here (by rfl) (by rfl) (by rfl) (by rfl) (Nat.le_of_ble_eq_true rfl) (t_here h.1) (fun r12 μ12 e12 => ?_)
            obtain ⟨rfl, q12⟩ := e12
            obtain rfl := q12.symm
            rw [← hμ1]
            refine bc_bipush (v := 43) dX10_readSum_15 (by decide) ?_
            refine bc_icmp_eq (tgt := 29) dX10_readSum_17 (by decide) (fun h17 => absurd h17 (fun q => h1 (x43.mp q))) (fun h17 => ?_)
            refine bc_aload_n dX10_readSum_20 rfl ?_
            refine bc_callV (z := mX10_here) (ci := 10) dX10_readSum_21 lX10_130 qX10_here (by rfl) (by rfl) (by rfl) (by rfl) (Nat.le_of_ble_eq_true rfl) (t_here hat.1) (fun r21 μ21 e21 => ?_)
            obtain ⟨rfl, q21⟩ := e21
            obtain rfl := q21.symm
            rw [e2, u4]
            refine bc_bipush (v := 45) dX10_readSum_24 (by decide) ?_
            refine bc_icmp_ne (tgt := 67) dX10_readSum_26 (by decide) (fun h26 => ?_) (fun h26 => absurd h26 (fun q => h2 (x45.mp q)))
            exact bc_return dX10_readSum_67 rfl (⟨rfl, hf1, hat⟩)
  have hgd : ∀ p', (u (S0, l0)).1 = .inr p' → (u (S0, l0)).2.length ≤ p' ∧ p' ≤ n ∧ n < p' + 150 := fun p' hp' => by
    obtain ⟨p0, e0, g1, g2, -, g3, g4, g5⟩ := hu.2 S0 l0 p' (fun z hz => (hl0 z hz).2) hp'
    have := hl0 p0 g1
    rw [g2, List.length_append]
    omega
  refine bc_aload_n dX10_readSum_0 rfl ?_
  refine bc_callV (z := mX10_readProduct) (ci := 10) dX10_readSum_1 lX10_269 qX10_readProduct (by rfl) (by rfl) (by rfl) (by rfl) (Nat.le_of_ble_eq_true rfl) (hU _ S0 l0 h0 hl0) (fun r1 μ1 e1 => ?_)
  obtain ⟨rfl, f1, s1⟩ := e1
  exact loop 150 _ _ _ _ rfl s1 f1 hgd
end T76
