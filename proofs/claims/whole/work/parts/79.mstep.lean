/-! the reference: a step is read -/
def wlR (μ : bc_M) (l : List PE) : Prop := μ 0 39 = nI (3 * l.length) ∧ stR (μ 17) l
def wm (t : Nat → Int32) (n no nq : Nat) (S : TS) (l : List PE) (op : Nat) (μ : bc_M) : Prop := rS t n S μ ∧ μ 0 7 = nI op ∧ (μ 0 25 = nI nq ∧ μ 0 26 = nI no) ∧ ∀ p, S = .inr p → wlR μ l
def WMok (t : Nat → Int32) (n no nq D : Nat) (op : Nat) (u : PSt → PSt) : Prop := ∀ (μ : bc_M) (p : Nat) (l : List PE), wm t n no nq (.inr p) l op μ → 3 * l.length ≤ p → bc_C D LM mX10_readStep [.ref 0] μ (fun r ν => r = none ∧ rF μ ν ∧ wm t n no nq (sNeed t n (nI 59) (u (.inr p, l)).1) (u (.inr p, l)).2 op ν)
def gd3 (n : Nat) (u : PSt → PSt) : Prop := ∀ p l p', p ≤ n → 3 * l.length ≤ p → (u (.inr p, l)).1 = .inr p' → 3 * (u (.inr p, l)).2.length ≤ p'
section T79
variable {d : Nat} {m μ ν M : bc_M} {n p op no nq : Nat} {t : Nat → Int32}
theorem wlR.mv {l : List PE} (h : wlR μ l) (hf : f456 μ ν) : wlR ν l := by
  unfold wlR at h ⊢
  rw [hf.2 39 (by omega) (by omega) (by omega), hf.1 17 (by decide)]
  exact h
theorem wm.mv {S S' : TS} {l : List PE} (h : wm t n no nq S l op μ) (hf : f456 μ ν) (hs : rS t n S' ν) (hS : ∀ p', S' = .inr p' → ∃ p, S = .inr p) : wm t n no nq S' l op ν := ⟨hs, (hf.2 7 (by omega) (by omega) (by omega)).trans h.2.1, ⟨(hf.2 25 (by omega) (by omega) (by omega)).trans h.2.2.1.1, (hf.2 26 (by omega) (by omega) (by omega)).trans h.2.2.1.2⟩, fun p' hp' => by
  obtain ⟨p, hp⟩ := hS p' hp'
  exact (h.2.2.2 p hp).mv hf⟩
theorem wm.inl {f : Nat × Nat} {l l' : List PE} (h : wm t n no nq (.inl f) l op μ) : wm t n no nq (.inl f) l' op μ := ⟨h.1, h.2.1, h.2.2.1, fun p hp => by cases hp⟩
theorem wm.at' {l : List PE} (h : wm t n no nq (.inr p) l op μ) : wm t n no nq (.inr p) l op (bc_u μ 0 4 (nI p)) := h.mv (f456.u (by omega)) h.1.at' (fun p' hp' => ⟨p, rfl⟩)
theorem wm.go {l : List PE} {a : Nat} (h : wm t n no nq (.inr p) l op μ) (ha : a ≤ n) : wm t n no nq (.inr (skp t n a)) l op (bc_u μ 0 4 (nI a)) := by
  refine h.mv (f456.u (by omega)) ?_ (fun p' hp' => ⟨p, rfl⟩)
  obtain ⟨⟨h1, a0, -, -, h5, -⟩, -⟩ := h
  exact ⟨h1.mv (f456.u (by omega)), a, ha, by rw [bc_u_r, if_pos ⟨rfl, rfl⟩], by rw [bc_u_r, if_neg (by omega)]; exact h5, rfl⟩
theorem wm.o {S : TS} {l : List PE} {op' : Nat} (h : wm t n no nq S l op μ) : wm t n no nq S l op' (bc_u μ 0 7 (nI op')) := by
  refine ⟨h.1.u (by decide), by rw [bc_u_r, if_pos ⟨rfl, rfl⟩], h.2.2.1, fun p hp => ?_⟩
  have := h.2.2.2 p hp
  unfold wlR at this ⊢
  exact this
theorem wm.o1 {S : TS} {l : List PE} (h : wm t n no nq S l (op + 1) μ) : wm t n no nq S l op (bc_u μ 0 7 (nI (op + 1) - 1)) := by
  rw [bn_s1 (by omega), Nat.add_sub_cancel]
  exact h.o
theorem wm.sgn {S : TS} {l : List PE} {c : Nat} (h : wm t n no nq S l op μ) (hf : f456 μ ν) (hs : rS t n (sNeed t n (nI c) S) ν) : wm t n no nq (sNeed t n (nI c) S) l op ν := h.mv hf hs (fun p' hp' => by
  obtain ⟨p0, e0, -, -⟩ := sNeed_ok hp'
  exact ⟨p0, e0⟩)
theorem wm.num {S : TS} {l : List PE} {lo hi : Nat} (h : wm t n no nq S l op μ) (hf : f456 μ ν) (hs : rS t n (sNum t n lo hi S).1 ν) : wm t n no nq (sNum t n lo hi S).1 l op ν := h.mv hf hs (fun p' hp' => by
  obtain ⟨⟨p0, e0, -, -⟩, -⟩ := sNum_ok hp'
  exact ⟨p0, e0⟩)
theorem nIm1 {a : Nat} (h : a ≤ 8) : (nI a - 1).toInt = (a : Int) - 1 := by
  have hc : a = 0 ∨ a = 1 ∨ a = 2 ∨ a = 3 ∨ a = 4 ∨ a = 5 ∨ a = 6 ∨ a = 7 ∨ a = 8 := by omega
  rcases hc with rfl | rfl | rfl | rfl | rfl | rfl | rfl | rfl | rfl <;> rfl
theorem stR.app {g : Nat → Int32} {l : List PE} {z : PE} (h : stR g l) : stR (upd (upd (upd g (3 * l.length) (nI z.1)) (3 * l.length + 1) (nI z.2.1)) (3 * l.length + 2) (nI (if z.1 = 5 then 3 * z.2.2 else z.2.2))) (l ++ [z]) := by
  intro i x hx
  by_cases e : i = l.length
  · subst e
    rw [List.getElem?_append_right (Nat.le_refl _)] at hx
    simp at hx
    subst hx
    simp [upd]
  · have hl : i < l.length := by
      have := (List.getElem?_eq_some_iff.mp hx).1
      rw [List.length_append] at this
      simp at this
      omega
    rw [List.getElem?_append_left hl] at hx
    obtain ⟨h1, h2, h3⟩ := h i x hx
    unfold upd
    refine ⟨?_, ?_, ?_⟩
    · rw [if_neg (by omega), if_neg (by omega), if_neg (by omega)]; exact h1
    · rw [if_neg (by omega), if_neg (by omega), if_neg (by omega)]; exact h2
    · rw [if_neg (by omega), if_neg (by omega), if_neg (by omega)]; exact h3
theorem stR.set {g : Nat → Int32} {l : List PE} {a b y : Nat} (h : stR g l) (ha : l[a]? = some (5, b, y)) (c : Nat) : stR (upd g (3 * a + 2) (nI (3 * c))) (l.set a (5, b, c)) := by
  intro i x hx
  have hal := (List.getElem?_eq_some_iff.mp ha).1
  by_cases e : i = a
  · subst e
    rw [List.getElem?_set_self hal] at hx
    cases hx
    obtain ⟨h1, h2, h3⟩ := h i _ ha
    unfold upd
    refine ⟨?_, ?_, ?_⟩
    · rw [if_neg (by omega)]; exact h1
    · rw [if_neg (by omega)]; exact h2
    · rw [if_pos rfl]; rfl
  · rw [List.getElem?_set_ne (fun q => e q.symm)] at hx
    obtain ⟨h1, h2, h3⟩ := h i x hx
    unfold upd
    refine ⟨?_, ?_, ?_⟩
    · rw [if_neg (by omega)]; exact h1
    · rw [if_neg (by omega)]; exact h2
    · rw [if_neg (by omega)]; exact h3
theorem t_tells {S : TS} {l : List PE} {z : PE} {a b c : Int32} (h : wm t n no nq S l op μ) (hl : ∀ p, S = .inr p → 3 * l.length + 2 < 150) (ha : a = nI z.1) (hb : b = nI z.2.1) (hc : c = nI (if z.1 = 5 then 3 * z.2.2 else z.2.2)) : bc_C (d + 1) LM mX10_tellsStep [.ref 0, .int a, .int b, .int c] μ (fun r ν => r = none ∧ rF μ ν ∧ wm t n no nq S (l ++ [z]) op ν) := by
  refine bc_enter (by decide) (Nat.le_of_ble_eq_true rfl) rfl ?_
  cases S with
  | inl f =>
    refine bc_aload_n dX10_tellsStep_0 rfl ?_
    refine bc_callV (z := mX10_fine) (ci := 10) dX10_tellsStep_1 lX10_147 qX10_fine (by rfl) (by rfl) (by rfl) (by rfl) (Nat.le_of_ble_eq_true rfl) (t_fineN h.1) (fun r1 μ1 e1 => ?_)
    obtain ⟨rfl, q1⟩ := e1
    obtain rfl := q1.symm
    refine bc_if_ne (tgt := 8) dX10_tellsStep_4 (by decide) (fun h4 => absurd h4 (fun q => q rfl)) (fun h4 => ?_)
    exact bc_return dX10_tellsStep_7 rfl (⟨rfl, rF.rf, h.inl⟩)
  | inr p =>
    have h150 := hl p rfl
    have hcl := h.2.2.2 p rfl
    have e39 := hcl.1
    refine bc_aload_n dX10_tellsStep_0 rfl ?_
    refine bc_callV (z := mX10_fine) (ci := 10) dX10_tellsStep_1 lX10_147 qX10_fine (by rfl) (by rfl) (by rfl) (by rfl) (Nat.le_of_ble_eq_true rfl) (t_fineY rfl h.1) (fun r1 μ1 e1 => ?_)
    obtain ⟨rfl, q1⟩ := e1
    obtain rfl := q1.symm
    refine bc_if_ne (tgt := 8) dX10_tellsStep_4 (by decide) (fun h4 => ?_) (fun h4 => absurd h4 (by decide))
    refine bc_aload_n dX10_tellsStep_8 rfl ?_
    refine bc_getr dX10_tellsStep_9 fX10_65 (rfl) rfl ?_
    refine bc_aload_n dX10_tellsStep_12 rfl ?_
    refine bc_geti dX10_tellsStep_13 fX10_315 (rfl) rfl ?_
    rw [e39]
    refine bc_iload_n dX10_tellsStep_16 rfl ?_
    refine bc_iastE dX10_tellsStep_17 (rfl) (rfl) (⟨by omega, by decide⟩) ?_
    refine bc_aload_n dX10_tellsStep_18 rfl ?_
    refine bc_getr dX10_tellsStep_19 fX10_65 (rfl) rfl ?_
    refine bc_aload_n dX10_tellsStep_22 rfl ?_
    refine bc_geti dX10_tellsStep_23 fX10_315 (rfl) rfl ?_
    rw [show bc_u μ 17 (3 * l.length) a 0 39 = nI (3 * l.length) from e39]
    refine bc_iconst (v := 1) dX10_tellsStep_26 (by decide) ?_
    refine bc_iadd dX10_tellsStep_27 ?_
    rw [bn_add1]
    refine bc_iload_n dX10_tellsStep_28 rfl ?_
    refine bc_iastE dX10_tellsStep_29 (rfl) (rfl) (⟨by omega, by decide⟩) ?_
    refine bc_aload_n dX10_tellsStep_30 rfl ?_
    refine bc_getr dX10_tellsStep_31 fX10_65 (rfl) rfl ?_
    refine bc_aload_n dX10_tellsStep_34 rfl ?_
    refine bc_geti dX10_tellsStep_35 fX10_315 (rfl) rfl ?_
    rw [show bc_u (bc_u μ 17 (3 * l.length) a) 17 (3 * l.length + 1) b 0 39 = nI (3 * l.length) from e39]
    refine bc_iconst (v := 2) dX10_tellsStep_38 (by decide) ?_
    refine bc_iadd dX10_tellsStep_39 ?_
    rw [show (2 : Int32) = nI 2 from rfl, bn_add]
    refine bc_iload_n dX10_tellsStep_40 rfl ?_
    refine bc_iastE dX10_tellsStep_41 (rfl) (rfl) (⟨by omega, by decide⟩) ?_
    refine bc_aload_n dX10_tellsStep_42 rfl ?_
    refine bc_dup dX10_tellsStep_43 rfl ?_
    refine bc_geti dX10_tellsStep_44 fX10_315 (rfl) rfl ?_
    rw [show bc_u (bc_u (bc_u μ 17 (3 * l.length) a) 17 (3 * l.length + 1) b) 17 (3 * l.length + 2) c 0 39 = nI (3 * l.length) from e39]
    refine bc_iconst (v := 3) dX10_tellsStep_47 (by decide) ?_
    refine bc_iadd dX10_tellsStep_48 ?_
    rw [show (3 : Int32) = nI 3 from rfl, bn_add]
    refine bc_put dX10_tellsStep_49 fX10_315 ftX10 fpX10_39 rfl rfl (rfl) rfl ?_
    exact bc_return dX10_tellsStep_52 rfl (by
refine ⟨rfl, (((rF.ui (by omega)).tr (rF.ui (by omega))).tr (rF.ui (by omega))).tr (rF.u0 (by omega)), (((h.1.ua (by decide) (by decide)).ua (by decide) (by decide)).ua (by decide) (by decide)).u (by decide), h.2.1, h.2.2.1, fun p' hp' => ⟨?_, ?_⟩⟩
· rw [bc_u_r, if_pos ⟨rfl, rfl⟩, List.length_append]; rfl
· have e17 : bc_u (bc_u (bc_u (bc_u μ 17 (3 * l.length) a) 17 (3 * l.length + 1) b) 17 (3 * l.length + 2) c) 0 39 (nI (3 * l.length + 3)) 17 = upd (upd (upd (μ 17) (3 * l.length) a) (3 * l.length + 1) b) (3 * l.length + 2) c := by rw [bc_u_ne _ _ _ (by decide), bc_u_at, bc_u_at, bc_u_at]
  rw [e17, ha, hb, hc]
  exact hcl.2.app)
theorem w_opensF {l : List PE} {b : Int32} (h : wm t n no nq (.inr p) l 6 μ) (hq4 : μ 0 4 = nI p) : bc_C (d + 1) LM mX10_opensOne [.ref 0, .int b] μ (fun r ν => r = none ∧ rF μ ν ∧ wm t n no nq (.inl (3, p)) l 7 ν) := by
  refine bc_enter (by decide) (Nat.le_of_ble_eq_true rfl) rfl ?_
  have hpn := h.1.le
  refine bc_aload_n dX10_opensOne_0 rfl ?_
  refine bc_callV (z := mX10_fine) (ci := 10) dX10_opensOne_1 lX10_147 qX10_fine (by rfl) (by rfl) (by rfl) (by rfl) (Nat.le_of_ble_eq_true rfl) (t_fineY rfl h.1) (fun r1 μ1 e1 => ?_)
  obtain ⟨rfl, q1⟩ := e1
  obtain rfl := q1.symm
  refine bc_if_eq (tgt := 25) dX10_opensOne_4 (by decide) (fun h4 => absurd h4 (by decide)) (fun h4 => ?_)
  refine bc_aload_n dX10_opensOne_7 rfl ?_
  refine bc_geti dX10_opensOne_8 fX10_158 (rfl) rfl ?_
  refine bc_bipush (v := 6) dX10_opensOne_11 (by decide) ?_
  refine bc_icmp_ne (tgt := 25) dX10_opensOne_13 (by decide) (fun h13 => absurd h13 (fun q => q h.2.1)) (fun h13 => ?_)
  refine bc_aload_n dX10_opensOne_16 rfl ?_
  refine bc_iconst (v := 3) dX10_opensOne_17 (by decide) ?_
  refine bc_aload_n dX10_opensOne_18 rfl ?_
  refine bc_geti dX10_opensOne_19 fX10_124 (rfl) rfl ?_
  rw [hq4]
  refine bc_callV (z := mX10_wrong) (ci := 10) dX10_opensOne_22 lX10_154 qX10_wrong (by rfl) (by rfl) (by rfl) (by rfl) (Nat.le_of_ble_eq_true rfl) (t_wrongY (k := 3) h.1 hpn) (fun r22 μ22 e22 => ?_)
  obtain ⟨rfl, f22, s22, -⟩ := e22
  refine bc_aload_n dX10_opensOne_25 rfl ?_
  refine bc_callV (z := mX10_fine) (ci := 10) dX10_opensOne_26 lX10_147 qX10_fine (by rfl) (by rfl) (by rfl) (by rfl) (Nat.le_of_ble_eq_true rfl) (t_fineN s22) (fun r26 μ26 e26 => ?_)
  obtain ⟨rfl, q26⟩ := e26
  obtain rfl := q26.symm
  refine bc_if_eq (tgt := 42) dX10_opensOne_29 (by decide) (fun h29 => ?_) (fun h29 => absurd h29 (fun q => q rfl))
  refine bc_aload_n dX10_opensOne_42 rfl ?_
  refine bc_dup dX10_opensOne_43 rfl ?_
  refine bc_geti dX10_opensOne_44 fX10_158 (rfl) rfl ?_
  rw [show μ22 0 7 = nI 6 from (f22.2 7 (by omega) (by omega) (by omega)).trans h.2.1]
  refine bc_iconst (v := 1) dX10_opensOne_47 (by decide) ?_
  refine bc_iadd dX10_opensOne_48 ?_
  rw [bn_add1]
  refine bc_put dX10_opensOne_49 fX10_158 ftX10 fpX10_7 rfl rfl (rfl) rfl ?_
  exact bc_return dX10_opensOne_52 rfl (⟨rfl, f22.rF.tr (rF.u0 (by omega)), (h.mv f22 s22 (fun p' hp' => by cases hp')).o⟩)
theorem w_opensY {l : List PE} {b : Nat} (hop : op < 6) (h : wm t n no nq (.inr p) l op μ) (hq4 : μ 0 4 = nI p) (hb : p + b ≤ n) : bc_C (d + 1) LM mX10_opensOne [.ref 0, .int (nI b)] μ (fun r ν => r = none ∧ rF μ ν ∧ wm t n no nq (.inr (skp t n (p + b))) l (op + 1) ν) := by
  refine bc_enter (by decide) (Nat.le_of_ble_eq_true rfl) rfl ?_
  have n6 : ¬ nI op = 6 := by rw [show (6 : Int32) = nI 6 from rfl, bn_eqN (by omega) (by omega)]; omega
  have hg := h.go hb
  refine bc_aload_n dX10_opensOne_0 rfl ?_
  refine bc_callV (z := mX10_fine) (ci := 10) dX10_opensOne_1 lX10_147 qX10_fine (by rfl) (by rfl) (by rfl) (by rfl) (Nat.le_of_ble_eq_true rfl) (t_fineY rfl h.1) (fun r1 μ1 e1 => ?_)
  obtain ⟨rfl, q1⟩ := e1
  obtain rfl := q1.symm
  refine bc_if_eq (tgt := 25) dX10_opensOne_4 (by decide) (fun h4 => absurd h4 (by decide)) (fun h4 => ?_)
  refine bc_aload_n dX10_opensOne_7 rfl ?_
  refine bc_geti dX10_opensOne_8 fX10_158 (rfl) rfl ?_
  rw [h.2.1]
  refine bc_bipush (v := 6) dX10_opensOne_11 (by decide) ?_
  refine bc_icmp_ne (tgt := 25) dX10_opensOne_13 (by decide) (fun h13 => ?_) (fun h13 => absurd h13 (n6))
  refine bc_aload_n dX10_opensOne_25 rfl ?_
  refine bc_callV (z := mX10_fine) (ci := 10) dX10_opensOne_26 lX10_147 qX10_fine (by rfl) (by rfl) (by rfl) (by rfl) (Nat.le_of_ble_eq_true rfl) (t_fineY rfl h.1) (fun r26 μ26 e26 => ?_)
  obtain ⟨rfl, q26⟩ := e26
  obtain rfl := q26.symm
  refine bc_if_eq (tgt := 42) dX10_opensOne_29 (by decide) (fun h29 => absurd h29 (by decide)) (fun h29 => ?_)
  refine bc_aload_n dX10_opensOne_32 rfl ?_
  refine bc_dup dX10_opensOne_33 rfl ?_
  refine bc_geti dX10_opensOne_34 fX10_124 (rfl) rfl ?_
  rw [hq4]
  refine bc_iload_n dX10_opensOne_37 rfl ?_
  refine bc_iadd dX10_opensOne_38 ?_
  rw [bn_add]
  refine bc_put dX10_opensOne_39 fX10_124 ftX10 fpX10_4 rfl rfl (rfl) rfl ?_
  refine bc_aload_n dX10_opensOne_42 rfl ?_
  refine bc_dup dX10_opensOne_43 rfl ?_
  refine bc_geti dX10_opensOne_44 fX10_158 (rfl) rfl ?_
  rw [show bc_u μ 0 4 (nI (p + b)) 0 7 = nI op from h.2.1]
  refine bc_iconst (v := 1) dX10_opensOne_47 (by decide) ?_
  refine bc_iadd dX10_opensOne_48 ?_
  rw [bn_add1]
  refine bc_put dX10_opensOne_49 fX10_158 ftX10 fpX10_7 rfl rfl (rfl) rfl ?_
  exact bc_return dX10_opensOne_52 rfl (⟨rfl, (rF.u0 (by omega)).tr (rF.u0 (by omega)), hg.o⟩)
theorem idx3 {l : List Int32} (h : (bw 3).idxOf l < (bw 3).length) : l = bc_byt.getD 20 [] ∨ l = bc_byt.getD 21 [] ∨ l = bc_byt.getD 17 [] ∨ l = bc_byt.getD 22 [] ∨ l = bc_byt.getD 19 [] ∨ l = bc_byt.getD 23 [] := by
  have e : (bw 3)[(bw 3).idxOf l] = l := List.getElem_idxOf h
  have e2 : (bw 3)[(bw 3).idxOf l]? = some l := by rw [List.getElem?_eq_getElem h, e]
  have h6 : (bw 3).idxOf l < 6 := h
  clear e h
  generalize (bw 3).idxOf l = i at h6 e2
  have hc : i = 0 ∨ i = 1 ∨ i = 2 ∨ i = 3 ∨ i = 4 ∨ i = 5 := by omega
  rcases hc with rfl | rfl | rfl | rfl | rfl | rfl
  · exact .inl (Option.some.inj e2).symm
  · exact .inr (.inl (Option.some.inj e2).symm)
  · exact .inr (.inr (.inl (Option.some.inj e2).symm))
  · exact .inr (.inr (.inr (.inl (Option.some.inj e2).symm)))
  · exact .inr (.inr (.inr (.inr (.inl (Option.some.inj e2).symm))))
  · exact .inr (.inr (.inr (.inr (.inr (Option.some.inj e2).symm))))
/-- where the word K stands at p -/
theorem sW3 {K i : Nat} (hp : p ≤ n) (h : wd t n p = bc_byt.getD K []) (hK : K < 24) (hK5 : 5 ≤ K) (hi : (bw 3).idxOf (bc_byt.getD K []) = i) (hi6 : i < 6) (hl : 4 ≤ bc_len.getD K 0) : sWrd t n (bw 3) (.inr p) = (.inr (skp t n (ltE t n p)), i) ∧ p + 4 ≤ skp t n (ltE t n p) ∧ ltE t n p ≤ n ∧ skp t n (ltE t n p) ≤ n := by
  have hle : ltE t n p ≤ n := rn_le hp
  have hs : ltE t n p ≤ skp t n (ltE t n p) := rn_ge _ _ _ _
  have := wd_len hK hK5 hp h
  refine ⟨?_, by omega, hle, rn_le hle⟩
  simp only [sWrd]
  rw [h, hi, if_pos (show i < (bw 3).length from hi6)]
theorem sW3n (h : ¬ (bw 3).idxOf (wd t n p) < (bw 3).length) : sWrd t n (bw 3) (.inr p) = (.inl (1, p), 99) := by
  simp only [sWrd]
  rw [if_neg h]
theorem pSs_inl {over : Nat → Bool} {u : PSt → PSt} {k : Nat} {f : Nat × Nat} {l : List PE} : pSs t n over u k (.inl f, l) = (.inl f, l) := by cases k <;> rfl
/-! how long the list of steps grows -/
theorem gd3_Ss {u : PSt → PSt} {dep : Nat} {over : Nat → Bool} (hu : goodP n no nq dep 1 u) (h3 : gd3 n u) : ∀ k, gd3 n (pSs t n over u k) := by
  intro k
  induction k with
  | zero =>
    intro p l p' _ hl h
    cases h
    exact hl
  | succ k ih =>
    intro p l p' hp hl h
    rw [pSs] at h ⊢
    by_cases ho : over p = true
    · rw [if_pos ho] at h ⊢
      cases h
      exact hl
    · rw [if_neg ho] at h ⊢
      generalize hz : sNeed t n 59 (u (.inr p, l)).1 = Z at h ⊢
      cases Z with
      | inl f =>
        rw [pSs_inl] at h
        cases h
      | inr x =>
        obtain ⟨x0, e0, g1, g2⟩ := sNeed_ok hz
        have := h3 p l x0 hp hl e0
        exact ih x _ p' g2 (by omega) h
theorem gd3_St {nest : Option (PSt → PSt)} (hg : ∀ g, nest = some g → gd3 n g) (hgp : ∀ g, nest = some g → ∀ f l, (g (.inl f, l)).1 = .inl f) : gd3 n (pSt t n no nq nest) := by
  intro p l p' hp hl h
  simp only [pSt] at h ⊢
  by_cases hf : (bw 3).idxOf (wd t n p) < (bw 3).length
  · rcases idx3 hf with q | q | q | q | q | q
    · obtain ⟨e, e4, e5, e6⟩ := sW3 (i := 0) hp q (by decide) (by decide) (by decide) (by decide) (by decide)
      rw [e] at h ⊢
      obtain ⟨⟨p0, e0, g1, g2⟩, -⟩ := sNum_ok (show (sNum t n 0 no (.inr (skp t n (ltE t n p)))).1 = .inr p' from h)
      cases e0
      show 3 * (l ++ [_]).length ≤ p'
      rw [List.length_append, List.length_singleton]
      omega
    · obtain ⟨e, e4, e5, e6⟩ := sW3 (i := 1) hp q (by decide) (by decide) (by decide) (by decide) (by decide)
      rw [e] at h ⊢
      obtain ⟨⟨p0, e0, g1, g2⟩, -⟩ := sNum_ok (show (sNum t n 0 no (.inr (skp t n (ltE t n p)))).1 = .inr p' from h)
      cases e0
      show 3 * (l ++ [_]).length ≤ p'
      rw [List.length_append, List.length_singleton]
      omega
    · obtain ⟨e, e4, e5, e6⟩ := sW3 (i := 2) hp q (by decide) (by decide) (by decide) (by decide) (by decide)
      rw [e] at h ⊢
      obtain ⟨⟨p1, e1, g1, g2⟩, -⟩ := sNum_ok (show (sNum t n 0 100 (sNum t n 0 nq (.inr (skp t n (ltE t n p)))).1).1 = .inr p' from h)
      obtain ⟨⟨p0, e0, g3, g4⟩, -⟩ := sNum_ok e1
      cases e0
      show 3 * (l ++ [_]).length ≤ p'
      rw [List.length_append, List.length_singleton]
      omega
    · obtain ⟨e, e4, e5, e6⟩ := sW3 (i := 3) hp q (by decide) (by decide) (by decide) (by decide) (by decide)
      rw [e] at h ⊢
      obtain ⟨⟨p0, e0, g1, g2⟩, -⟩ := sNum_ok (show (sNum t n 0 nq (.inr (skp t n (ltE t n p)))).1 = .inr p' from h)
      cases e0
      show 3 * (l ++ [_]).length ≤ p'
      rw [List.length_append, List.length_singleton]
      omega
    · obtain ⟨e, e4, e5, e6⟩ := sW3 (i := 4) hp q (by decide) (by decide) (by decide) (by decide) (by decide)
      rw [e] at h ⊢
      have h : (.inr (skp t n (ltE t n p)) : TS) = .inr p' := h
      cases h
      show 3 * (l ++ [_]).length ≤ _
      rw [List.length_append, List.length_singleton]
      omega
    · obtain ⟨e, e4, e5, e6⟩ := sW3 (i := 5) hp q (by decide) (by decide) (by decide) (by decide) (by decide)
      rw [e] at h ⊢
      cases nest with
      | none => cases h
      | some g =>
        have h : sNeed t n 93 (g (sNeed t n 91 (sNum t n 0 31 (.inr (skp t n (ltE t n p)))).1, l ++ [(5, (sNum t n 0 31 (.inr (skp t n (ltE t n p)))).2, 0)])).1 = .inr p' := h
        show 3 * ((g (sNeed t n 91 (sNum t n 0 31 (.inr (skp t n (ltE t n p)))).1, l ++ [(5, (sNum t n 0 31 (.inr (skp t n (ltE t n p)))).2, 0)])).2.set _ _).length ≤ p'
        rw [List.length_set]
        obtain ⟨p3, e3, g3, g4⟩ := sNeed_ok h
        generalize hz : sNeed t n 91 (sNum t n 0 31 (.inr (skp t n (ltE t n p)))).1 = Z at e3 ⊢
        cases Z with
        | inl f =>
          rw [hgp g rfl] at e3
          cases e3
        | inr x =>
          obtain ⟨x0, y0, k1, k2⟩ := sNeed_ok hz
          obtain ⟨⟨x1, y1, k3, k4⟩, -⟩ := sNum_ok y0
          cases y1
          have := hg g rfl x _ p3 k2 (by rw [List.length_append, List.length_singleton]; omega) e3
          omega
  · rw [sW3n hf] at h
    cases h
theorem gd3_Stp (hno : no ≤ 8) (hnq : nq ≤ 6) : ∀ dep, gd3 n (pStp t n no nq dep) := by
  intro dep
  induction dep with
  | zero => exact gd3_St (nest := none) (fun g h => by cases h) (fun g h => by cases h)
  | succ dep ih => exact gd3_St (nest := some _) (fun g h => by cases h; exact gd3_Ss (pStp_good hno hnq dep) ih 150) (fun g h => by cases h; exact (pSs_good (pStp_good hno hnq dep) 150).1)
end T79
