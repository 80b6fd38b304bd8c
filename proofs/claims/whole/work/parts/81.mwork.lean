/-! the reference: work -/
def pwN (f g : Nat → Int32) (w c : Nat) : Nat → Int32 := fun k => if 33 * w ≤ k ∧ k < 33 * w + c then f (k - 33 * w) else g k
def wkS (M : bc_M) (L no nq : Nat) (A : Row) (l : List PE) : RSt := runP l (actR M L no nq) 201 0 l.length (0, 0, 0, A)
def wkQ (m : bc_M) (no w : Nat) (z : PSt) (s : RSt) (r : Option Value) (ξ : bc_M) : Prop := match z.1 with
  | .inl f => flE f m r ξ
  | .inr _ => r = some (.int (nI s.2.1)) ∧ ∃ ν, wF m ν ∧ ν 0 8 = -1 ∧ (∀ i, i ≠ 0 → i ≠ 15 → i ≠ 16 → i ≠ 18 → i ≠ 19 → i ≠ 20 → i ≠ 21 → ξ i = ν i) ∧ (∀ j, ¬ (40 ≤ j ∧ j ≤ 44) → ξ 0 j = ν 0 j) ∧ ξ 0 40 = nI (w + 1) ∧ ξ 0 41 = nI s.2.2.1 ∧ ξ 21 = pwN (m 19) (m 21) w 33 ∧ sR s.2.2.2 (ξ 19) ∧ okA no s.2.2.2 ∧ okH s.2.2.2
section T81
variable {d : Nat} {m μ ν M : bc_M} {n p op no nq nr nm : Nat} {t : Nat → Int32} {A : Row}
theorem mEnv.mv2 {L : Nat} (h : mEnv M m L no nq nr nm) (h0 : ∀ k, 25 ≤ k → k ≤ 35 → k ≠ 34 → ν 0 k = m 0 k) (h1 : ∀ i, 7 ≤ i → i ≤ 14 → i ≠ 11 → i ≠ 12 → ν i = m i) : mEnv M ν L no nq nr nm := by
  unfold mEnv mLaw at h ⊢
  rw [h0 25 (by omega) (by omega) (by omega), h0 26 (by omega) (by omega) (by omega), h0 27 (by omega) (by omega) (by omega), h0 28 (by omega) (by omega) (by omega), h0 35 (by omega) (by omega) (by omega), h1 7 (by omega) (by omega) (by omega) (by omega), h1 8 (by omega) (by omega) (by omega) (by omega), h1 9 (by omega) (by omega) (by omega) (by omega), h1 10 (by omega) (by omega) (by omega) (by omega), h1 13 (by omega) (by omega) (by omega) (by omega), h1 14 (by omega) (by omega) (by omega) (by omega)]
  exact h
theorem sR.cg33 {f g : Nat → Int32} (h : sR A f) (e : ∀ k, k < 33 → g k = f k) : sR A g := by
  obtain ⟨h1, h2, h3, h4, h5, h6, h7, h8, h9⟩ := h
  exact ⟨fun o ho => (e _ (by omega)).trans (h1 o ho), fun o ho => (e _ (by omega)).trans (h2 o ho), fun o ho => (e _ (by omega)).trans (h3 o ho), fun o ho => (e _ (by omega)).trans (h4 o ho), (e _ (by omega)).trans h5, (e _ (by omega)).trans h6, (e _ (by omega)).trans h7, (e _ (by omega)).trans h8, (e _ (by omega)).trans h9⟩
theorem us_self {i : Nat} {f : Nat → Int32} (h : f = μ i) : bc_us μ i f = μ := by
  funext k
  unfold bc_us
  by_cases e : k = i
  · subst e; simp [h]
  · simp [e]
theorem pwN_0 {f g : Nat → Int32} {w : Nat} : pwN f g w 0 = g := by
  funext k
  unfold pwN
  rw [if_neg (by omega)]
theorem pwN_s {f g : Nat → Int32} {w c : Nat} : upd (pwN f g w c) (33 * w + c) (f c) = pwN f g w (c + 1) := by
  funext k
  unfold upd pwN
  by_cases e : k = 33 * w + c
  · rw [if_pos e, if_pos (by omega), e, Nat.add_sub_cancel_left]
  · rw [if_neg e]
    by_cases e2 : 33 * w ≤ k ∧ k < 33 * w + c
    · rw [if_pos e2, if_pos (by omega)]
    · rw [if_neg e2, if_neg (by omega)]
theorem t_stepD (hn : n ≤ 150) (hno : no ≤ 8) (hnq : nq ≤ 6) : ∀ dep, dep ≤ 6 → ∀ d, WMok t n no nq (d + dep + 6) (6 - dep) (pStp t n no nq dep) := by
  intro dep
  induction dep with
  | zero => intro _ d; exact t_step (E := d) (dep := 0) hn hno hnq (.inl ⟨rfl, rfl⟩)
  | succ dep ih =>
    intro hd d
    have h1 := t_step (nest := some (pSs t n (ovB t n) (pStp t n no nq dep) 150)) (op := 6 - (dep + 1)) (E := d + dep + 1) hn hno hnq (.inr ⟨_, rfl, by omega, pStp_good hno hnq dep, gd3_Stp hno hnq dep, by
      rw [show 6 - (dep + 1) + 1 = 6 - dep by omega, show d + dep + 1 + 5 = d + dep + 6 by omega]
      exact ih (by omega) d⟩)
    rw [show d + (dep + 1) + 6 = d + dep + 1 + 6 by omega]
    exact h1
theorem t_workB {q : Int32} {tp : Nat} (ht : m 0 2 = nI tp) (h : ¬ (0 ≤ q ∧ q ≤ nI tp ∧ q ≤ 150)) : bc_C (d + 2) LM mX10_work [.ref 0, .int q] m (fun r ν => r = some (.int 0) ∧ ν = refM m 1 1) := by
  refine bc_enter (by decide) (Nat.le_of_ble_eq_true rfl) rfl ?_
  have bad : bc_W (d + 2) LM mX10_work 29 [.ref 0, .int q, .null, .null] [.ref 0] (bc_u m 0 0 0) (fun r ν => r = some (.int 0) ∧ ν = refM m 1 1) := by
    refine bc_iconst (v := 0) dX10_work_29 (by decide) ?_
    refine bc_iconst (v := 1) dX10_work_30 (by decide) ?_
    refine bc_iconst (v := 1) dX10_work_31 (by decide) ?_
    refine bc_callV (z := mX10_may) (ci := 10) dX10_work_32 lX10_236 qX10_may (by rfl) (by rfl) (by rfl) (by rfl) (Nat.le_of_ble_eq_true rfl) (t_mayN (k := 1) False (fun x => x) _ (by decide) rfl (by decide)) (fun r32 μ32 e32 => ?_)
    obtain ⟨rfl, q32⟩ := e32
    obtain rfl := q32.symm
    refine bc_if_ne (tgt := 40) dX10_work_35 (by decide) (fun h35 => absurd h35 (fun q => q rfl)) (fun h35 => ?_)
    refine bc_iconst (v := 0) dX10_work_38 (by decide) ?_
    exact bc_ireturn dX10_work_39 rfl rfl (⟨rfl, rfl⟩)
  refine bc_aload_n dX10_work_0 rfl ?_
  refine bc_iconst (v := 0) dX10_work_1 (by decide) ?_
  refine bc_put dX10_work_2 fX10_3 ftX10 fpX10_0 rfl rfl (rfl) rfl ?_
  refine bc_aload_n dX10_work_5 rfl ?_
  refine bc_iload_n dX10_work_6 rfl ?_
  refine bc_if_lt (tgt := 29) dX10_work_7 (by decide) (fun h7 => ?_) (fun h7 => ?_)
  · exact bad
  · refine bc_iload_n dX10_work_10 rfl ?_
    refine bc_aload_n dX10_work_11 rfl ?_
    refine bc_geti dX10_work_12 fX10_115 (rfl) rfl ?_
    rw [show bc_u m 0 0 0 0 2 = nI tp from ht]
    refine bc_icmp_gt (tgt := 29) dX10_work_15 (by decide) (fun h15 => ?_) (fun h15 => ?_)
    · exact bad
    · refine bc_iload_n dX10_work_18 rfl ?_
      refine bc_sipush (v := 150) dX10_work_19 (by decide) ?_
      refine bc_icmp_gt (tgt := 29) dX10_work_22 (by decide) (fun h22 => ?_) (fun h22 => ?_)
      · exact bad
      · exact absurd ⟨Int32.not_lt.mp h7, Int32.not_lt.mp h15, Int32.not_lt.mp h22⟩ h
theorem t_workF {tp : Nat} (ht : m 0 2 = nI tp) (htp : tp ≤ 600) (hn : n ≤ tp) (hn2 : n ≤ 150) (hb : ∀ j, j < tp → b8R (t j) (m 2 j)) (h40 : m 0 40 = 16) : bc_C (d + 2) LM mX10_work [.ref 0, .int (nI n)] m (fun r ν => r = some (.int (-20)) ∧ wF m ν ∧ ν 0 8 = -1) := by
  refine bc_enter (by decide) (Nat.le_of_ble_eq_true rfl) rfl ?_
  refine bc_aload_n dX10_work_0 rfl ?_
  refine bc_iconst (v := 0) dX10_work_1 (by decide) ?_
  refine bc_put dX10_work_2 fX10_3 ftX10 fpX10_0 rfl rfl (rfl) rfl ?_
  refine bc_aload_n dX10_work_5 rfl ?_
  refine bc_iload_n dX10_work_6 rfl ?_
  refine bc_if_lt (tgt := 29) dX10_work_7 (by decide) (fun h7 => absurd h7 (bn_nn (by omega))) (fun h7 => ?_)
  refine bc_iload_n dX10_work_10 rfl ?_
  refine bc_aload_n dX10_work_11 rfl ?_
  refine bc_geti dX10_work_12 fX10_115 (rfl) rfl ?_
  rw [show bc_u m 0 0 0 0 2 = nI tp from ht]
  refine bc_icmp_gt (tgt := 29) dX10_work_15 (by decide) (fun h15 => absurd h15 (by rw [bn_ltN (by omega) (by omega)]; omega)) (fun h15 => ?_)
  refine bc_iload_n dX10_work_18 rfl ?_
  refine bc_sipush (v := 150) dX10_work_19 (by decide) ?_
  refine bc_icmp_gt (tgt := 29) dX10_work_22 (by decide) (fun h22 => absurd h22 (by rw [show (150 : Int32) = nI 150 from rfl, bn_ltN (by omega) (by omega)]; omega)) (fun h22 => ?_)
  refine bc_iconst (v := 1) dX10_work_25 (by decide) ?_
  refine bc_goto (tgt := 30) dX10_work_26 (by decide) ?_
  refine bc_iconst (v := 1) dX10_work_30 (by decide) ?_
  refine bc_iconst (v := 1) dX10_work_31 (by decide) ?_
  refine bc_callV (z := mX10_may) (ci := 10) dX10_work_32 lX10_236 qX10_may (by rfl) (by rfl) (by rfl) (by rfl) (Nat.le_of_ble_eq_true rfl) (t_mayY (k := 1) True trivial _ (by decide) rfl (by decide)) (fun r32 μ32 e32 => ?_)
  obtain ⟨rfl, q32⟩ := e32
  obtain rfl := q32.symm
  refine bc_if_ne (tgt := 40) dX10_work_35 (by decide) (fun h35 => ?_) (fun h35 => absurd h35 (by decide))
  refine bc_aload_n dX10_work_40 rfl ?_
  refine bc_iload_n dX10_work_41 rfl ?_
  refine bc_callV (z := mX10_begins) (ci := 10) dX10_work_42 lX10_240 qX10_begins (by rfl) (by rfl) (by rfl) (by rfl) (Nat.le_of_ble_eq_true rfl) (t_begins (t := t) (n := n) (by omega) (fun j hj => hb j (by omega))) (fun r42 μ42 e42 => ?_)
  obtain ⟨rfl, g1, g2, g3, g4, g5, g6⟩ := e42
  refine bc_aload_n dX10_work_45 rfl ?_
  refine bc_geti dX10_work_46 fX10_204 (rfl) rfl ?_
  refine bc_bipush (v := 16) dX10_work_49 (by decide) ?_
  refine bc_icmp_ne (tgt := 63) dX10_work_51 (by decide) (fun h51 => absurd h51 (fun q => q ((g2 40 (by decide) (by decide) (by decide) (by decide) (by decide) (by decide)).trans h40))) (fun h51 => ?_)
  refine bc_aload_n dX10_work_54 rfl ?_
  refine bc_iconst (v := 0) dX10_work_55 (by decide) ?_
  refine bc_callV (z := mX10_result) (ci := 10) dX10_work_56 lX10_262 qX10_result (by rfl) (by rfl) (by rfl) (by rfl) (Nat.le_of_ble_eq_true rfl) (t_result _ g6) (fun r56 μ56 e56 => ?_)
  obtain ⟨rfl, q56⟩ := e56
  obtain rfl := q56.symm
  refine bc_pop dX10_work_59 rfl ?_
  refine bc_bipush (v := (-20)) dX10_work_60 (by decide) ?_
  exact bc_ireturn dX10_work_62 rfl rfl (⟨rfl, (wF.begin g1 g2 g3).u8, by rw [bc_u_r, if_pos ⟨rfl, rfl⟩]; rfl⟩)
theorem t_work {tp w L : Nat} (hE : mEnv M m L no nq nr nm) (hs0 : sR A (m 19)) (hA : okA no A) (hH : okH A) (ht : m 0 2 = nI tp) (htp : tp ≤ 600) (hn : n ≤ tp) (hn2 : n ≤ 150) (hb : ∀ j, j < tp → b8R (t j) (m 2 j)) (h40 : m 0 40 = nI w) (hw16 : w < 16) : bc_C (d + 16) LM mX10_work [.ref 0, .int (nI n)] m (wkQ m no w (pWork t n no nq (skp t n 0)) (wkS M L no nq A (pWork t n no nq (skp t n 0)).2)) := by
  have hno := hE.o8
  have hnq := hE.q6
  have hG := fun p' => pWork_ok (t := t) (n := n) (p := skp t n 0) (p' := p') hno hnq (rn_le (by omega))
  have hG3 : ∀ p', (pWork t n no nq (skp t n 0)).1 = .inr p' → 3 * (pWork t n no nq (skp t n 0)).2.length ≤ 150 := fun p' hp' => by
    have g1 := gd3_Ss (t := t) (over := ovT n) (pStp_good (t := t) (n := n) hno hnq 6) (gd3_Stp hno hnq 6) 150 (skp t n 0) [] p' (rn_le (by omega)) (Nat.zero_le _) hp'
    obtain ⟨q0, ex, -, -, -, g2, -⟩ := (pSs_good (t := t) (over := ovT n) (pStp_good (t := t) (n := n) hno hnq 6) 150).2 (.inr (skp t n 0)) [] p' (fun q hq => by cases hq; exact rn_le (by omega)) hp'
    have g1 : 3 * (pWork t n no nq (skp t n 0)).2.length ≤ p' := g1
    omega
  generalize hz : pWork t n no nq (skp t n 0) = z at hG hG3 ⊢
  refine bc_enter (by decide) (Nat.le_of_ble_eq_true rfl) rfl ?_
  have rest : ∀ (c k : Nat) (ν : bc_M) (v2 : Int32) (x : Nat), c + k = 33 → wF m ν → ν 0 8 = -1 → wlR ν z.2 → z.1 = .inr x → bc_W (d + 16) LM mX10_work 123 [.ref 0, .int (nI n), .int v2, .int (nI c)] [] (bc_us (bc_us ν 18 (cpN (ν 17) (ν 18) (3 * z.2.length))) 21 (pwN (ν 19) (ν 21) w c)) (wkQ m no w z (wkS M L no nq A z.2)) := by
    intro c k
    induction k generalizing c with
    | zero =>
      intro ν v2 x hc hw h8 hl hx
      have hc : c = 33 := by omega
      subst hc
      have h150 := hG3 x hx
      obtain ⟨ξ, hξ⟩ : ∃ ξ, ξ = bc_us (bc_us ν 18 (cpN (ν 17) (ν 18) (3 * z.2.length))) 21 (pwN (ν 19) (ν 21) w 33) := ⟨_, rfl⟩
      rw [← hξ]
      have x0 : ∀ j, ξ 0 j = ν 0 j := fun j => by rw [hξ]; rfl
      have xi : ∀ i, i ≠ 18 → i ≠ 21 → ξ i = ν i := fun i a b => by rw [hξ, bc_us_ne _ _ b, bc_us_ne _ _ a]
      have x18 : ξ 18 = cpN (ν 17) (ν 18) (3 * z.2.length) := by rw [hξ]; rfl
      have x21 : ξ 21 = pwN (ν 19) (ν 21) w 33 := by rw [hξ]; rfl
      have y40 : ξ 0 40 = nI w := (x0 40).trans ((hw.2.1 40 (by omega)).trans h40)
      have y39 : ξ 0 39 = nI (3 * z.2.length) := (x0 39).trans hl.1
      obtain ⟨η, hη⟩ : ∃ η, η = bc_u (bc_u (bc_u (bc_us (bc_u ξ 0 40 (nI (w + 1))) 20 (cpN (ξ 19) (ξ 20) 33)) 0 42 0) 0 43 0) 0 44 0 := ⟨_, rfl⟩
      have n0 : ∀ j, ¬ (40 ≤ j ∧ j ≤ 44) → η 0 j = ν 0 j := fun j hj => by
        rw [hη, bc_u_r, if_neg (by omega), bc_u_r, if_neg (by omega), bc_u_r, if_neg (by omega), bc_us_ne _ _ (by decide), bc_u_r, if_neg (by omega)]
        exact x0 j
      have ni : ∀ i, i ≠ 0 → i ≠ 20 → η i = ξ i := fun i a b => by rw [hη, bc_u_ne _ _ _ a, bc_u_ne _ _ _ a, bc_u_ne _ _ _ a, bc_us_ne _ _ b, bc_u_ne _ _ _ a]
      have n20 : η 20 = cpN (ξ 19) (ξ 20) 33 := by rw [hη]; rfl
      have n40 : η 0 40 = nI (w + 1) := by rw [hη]; rfl
      have hEη : mEnv M η L no nq nr nm := hE.mv2 (fun k a b c => (n0 k (by omega)).trans (hw.2.1 k (by omega))) (fun i a b c e => (ni i (by omega) (by omega)).trans ((xi i (by omega) (by omega)).trans (hw.1 i (by omega) (by omega) (by omega) (by omega) (by omega) (by omega) (by omega) (by omega) (by omega))))
      have e19 : ν 19 = m 19 := hw.1 19 (by decide) (by decide) (by decide) (by decide) (by decide) (by decide) (by decide) (by decide) (by decide)
      have e21 : ν 21 = m 21 := hw.1 21 (by decide) (by decide) (by decide) (by decide) (by decide) (by decide) (by decide) (by decide) (by decide)
      have hst : stR (η 18) z.2 := by
        rw [ni 18 (by decide) (by decide), x18]
        intro i y hy
        have hi := (List.getElem?_eq_some_iff.mp hy).1
        obtain ⟨a1, a2, a3⟩ := hl.2 i y hy
        unfold cpN
        rw [if_pos (by omega), if_pos (by omega), if_pos (by omega)]
        exact ⟨a1, a2, a3⟩
      have hmR : mR no η (0, 0, 0, A) η := ⟨fun _ _ _ _ _ => rfl, fun _ _ _ _ => rfl, ⟨by rw [hη]; rfl, by rw [hη]; rfl, by rw [hη]; rfl⟩, by
        rw [n20]
        refine hs0.cg33 (fun k hk => ?_)
        show cpN (ξ 19) (ξ 20) 33 k = _
        unfold cpN
        rw [if_pos hk, xi 19 (by decide) (by decide), e19], hA, hH⟩
      refine bc_iload_n dX10_work_123 rfl ?_
      refine bc_bipush (v := 33) dX10_work_124 (by decide) ?_
      refine bc_icmp_ge (tgt := 155) dX10_work_126 (by decide) (fun h126 => ?_) (fun h126 => absurd h126 (fun q => q (by decide)))
      refine bc_aload_n dX10_work_155 rfl ?_
      refine bc_dup dX10_work_156 rfl ?_
      refine bc_geti dX10_work_157 fX10_204 (rfl) rfl ?_
      rw [y40]
      refine bc_iconst (v := 1) dX10_work_160 (by decide) ?_
      refine bc_iadd dX10_work_161 ?_
      rw [bn_add1]
      refine bc_put dX10_work_162 fX10_204 ftX10 fpX10_40 rfl rfl (rfl) rfl ?_
      refine bc_aload_n dX10_work_165 rfl ?_
      refine bc_callV (z := mX10_take) (ci := 10) dX10_work_166 lX10_333 qX10_take (by rfl) (by rfl) (by rfl) (by rfl) (Nat.le_of_ble_eq_true rfl) (t_take) (fun r166 μ166 e166 => ?_)
      obtain ⟨rfl, q166⟩ := e166
      obtain rfl := q166.symm
      refine bc_aload_n dX10_work_169 rfl ?_
      refine bc_iconst (v := 0) dX10_work_170 (by decide) ?_
      refine bc_put dX10_work_171 fX10_336 ftX10 fpX10_42 rfl rfl (rfl) rfl ?_
      refine bc_aload_n dX10_work_174 rfl ?_
      refine bc_iconst (v := 0) dX10_work_175 (by decide) ?_
      refine bc_put dX10_work_176 fX10_339 ftX10 fpX10_43 rfl rfl (rfl) rfl ?_
      refine bc_aload_n dX10_work_179 rfl ?_
      refine bc_iconst (v := 0) dX10_work_180 (by decide) ?_
      refine bc_put dX10_work_181 fX10_342 ftX10 fpX10_44 rfl rfl (rfl) rfl ?_
      refine bc_aload_n dX10_work_184 rfl ?_
      refine bc_iconst (v := 0) dX10_work_185 (by decide) ?_
      refine bc_aload_n dX10_work_186 rfl ?_
      rw [show bc_u (bc_u (bc_u (bc_us (bc_u ξ 0 40 (nI (w + 1))) 20 (cpN (bc_u ξ 0 40 (nI (w + 1)) 19) (bc_u ξ 0 40 (nI (w + 1)) 20) 33)) 0 42 0) 0 43 0) 0 44 0 = η from hη.symm]
      refine bc_geti dX10_work_187 fX10_315 (rfl) rfl ?_
      rw [(n0 39 (by omega)).trans hl.1]
      refine bc_callV (z := mX10_goesSteps) (ci := 10) dX10_work_190 lX10_345 qX10_goesSteps (by rfl) (by rfl) (by rfl) (by rfl) (Nat.le_of_ble_eq_true rfl) (t_run hEη hst h150 (hG x hx).2 hmR rfl) (fun r190 μ190 e190 => ?_)
      obtain ⟨rfl, h190⟩ := e190
      have ⟨k1, k2, ⟨k3, k4, k5⟩, k6, k7, k8⟩ := h190
      refine bc_aload_n dX10_work_193 rfl ?_
      refine bc_aload_n dX10_work_194 rfl ?_
      refine bc_getr dX10_work_195 fX10_74 (rfl) rfl ?_
      refine bc_aload_n dX10_work_198 rfl ?_
      refine bc_getr dX10_work_199 fX10_71 (rfl) rfl ?_
      refine bc_bipush (v := 33) dX10_work_202 (by decide) ?_
      refine bc_callV (z := mX10_copies) (ci := 10) dX10_work_204 lX10_194 qX10_copies (by rfl) (by rfl) (by rfl) (by rfl) (Nat.le_of_ble_eq_true rfl) (t_copies (n := 33) (i := 20) (j := 19) rfl rfl ⟨by decide, by decide⟩ ⟨by decide, by decide⟩ (by decide)) (fun r204 μ204 e204 => ?_)
      obtain ⟨rfl, q204⟩ := e204
      obtain rfl := q204.symm
      refine bc_aload_n dX10_work_207 rfl ?_
      refine bc_aload_n dX10_work_208 rfl ?_
      refine bc_geti dX10_work_209 fX10_342 (rfl) rfl ?_
      refine bc_put dX10_work_212 fX10_210 ftX10 fpX10_41 rfl rfl (rfl) rfl ?_
      refine bc_aload_n dX10_work_215 rfl ?_
      refine bc_geti dX10_work_216 fX10_339 (rfl) rfl ?_
      exact bc_ireturn dX10_work_219 rfl rfl (by
unfold wkQ
rw [hx]
refine ⟨congrArg (fun v => some (Value.int v)) k4, ν, hw, h8, fun i a b c e f g h => ?_, fun j hj => ?_, ?_, ?_, ?_, ?_, k7, k8⟩
· rw [bc_u_ne _ _ _ a, bc_us_ne _ _ f, k1 i a b c g, ni i a g, xi i e h]
· rw [bc_u_r, if_neg (by omega), bc_us_ne _ _ (by decide), k2 j (by omega) (by omega) (by omega), n0 j hj]
· rw [bc_u_r, if_neg (by omega), bc_us_ne _ _ (by decide), k2 40 (by omega) (by omega) (by omega), n40]
· rw [bc_u_r, if_pos ⟨rfl, rfl⟩, bc_us_ne _ _ (by decide)]; exact k5
· rw [bc_u_ne _ _ _ (by decide), bc_us_ne _ _ (by decide), k1 21 (by decide) (by decide) (by decide) (by decide), ni 21 (by decide) (by decide), x21, e19, e21]
· refine k6.cg33 (fun k hk => ?_)
  show cpN (μ190 20) (μ190 19) 33 k = _
  unfold cpN
  rw [if_pos hk])
    | succ k ih =>
      intro ν v2 x hc hw h8 hl hx
      have y40 : bc_us (bc_us ν 18 (cpN (ν 17) (ν 18) (3 * z.2.length))) 21 (pwN (ν 19) (ν 21) w c) 0 40 = nI w := (hw.2.1 40 (by omega)).trans h40
      refine bc_iload_n dX10_work_123 rfl ?_
      refine bc_bipush (v := 33) dX10_work_124 (by decide) ?_
      refine bc_icmp_ge (tgt := 155) dX10_work_126 (by decide) (fun h126 => absurd h126 (by rw [show (33 : Int32) = nI 33 from rfl, Int32.not_le, bn_ltN (by omega) (by omega)]; omega)) (fun h126 => ?_)
      refine bc_aload_n dX10_work_129 rfl ?_
      refine bc_getr dX10_work_130 fX10_77 (rfl) rfl ?_
      refine bc_bipush (v := 33) dX10_work_133 (by decide) ?_
      refine bc_aload_n dX10_work_135 rfl ?_
      refine bc_geti dX10_work_136 fX10_204 (rfl) rfl ?_
      rw [y40]
      refine bc_imul dX10_work_139 ?_
      refine bc_iload_n dX10_work_140 rfl ?_
      refine bc_iadd dX10_work_141 ?_
      rw [show (33 : Int32) * nI w + nI c = nI (33 * w + c) from ixA (ixM rfl rfl) rfl]
      refine bc_aload_n dX10_work_142 rfl ?_
      refine bc_getr dX10_work_143 fX10_71 (rfl) rfl ?_
      refine bc_iload_n dX10_work_146 rfl ?_
      refine bc_ialdE dX10_work_147 (rfl) (rfl) (⟨by omega, by decide⟩) ?_
      refine bc_iastE dX10_work_148 (rfl) (rfl) (⟨by omega, by decide⟩) ?_
      refine bc_iinc1 dX10_work_149 rfl (by decide) rfl ?_
      refine bc_goto (tgt := 123) dX10_work_152 (by decide) ?_
      rw [bn_add1, bc_us_u]
      have e : upd (pwN (ν 19) (ν 21) w c) (33 * w + c) (bc_us (bc_us ν 18 (cpN (ν 17) (ν 18) (3 * z.2.length))) 21 (pwN (ν 19) (ν 21) w c) 19 c) = pwN (ν 19) (ν 21) w (c + 1) := pwN_s
      rw [e]
      exact ih (c + 1) ν _ x (by omega) hw h8 hl hx
  have tail : ∀ (ν : bc_M), wm t n no nq z.1 z.2 0 ν → wF m ν → bc_W (d + 16) LM mX10_work 89 [.ref 0, .int (nI n), .null, .null] [] ν (wkQ m no w z (wkS M L no nq A z.2)) := by
    intro ν hs hw
    cases hx : z.1 with
    | inl f =>
      rw [hx] at hs
      have hq : ν 0 5 = nI f.2 ∧ f.2 ≤ n := by
        obtain ⟨⟨-, a, -, -, h5, -, h6⟩, -⟩ := hs
        exact ⟨h5, h6⟩
      refine bc_aload_n dX10_work_89 rfl ?_
      refine bc_iconst (v := 0) dX10_work_90 (by decide) ?_
      refine bc_callV (z := mX10_result) (ci := 10) dX10_work_91 lX10_262 qX10_result (by rfl) (by rfl) (by rfl) (by rfl) (Nat.le_of_ble_eq_true rfl) (t_result _ hs.1) (fun r91 μ91 e91 => ?_)
      obtain ⟨rfl, q91⟩ := e91
      obtain rfl := q91.symm
      refine bc_istore_n dX10_work_94 (by decide) rfl ?_
      refine bc_aload_n dX10_work_95 rfl ?_
      refine bc_geti dX10_work_96 fX10_118 (rfl) rfl ?_
      rw [show bc_u ν 0 8 (rsF (.inl f)) 0 5 = nI f.2 from hq.1]
      refine bc_iconst (v := (-1)) dX10_work_99 (by decide) ?_
      refine bc_icmp_eq (tgt := 105) dX10_work_100 (by decide) (fun h100 => absurd h100 (nI_m1 (by omega))) (fun h100 => ?_)
      refine bc_iload_n dX10_work_103 rfl ?_
      exact bc_ireturn dX10_work_104 rfl rfl (by
unfold wkQ
rw [hx]
exact ⟨rfl, hw.u8, by rw [bc_u_r, if_pos ⟨rfl, rfl⟩]; rfl⟩)
    | inr x =>
      rw [hx] at hs
      have h5 : ν 0 5 = -1 := by
        obtain ⟨⟨-, a, -, -, h5, -⟩, -⟩ := hs
        exact h5
      have hcl := hs.2.2.2 x rfl
      have h150 := hG3 x hx
      have hcl8 : wlR (bc_u ν 0 8 (rsF (.inr x))) z.2 := hcl
      refine bc_aload_n dX10_work_89 rfl ?_
      refine bc_iconst (v := 0) dX10_work_90 (by decide) ?_
      refine bc_callV (z := mX10_result) (ci := 10) dX10_work_91 lX10_262 qX10_result (by rfl) (by rfl) (by rfl) (by rfl) (Nat.le_of_ble_eq_true rfl) (t_result _ hs.1) (fun r91 μ91 e91 => ?_)
      obtain ⟨rfl, q91⟩ := e91
      obtain rfl := q91.symm
      refine bc_istore_n dX10_work_94 (by decide) rfl ?_
      refine bc_aload_n dX10_work_95 rfl ?_
      refine bc_geti dX10_work_96 fX10_118 (rfl) rfl ?_
      refine bc_iconst (v := (-1)) dX10_work_99 (by decide) ?_
      refine bc_icmp_eq (tgt := 105) dX10_work_100 (by decide) (fun h100 => ?_) (fun h100 => absurd h100 (fun q => q h5))
      refine bc_aload_n dX10_work_105 rfl ?_
      refine bc_aload_n dX10_work_106 rfl ?_
      refine bc_getr dX10_work_107 fX10_65 (rfl) rfl ?_
      refine bc_aload_n dX10_work_110 rfl ?_
      refine bc_getr dX10_work_111 fX10_68 (rfl) rfl ?_
      refine bc_aload_n dX10_work_114 rfl ?_
      refine bc_geti dX10_work_115 fX10_315 (rfl) rfl ?_
      rw [hcl8.1]
      refine bc_callV (z := mX10_copies) (ci := 10) dX10_work_118 lX10_194 qX10_copies (by rfl) (by rfl) (by rfl) (by rfl) (Nat.le_of_ble_eq_true rfl) (t_copies (n := 3 * z.2.length) (i := 17) (j := 18) rfl rfl ⟨h150, by decide⟩ ⟨h150, by decide⟩ (by decide)) (fun r118 μ118 e118 => ?_)
      obtain ⟨rfl, q118⟩ := e118
      obtain rfl := q118.symm
      refine bc_iconst (v := 0) dX10_work_121 (by decide) ?_
      refine bc_istore_n dX10_work_122 (by decide) rfl ?_
      have g := rest 0 33 (bc_u ν 0 8 (rsF (.inr x))) (rsV 0 (.inr x)) x rfl hw.u8 (by rw [bc_u_r, if_pos ⟨rfl, rfl⟩]; rfl) hcl8 hx
      rw [pwN_0, show bc_us (bc_us (bc_u ν 0 8 (rsF (.inr x))) 18 (cpN (bc_u ν 0 8 (rsF (.inr x)) 17) (bc_u ν 0 8 (rsF (.inr x)) 18) (3 * z.2.length))) 21 (bc_u ν 0 8 (rsF (.inr x)) 21) = bc_us (bc_u ν 0 8 (rsF (.inr x))) 18 (cpN (bc_u ν 0 8 (rsF (.inr x)) 17) (bc_u ν 0 8 (rsF (.inr x)) 18) (3 * z.2.length)) from us_self rfl] at g
      exact g
  have loop : ∀ (k : Nat) (S : TS) (l : List PE) (ν : bc_M), z = pSs t n (ovT n) (pStp t n no nq 6) k (S, l) → wm t n no nq S l 0 ν → wF m ν → (∀ q, S = .inr q → 3 * l.length ≤ q ∧ q ≤ n ∧ n ≤ q + k) → bc_W (d + 16) LM mX10_work 68 [.ref 0, .int (nI n), .null, .null] [] ν (wkQ m no w z (wkS M L no nq A z.2)) := by
    intro k
    induction k with
    | zero =>
      intro S l ν hZ hs hw hl
      have hZ : z = (S, l) := hZ
      cases S with
      | inl f =>
        refine bc_aload_n dX10_work_68 rfl ?_
        refine bc_callV (z := mX10_fine) (ci := 10) dX10_work_69 lX10_147 qX10_fine (by rfl) (by rfl) (by rfl) (by rfl) (Nat.le_of_ble_eq_true rfl) (t_fineN hs.1) (fun r69 μ69 e69 => ?_)
        obtain ⟨rfl, q69⟩ := e69
        obtain rfl := q69.symm
        refine bc_if_eq (tgt := 89) dX10_work_72 (by decide) (fun h72 => ?_) (fun h72 => absurd h72 (fun q => q rfl))
        exact tail ν (by rw [hZ]; exact hs) hw
      | inr q =>
        have hq := hl q rfl
        refine bc_aload_n dX10_work_68 rfl ?_
        refine bc_callV (z := mX10_fine) (ci := 10) dX10_work_69 lX10_147 qX10_fine (by rfl) (by rfl) (by rfl) (by rfl) (Nat.le_of_ble_eq_true rfl) (t_fineY rfl hs.1) (fun r69 μ69 e69 => ?_)
        obtain ⟨rfl, q69⟩ := e69
        obtain rfl := q69.symm
        refine bc_if_eq (tgt := 89) dX10_work_72 (by decide) (fun h72 => absurd h72 (by decide)) (fun h72 => ?_)
        refine bc_aload_n dX10_work_75 rfl ?_
        refine bc_callV (z := mX10_isMore) (ci := 10) dX10_work_76 lX10_244 qX10_isMore (by rfl) (by rfl) (by rfl) (by rfl) (Nat.le_of_ble_eq_true rfl) (t_isMore hs.1) (fun r76 μ76 e76 => ?_)
        obtain ⟨rfl, q76⟩ := e76
        obtain rfl := q76.symm
        rw [if_neg (show ¬ q < n by omega)]
        refine bc_if_eq (tgt := 89) dX10_work_79 (by decide) (fun h79 => ?_) (fun h79 => absurd h79 (fun q => q rfl))
        exact tail _ (by rw [hZ]; exact hs.at') (hw.rF (rF.u0 (by omega)))
    | succ k ih =>
      intro S l ν hZ hs hw hl
      cases S with
      | inl f =>
        have hZ : z = (.inl f, l) := hZ
        refine bc_aload_n dX10_work_68 rfl ?_
        refine bc_callV (z := mX10_fine) (ci := 10) dX10_work_69 lX10_147 qX10_fine (by rfl) (by rfl) (by rfl) (by rfl) (Nat.le_of_ble_eq_true rfl) (t_fineN hs.1) (fun r69 μ69 e69 => ?_)
        obtain ⟨rfl, q69⟩ := e69
        obtain rfl := q69.symm
        refine bc_if_eq (tgt := 89) dX10_work_72 (by decide) (fun h72 => ?_) (fun h72 => absurd h72 (fun q => q rfl))
        exact tail ν (by rw [hZ]; exact hs) hw
      | inr q =>
        obtain ⟨j1, j2, j3⟩ := hl q rfl
        rw [pSs] at hZ
        by_cases hqn : q < n
        · rw [if_neg (show ¬ ovT n q = true from fun y => by have := of_decide_eq_true y; omega)] at hZ
          refine bc_aload_n dX10_work_68 rfl ?_
          refine bc_callV (z := mX10_fine) (ci := 10) dX10_work_69 lX10_147 qX10_fine (by rfl) (by rfl) (by rfl) (by rfl) (Nat.le_of_ble_eq_true rfl) (t_fineY rfl hs.1) (fun r69 μ69 e69 => ?_)
          obtain ⟨rfl, q69⟩ := e69
          obtain rfl := q69.symm
          refine bc_if_eq (tgt := 89) dX10_work_72 (by decide) (fun h72 => absurd h72 (by decide)) (fun h72 => ?_)
          refine bc_aload_n dX10_work_75 rfl ?_
          refine bc_callV (z := mX10_isMore) (ci := 10) dX10_work_76 lX10_244 qX10_isMore (by rfl) (by rfl) (by rfl) (by rfl) (Nat.le_of_ble_eq_true rfl) (t_isMore hs.1) (fun r76 μ76 e76 => ?_)
          obtain ⟨rfl, q76⟩ := e76
          obtain rfl := q76.symm
          rw [if_pos hqn]
          refine bc_if_eq (tgt := 89) dX10_work_79 (by decide) (fun h79 => absurd h79 (by decide)) (fun h79 => ?_)
          refine bc_aload_n dX10_work_82 rfl ?_
          refine bc_callV (z := mX10_readStep) (ci := 10) dX10_work_83 lX10_330 qX10_readStep (by rfl) (by rfl) (by rfl) (by rfl) (Nat.le_of_ble_eq_true rfl) (t_stepD hn2 hno hnq 6 (Nat.le_refl _) (d + 3) _ q l hs.at' j1) (fun r83 μ83 e83 => ?_)
          obtain ⟨rfl, f83, s83⟩ := e83
          refine bc_goto (tgt := 68) dX10_work_86 (by decide) ?_
          refine ih _ _ _ hZ s83 ((hw.rF (rF.u0 (by omega))).rF f83) (fun q' hq' => ?_)
          obtain ⟨q0, k0, k1, k2⟩ := sNeed_ok hq'
          obtain ⟨q1, ex, m1, m2, m3, m4, m5, -⟩ := (pStp_good (t := t) (n := n) hno hnq 6).2 (.inr q) l q0 (fun y hy => by cases hy; exact j2) k0
          cases m1
          have m6 := gd3_Stp (t := t) hno hnq 6 q l q0 j2 j1 k0
          exact ⟨by omega, k2, by omega⟩
        · rw [if_pos (show ovT n q = true from decide_eq_true (by omega))] at hZ
          refine bc_aload_n dX10_work_68 rfl ?_
          refine bc_callV (z := mX10_fine) (ci := 10) dX10_work_69 lX10_147 qX10_fine (by rfl) (by rfl) (by rfl) (by rfl) (Nat.le_of_ble_eq_true rfl) (t_fineY rfl hs.1) (fun r69 μ69 e69 => ?_)
          obtain ⟨rfl, q69⟩ := e69
          obtain rfl := q69.symm
          refine bc_if_eq (tgt := 89) dX10_work_72 (by decide) (fun h72 => absurd h72 (by decide)) (fun h72 => ?_)
          refine bc_aload_n dX10_work_75 rfl ?_
          refine bc_callV (z := mX10_isMore) (ci := 10) dX10_work_76 lX10_244 qX10_isMore (by rfl) (by rfl) (by rfl) (by rfl) (Nat.le_of_ble_eq_true rfl) (t_isMore hs.1) (fun r76 μ76 e76 => ?_)
          obtain ⟨rfl, q76⟩ := e76
          obtain rfl := q76.symm
          rw [if_neg hqn]
          refine bc_if_eq (tgt := 89) dX10_work_79 (by decide) (fun h79 => ?_) (fun h79 => absurd h79 (fun q => q rfl))
          exact tail _ (by rw [hZ]; exact hs.at') (hw.rF (rF.u0 (by omega)))
  have hne : ¬ nI w = 16 := by rw [show (16 : Int32) = nI 16 from rfl, bn_eqN (by omega) (by omega)]; omega
  refine bc_aload_n dX10_work_0 rfl ?_
  refine bc_iconst (v := 0) dX10_work_1 (by decide) ?_
  refine bc_put dX10_work_2 fX10_3 ftX10 fpX10_0 rfl rfl (rfl) rfl ?_
  refine bc_aload_n dX10_work_5 rfl ?_
  refine bc_iload_n dX10_work_6 rfl ?_
  refine bc_if_lt (tgt := 29) dX10_work_7 (by decide) (fun h7 => absurd h7 (bn_nn (by omega))) (fun h7 => ?_)
  refine bc_iload_n dX10_work_10 rfl ?_
  refine bc_aload_n dX10_work_11 rfl ?_
  refine bc_geti dX10_work_12 fX10_115 (rfl) rfl ?_
  rw [show bc_u m 0 0 0 0 2 = nI tp from ht]
  refine bc_icmp_gt (tgt := 29) dX10_work_15 (by decide) (fun h15 => absurd h15 (by rw [bn_ltN (by omega) (by omega)]; omega)) (fun h15 => ?_)
  refine bc_iload_n dX10_work_18 rfl ?_
  refine bc_sipush (v := 150) dX10_work_19 (by decide) ?_
  refine bc_icmp_gt (tgt := 29) dX10_work_22 (by decide) (fun h22 => absurd h22 (by rw [show (150 : Int32) = nI 150 from rfl, bn_ltN (by omega) (by omega)]; omega)) (fun h22 => ?_)
  refine bc_iconst (v := 1) dX10_work_25 (by decide) ?_
  refine bc_goto (tgt := 30) dX10_work_26 (by decide) ?_
  refine bc_iconst (v := 1) dX10_work_30 (by decide) ?_
  refine bc_iconst (v := 1) dX10_work_31 (by decide) ?_
  refine bc_callV (z := mX10_may) (ci := 10) dX10_work_32 lX10_236 qX10_may (by rfl) (by rfl) (by rfl) (by rfl) (Nat.le_of_ble_eq_true rfl) (t_mayY (k := 1) True trivial _ (by decide) rfl (by decide)) (fun r32 μ32 e32 => ?_)
  obtain ⟨rfl, q32⟩ := e32
  obtain rfl := q32.symm
  refine bc_if_ne (tgt := 40) dX10_work_35 (by decide) (fun h35 => ?_) (fun h35 => absurd h35 (by decide))
  refine bc_aload_n dX10_work_40 rfl ?_
  refine bc_iload_n dX10_work_41 rfl ?_
  refine bc_callV (z := mX10_begins) (ci := 10) dX10_work_42 lX10_240 qX10_begins (by rfl) (by rfl) (by rfl) (by rfl) (Nat.le_of_ble_eq_true rfl) (t_begins (t := t) (n := n) (by omega) (fun j hj => hb j (by omega))) (fun r42 μ42 e42 => ?_)
  obtain ⟨rfl, g1, g2, g3, g4, g5, g6⟩ := e42
  refine bc_aload_n dX10_work_45 rfl ?_
  refine bc_geti dX10_work_46 fX10_204 (rfl) rfl ?_
  rw [show μ42 0 40 = nI w from (g2 40 (by decide) (by decide) (by decide) (by decide) (by decide) (by decide)).trans h40]
  refine bc_bipush (v := 16) dX10_work_49 (by decide) ?_
  refine bc_icmp_ne (tgt := 63) dX10_work_51 (by decide) (fun h51 => ?_) (fun h51 => absurd h51 (fun q => hne q))
  refine bc_aload_n dX10_work_63 rfl ?_
  refine bc_iconst (v := 0) dX10_work_64 (by decide) ?_
  refine bc_put dX10_work_65 fX10_315 ftX10 fpX10_39 rfl rfl (rfl) rfl ?_
  have e25 : μ42 0 25 = nI nq := (g2 25 (by decide) (by decide) (by decide) (by decide) (by decide) (by decide)).trans hE.2.1.1
  have e26 : μ42 0 26 = nI no := (g2 26 (by decide) (by decide) (by decide) (by decide) (by decide) (by decide)).trans hE.2.1.2.1
  exact loop 150 (.inr (skp t n 0)) [] (bc_u μ42 0 39 0) hz.symm ⟨g6.u (by decide), g4, ⟨e25, e26⟩, fun p hp => ⟨rfl, fun i x hx => by simp at hx⟩⟩ ((wF.begin g1 g2 g3).rF (rF.u0 (by omega))) (fun q hq => by cases hq; exact ⟨Nat.zero_le _, rn_le (by omega), by omega⟩)
end T81
