/-! a city as a row; what a step makes of it; a run -/
theorem sm_cg {f g : Nat → Int32} : ∀ k, (∀ i, i < k → f i = g i) → sm k f = sm k g := by
  intro k
  induction k with
  | zero => intro _; simp only [sm]
  | succ k ih =>
    intro h
    simp only [sm]
    rw [ih (fun i hi => h i (by omega)), h k (by omega)]
theorem dpS_cg {S S' : Nat → Int32} : ∀ k, (∀ i, i < k → S i = S' i) → dpS S k = dpS S' k := by
  intro k
  induction k with
  | zero => intro _; simp only [dpS]
  | succ k ih =>
    intro h
    simp only [dpS]
    rw [ih (fun i hi => h i (by omega)), h k (by omega)]
theorem evA_cg {S S' F z : Nat → Int32} : ∀ k, (∀ i, i < k → S i = S' i) → evA S F z k = evA S' F z k := by
  intro k
  induction k with
  | zero => intro _; funext j; simp only [evA]
  | succ k ih =>
    intro h
    have h1 := ih (fun i hi => h i (by omega))
    have h2 := dpS_cg k (fun i hi => h i (by omega))
    funext j
    simp only [evA]
    rw [h1, h2, h k (by omega)]
theorem lawV_cg {S S' F : Nat → Int32} {n : Nat} (h : ∀ i, i < n → S i = S' i) : lawV S n F = lawV S' n F := by
  unfold lawV
  rw [evA_cg n h]
theorem mB_cg {no : Nat} {hm sg hm' sg' : Nat → Int32} {lit q : Int32} (h : ∀ o, o < no → hm o = hm' o ∧ sg o = sg' o) : mB no hm sg lit q = mB no hm' sg' lit q := by
  unfold mB
  exact sm_cg no (fun o ho => by rw [(h o ho).1, (h o ho).2])
theorem mN_cg {no : Nat} {hm hm' : Nat → Int32} {lit q : Int32} (h : ∀ o, o < no → hm o = hm' o) : mN no hm lit q = mN no hm' lit q := by
  unfold mN
  exact sm_cg no (fun o ho => by rw [h o ho])
theorem mA_cg {no : Nat} {sg sg' : Nat → Int32} {lit : Int32} (h : ∀ o, o < no → sg o = sg' o) : mA no sg lit = mA no sg' lit := by
  unfold mA
  exact sm_cg no (fun o ho => by rw [h o ho])
/-- two memories in which c and c' lean alike -/
def eqV (n no nq c c' : Nat) (μ ν : bc_M) : Prop := (∀ q, q < nq → ν 4 q = μ 4 q ∧ ν 5 q = μ 5 q ∧ ν (c' + 3) q = μ (c + 3) q) ∧ (∀ o, o < no → ν 6 o = μ 6 o ∧ ν 7 o = μ 7 o) ∧ (∀ k, k < n → ν 20 k = μ 20 k) ∧ ν c' 7 = μ c 7
theorem mL_eqV {n no nq c c' : Nat} {μ ν : bc_M} (h : eqV n no nq c c' μ ν) {lit H : Int32} {q : Nat} (hq : q < nq) : mL ν c' n no lit H q = mL μ c n no lit H q := by
  unfold mL
  rw [lawV_cg h.2.2.1, mB_cg h.2.1, mN_cg (fun o ho => (h.2.1 o ho).1), mA_cg (fun o ho => (h.2.1 o ho).2), (h.1 q hq).1, (h.1 q hq).2.1, (h.1 q hq).2.2, h.2.2.2]
theorem mS_eqV {n no nq c c' : Nat} {μ ν : bc_M} (h : eqV n no nq c c' μ ν) {lit H : Int32} {j k : Nat} (hk : k ≤ nq) : mS ν c' n no lit H j k = mS μ c n no lit H j k := by
  unfold mS
  refine sm_cg k (fun q hq => ?_)
  rw [(h.1 q (by omega)).1, mL_eqV h (by omega : q < nq)]
theorem ea_eqV {n no nq c c' : Nat} {μ ν : bc_M} (h : eqV n no nq c c' μ ν) {lit H : Int32} : eaM ν c' n no nq lit H = eaM μ c n no nq lit H := by
  unfold eaM
  rw [mS_eqV h (Nat.le_refl _), mS_eqV h (Nat.le_refl _)]
theorem no_eqV {n no nq c c' : Nat} {μ ν : bc_M} (h : eqV n no nq c c' μ ν) {lit H : Int32} : noM ν c' n no nq lit H = noM μ c n no nq lit H := by
  unfold noM
  rw [mS_eqV h (Nat.le_refl _), mS_eqV h (Nat.le_refl _)]
theorem lbM_cg {f g : Nat → Int32} {h : Int32} : ∀ k, (∀ i, i < k → f i = g i) → lbM f h k = lbM g h k := by
  intro k
  induction k with
  | zero => intro _; rfl
  | succ k ih =>
    intro hh
    simp only [lbM]
    rw [ih (fun i hi => hh i (by omega)), hh k (by omega)]
theorem opB_cg {μ ν : bc_M} (h : ∀ y, y < 31 → ν 10 y = μ 10 y) : opB ν = opB μ := by
  funext x y
  unfold opB en
  by_cases hy : 0 ≤ y.toInt ∧ y.toInt < (31 : Nat)
  · rw [if_pos hy, if_pos hy, h _ (by rw [bn_clamp]; omega)]
  · rw [if_neg hy, if_neg hy]
abbrev Row : Type := Nat → Int32
def row (c : Nat) (μ : bc_M) : Row := fun k => if k < 6 then μ c (k + 2) else if k < 14 then μ (c + 1) (k - 6) else if k < 22 then μ (c + 2) (k - 14) else if k < 28 then μ (c + 3) (k - 22) else 0
def plug (m : bc_M) (A : Row) : bc_M := fun i j => if i = 31 ∧ 2 ≤ j ∧ j ≤ 7 then A (j - 2) else if i = 32 ∧ j < 8 then A (j + 6) else if i = 33 ∧ j < 8 then A (j + 14) else if i = 34 ∧ j < 6 then A (j + 22) else m i j
def hourR (m : bc_M) (n no nq : Nat) (A : Row) : Row := fun k =>
  if k = 0 then (mvM (opB m) (eaM (plug m A) 31 n no nq (lbM (fun o => A (o + 6)) 0 no) (A 2)) (noM (plug m A) 31 n no nq (lbM (fun o => A (o + 6)) 0 no) (A 2)) (A 0, A 1, A 4)).1
  else if k = 1 then (mvM (opB m) (eaM (plug m A) 31 n no nq (lbM (fun o => A (o + 6)) 0 no) (A 2)) (noM (plug m A) 31 n no nq (lbM (fun o => A (o + 6)) 0 no) (A 2)) (A 0, A 1, A 4)).2.1
  else if k = 2 then A 2 + 1
  else if k = 4 then (mvM (opB m) (eaM (plug m A) 31 n no nq (lbM (fun o => A (o + 6)) 0 no) (A 2)) (noM (plug m A) 31 n no nq (lbM (fun o => A (o + 6)) 0 no) (A 2)) (A 0, A 1, A 4)).2.2
  else if 6 ≤ k ∧ k < 14 then dec1 (A k) else A k
/-- the places that say what the bog and the law are -/
def envE (m μ : bc_M) : Prop := (∀ i j, 3 ≤ i → i ≤ 10 → μ i j = m i j) ∧ μ 19 1 = m 19 1 ∧ ∀ j, μ 20 j = m 20 j
theorem okB_env {m μ : bc_M} {n no nq : Nat} (h : envE m μ) (hB : okB m n no nq) : okB μ n no nq := by
  obtain ⟨⟨a1, a2, a3⟩, ⟨b1, b2, b3⟩, c1, c2⟩ := hB
  refine ⟨⟨(h.1 3 1 (by omega) (by omega)).trans a1, a2, fun o ho => ?_⟩, ⟨(h.1 3 0 (by omega) (by omega)).trans b1, b2, fun q hq => ?_⟩, h.2.1.trans c1, ?_⟩
  · obtain ⟨j, hj, e⟩ := a3 o ho
    exact ⟨j, hj, (h.1 6 o (by omega) (by omega)).trans e⟩
  · obtain ⟨j, hj, e⟩ := b3 q hq
    exact ⟨j, hj, (h.1 4 q (by omega) (by omega)).trans e⟩
  · rw [show μ 20 = m 20 from funext h.2.2]; exact c2
theorem row_v {c : Nat} {μ : bc_M} {k : Nat} (h : k < 6) : row c μ k = μ c (k + 2) := by unfold row; rw [if_pos h]
theorem row_hl {c : Nat} {μ : bc_M} {o : Nat} (h : o < 8) : row c μ (o + 6) = μ (c + 1) o := by
  unfold row; rw [if_neg (by omega), if_pos (by omega)]; congr 1
theorem row_tl {c : Nat} {μ : bc_M} {o : Nat} (h : o < 8) : row c μ (o + 14) = μ (c + 2) o := by
  unfold row; rw [if_neg (by omega), if_neg (by omega), if_pos (by omega)]; congr 1
theorem row_on {c : Nat} {μ : bc_M} {o : Nat} (h : o < 6) : row c μ (o + 22) = μ (c + 3) o := by
  unfold row; rw [if_neg (by omega), if_neg (by omega), if_neg (by omega), if_pos (by omega)]; congr 1
theorem row_out {c : Nat} {μ : bc_M} {k : Nat} (h : 28 ≤ k) : row c μ k = 0 := by
  unfold row; rw [if_neg (by omega), if_neg (by omega), if_neg (by omega), if_neg (by omega)]
theorem plug_eqV {m μ : bc_M} {n no nq c : Nat} (h : envE m μ) (hq : nq ≤ 6) : eqV n no nq 31 c (plug m (row c μ)) μ := by
  refine ⟨fun q hqq => ?_, fun o ho => ?_, fun k hk => ?_, ?_⟩
  · have e4 : plug m (row c μ) 4 q = m 4 q := by unfold plug; rw [if_neg (by omega), if_neg (by omega), if_neg (by omega), if_neg (by omega)]
    have e5 : plug m (row c μ) 5 q = m 5 q := by unfold plug; rw [if_neg (by omega), if_neg (by omega), if_neg (by omega), if_neg (by omega)]
    have e6 : plug m (row c μ) (31 + 3) q = row c μ (q + 22) := by unfold plug; rw [if_neg (by omega), if_neg (by omega), if_neg (by omega), if_pos (by omega)]
    rw [e4, e5, e6, row_on (by omega)]
    exact ⟨h.1 4 q (by omega) (by omega), h.1 5 q (by omega) (by omega), rfl⟩
  · have e4 : plug m (row c μ) 6 o = m 6 o := by unfold plug; rw [if_neg (by omega), if_neg (by omega), if_neg (by omega), if_neg (by omega)]
    have e5 : plug m (row c μ) 7 o = m 7 o := by unfold plug; rw [if_neg (by omega), if_neg (by omega), if_neg (by omega), if_neg (by omega)]
    rw [e4, e5]
    exact ⟨h.1 6 o (by omega) (by omega), h.1 7 o (by omega) (by omega)⟩
  · have e4 : plug m (row c μ) 20 k = m 20 k := by unfold plug; rw [if_neg (by omega), if_neg (by omega), if_neg (by omega), if_neg (by omega)]
    rw [e4]; exact h.2.2 k
  · have e4 : plug m (row c μ) 31 7 = row c μ 5 := by unfold plug; rw [if_pos (by omega)]
    rw [e4, row_v (by omega)]
theorem hr_row {m μ ν : bc_M} {n no nq c : Nat} (hc : cok c) (h : envE m μ) (hB : okB m n no nq) (hI : hrI c n no nq μ ν) : row c ν = hourR m n no nq (row c μ) := by
  obtain ⟨h1, h2, h3, h4⟩ := hI
  have hq : nq ≤ 6 := hB.2.1.2.1
  have ho : no ≤ 8 := hB.1.2.1
  have hV := plug_eqV (n := n) (no := no) (c := c) h hq
  have hlb : lbM (μ (c + 1)) 0 no = lbM (fun o => row c μ (o + 6)) 0 no := lbM_cg no (fun i hi => (row_hl (by omega)).symm)
  have hop : opB μ = opB m := opB_cg (fun y hy => h.1 10 y (by omega) (by omega))
  rw [ea_eqV hV, no_eqV hV, hlb, hop] at h4
  have r0 : row c μ 0 = μ c 2 := row_v (by omega)
  have r1 : row c μ 1 = μ c 3 := row_v (by omega)
  have r2 : row c μ 2 = μ c 4 := row_v (by omega)
  have r4 : row c μ 4 = μ c 6 := row_v (by omega)
  have hx : xya c μ = (row c μ 0, row c μ 1, row c μ 4) := by unfold xya; rw [r0, r1, r4]
  rw [hx, ← r2] at h4
  have hsc : ∀ i k, i = c + 2 ∨ i = c + 3 → ν i k = μ i k := by
    intro i k hi
    rcases hc with rfl | rfl <;> exact h1 i k (by unfold scr; omega) (by omega) (by omega)
  have hsc2 : ∀ k, k = 5 ∨ k = 7 → ν c k = μ c k := by
    intro k hk
    rcases hc with rfl | rfl <;> exact h1 _ k (by unfold scr; omega) (by omega) (by omega)
  funext k
  unfold hourR
  by_cases k0 : k = 0
  · subst k0; rw [if_pos rfl, ← h4, row_v (by omega)]; rfl
  · rw [if_neg k0]
    by_cases k1 : k = 1
    · subst k1; rw [if_pos rfl, ← h4, row_v (by omega)]; rfl
    · rw [if_neg k1]
      by_cases k2 : k = 2
      · subst k2; rw [if_pos rfl, row_v (by omega), r2]; exact h2
      · rw [if_neg k2]
        by_cases k4 : k = 4
        · subst k4; rw [if_pos rfl, ← h4, row_v (by omega)]; rfl
        · rw [if_neg k4]
          by_cases k6 : 6 ≤ k ∧ k < 14
          · rw [if_pos k6]
            obtain ⟨o, rfl⟩ : ∃ o, k = o + 6 := ⟨k - 6, by omega⟩
            rw [row_hl (by omega), row_hl (by omega)]
            exact h3 o (by omega)
          · rw [if_neg k6]
            by_cases k28 : k < 28
            · by_cases kk : k < 6
              · rw [row_v kk, row_v kk]; exact hsc2 _ (by omega)
              · by_cases k22 : k < 22
                · obtain ⟨o, rfl⟩ : ∃ o, k = o + 14 := ⟨k - 14, by omega⟩
                  rw [row_tl (by omega), row_tl (by omega)]; exact hsc _ _ (by omega)
                · obtain ⟨o, rfl⟩ : ∃ o, k = o + 22 := ⟨k - 22, by omega⟩
                  rw [row_on (by omega), row_on (by omega)]; exact hsc _ _ (by omega)
            · rw [row_out (by omega), row_out (by omega)]
/-- what a step z makes of the row A -/
def actR (m : bc_M) (n no nq : Nat) (z : PE) (A : Row) : Bool × Row :=
  if z.1 = 0 then (if 0 < A (z.2.1 + 6) ∨ ¬ 0 < A 3 then (false, A) else (true, upd (upd (upd A (z.2.1 + 6) 4) (z.2.1 + 14) (A (z.2.1 + 14) + 1)) 3 (A 3 - 1)))
  else if z.1 = 1 then (if 0 < A (z.2.1 + 6) then (true, upd A (z.2.1 + 6) 0) else (false, A))
  else if z.1 = 2 then (if A (z.2.1 + 22) = nI z.2.2 then (false, A) else (true, upd A (z.2.1 + 22) (nI z.2.2)))
  else if z.1 = 3 then (true, upd A 5 (A 5 ^^^ 1 <<< (nI z.2.1 &&& 31)))
  else (if 900 ≤ A 2 then (false, A) else (true, hourR m n no nq A))
abbrev RSt : Type := Nat × Nat × Nat × Row
def iterR (g : RSt → RSt) : Nat → RSt → RSt
  | 0, s => s
  | k + 1, s => g (iterR g k s)
def rstep (act : PE → Row → Bool × Row) (z : PE) (s : RSt) : RSt := (s.1 + 1, s.2.1 + (if (act z s.2.2.2).1 = true then 1 else 0), s.2.2.1 + (if (act z s.2.2.2).1 = true then 0 else 1), (act z s.2.2.2).2)
def runP (l : List PE) (act : PE → Row → Bool × Row) : Nat → Nat → Nat → RSt → RSt
  | 0, _, _, s => s
  | m + 1, p, q, s => if p < q ∧ s.1 < 200 then (match l[p]? with
      | none => s
      | some z => if z.1 = 5 then runP l act m z.2.2 q (iterR (runP l act m (p + 1) z.2.2) z.2.1 (s.1 + 1, s.2)) else runP l act m (p + 1) q (rstep act z s)) else s
theorem iterR_mono {g : RSt → RSt} (hg : ∀ s, s.1 ≤ (g s).1) : ∀ k s, s.1 ≤ (iterR g k s).1 := by
  intro k
  induction k with
  | zero => intro s; exact Nat.le_refl _
  | succ k ih => intro s; exact Nat.le_trans (ih s) (hg _)
theorem runP_mono {l : List PE} {act : PE → Row → Bool × Row} : ∀ m p q s, s.1 ≤ (runP l act m p q s).1 := by
  intro m
  induction m with
  | zero => intro p q s; exact Nat.le_refl _
  | succ m ih =>
    intro p q s
    simp only [runP]
    split
    · split
      · exact Nat.le_refl _
      · split
        · refine Nat.le_trans ?_ (ih _ _ _)
          have h9 : ∀ e k, s.1 + 1 ≤ (iterR (runP l act m (p + 1) e) k (s.1 + 1, s.2)).1 := fun e k => iterR_mono (ih (p + 1) e) k (s.1 + 1, s.2)
          exact Nat.le_trans (Nat.le_succ _) (h9 _ _)
        · exact Nat.le_trans (Nat.le_succ _) (ih _ _ (rstep act _ s))
    · exact Nat.le_refl _
theorem runP_le {l : List PE} {act : PE → Row → Bool × Row} : ∀ m p q s, s.1 ≤ 200 → (runP l act m p q s).1 ≤ 200 := by
  intro m
  induction m with
  | zero => intro p q s h; exact h
  | succ m ih =>
    intro p q s h
    simp only [runP]
    split
    · rename_i hc
      split
      · exact h
      · split
        · refine ih _ _ _ ?_
          have : ∀ e k, (iterR (runP l act m (p + 1) e) k (s.1 + 1, s.2)).1 ≤ 200 := by
            intro e k
            induction k with
            | zero => exact hc.2
            | succ k ik => exact ih _ _ _ ik
          exact this _ _
        · exact ih _ _ _ hc.2
    · exact h
theorem BlkX_cs {no nq : Nat} {l : List PE} {dep p q : Nat} (h : BlkX no nq l dep p q) : p = q ∨ (p < q ∧ ∃ z, l[p]? = some z ∧ ((okE no nq z ∧ BlkX no nq l dep (p + 1) q) ∨ (z.1 = 5 ∧ z.2.1 ≤ 30 ∧ ∃ dep', dep = dep' + 1 ∧ BlkX no nq l dep' (p + 1) z.2.2 ∧ p + 1 ≤ z.2.2 ∧ z.2.2 ≤ q ∧ BlkX no nq l dep z.2.2 q))) := by
  obtain ⟨m, h⟩ := h
  cases m with
  | zero => exact .inl h
  | succ m =>
    rcases h with h | ⟨h, z, hz, hc⟩
    · exact .inl h
    · refine .inr ⟨h, z, hz, ?_⟩
      rcases hc with ⟨h1, h2⟩ | ⟨h1, h2, dep', h3, h4, h5, h6⟩
      · exact .inl ⟨h1, m, h2⟩
      · exact .inr ⟨h1, h2, dep', h3, ⟨m, h4⟩, Blk_le _ _ _ _ h4, h5, m, h6⟩
