/-! what a law's text comes to -/
def opL (t : Nat → Int32) (n : Nat) (ops : List (Int32 × Nat)) (p : Nat) : Option Nat := if p < n then (ops.find? (fun z => decide (z.1 = t p))).map (fun z => z.2) else none
def ops2 : List (Int32 × Nat) := [(43, 1007), (45, 1008)]
def ops3 : List (Int32 × Nat) := [(42, 1009), (47, 1010), (37, 1011)]
abbrev LSt : Type := TS × List Nat
def pLp (t : Nat → Int32) (n : Nat) (ops : List (Int32 × Nat)) (sub : LSt → LSt) : Nat → LSt → LSt
  | 0, s => s
  | _ + 1, (.inl f, l) => (.inl f, l)
  | m + 1, (.inr p, l) => match opL t n ops p with
    | none => (.inr p, l)
    | some c => pLp t n ops sub m ((sub (.inr (skp t n (p + 1)), l)).1, (sub (.inr (skp t n (p + 1)), l)).2 ++ [c])
def pPr (t : Nat → Int32) (n : Nat) (u : LSt → LSt) (s : LSt) : LSt := pLp t n ops3 u 150 (u s)
def pSu (t : Nat → Int32) (n : Nat) (u : LSt → LSt) (s : LSt) : LSt := pLp t n ops2 (pPr t n u) 150 (pPr t n u s)
def pTwo (t : Nat → Int32) (n : Nat) (g : LSt → LSt) (c : Nat) (s : LSt) : LSt :=
  (sNeed t n 93 (g (sNeed t n 44 (g (sNeed t n 91 s.1, s.2)).1, (g (sNeed t n 91 s.1, s.2)).2)).1, (g (sNeed t n 44 (g (sNeed t n 91 s.1, s.2)).1, (g (sNeed t n 91 s.1, s.2)).2)).2 ++ [c])
def pUt (t : Nat → Int32) (n : Nat) (nest : Option (LSt → LSt)) : LSt → LSt
  | (.inl f, l) => (.inl f, l)
  | (.inr p, l) =>
    if p < n ∧ isDg (t p) = true then ((sNum t n 0 1000 (.inr p)).1, l ++ [(sNum t n 0 1000 (.inr p)).2])
    else if p < n ∧ t p = 40 then (match nest with
      | none => (.inl (3, p), l)
      | some g => (sNeed t n 41 (g (.inr (skp t n (p + 1)), l)).1, (g (.inr (skp t n (p + 1)), l)).2))
    else if (sWrd t n (bw 2) (.inr p)).2 < 7 then ((sWrd t n (bw 2) (.inr p)).1, l ++ [1000 + (sWrd t n (bw 2) (.inr p)).2])
    else if (sWrd t n (bw 2) (.inr p)).2 = 99 then ((sWrd t n (bw 2) (.inr p)).1, l)
    else (match nest with
      | none => (.inl (3, p), l)
      | some g => pTwo t n g (if (sWrd t n (bw 2) (.inr p)).2 = 7 then 1012 else 1013) ((sWrd t n (bw 2) (.inr p)).1, l))
def pUn (t : Nat → Int32) (n : Nat) : Nat → LSt → LSt
  | 0 => pUt t n none
  | dep + 1 => pUt t n (some (pSu t n (pUn t n dep)))
/-- the height of the stack behind the signs e, if they can be joined -/
def chk : Nat → List Nat → Option Nat
  | h, [] => some h
  | h, x :: e => if x < 1007 then chk (h + 1) e else if x ≤ 1013 ∧ 2 ≤ h then chk (h - 1) e else none
def Ex (e : List Nat) : Prop := ∀ h, chk h e = some (h + 1)
theorem chk_app : ∀ (a b : List Nat) (h h' : Nat), chk h a = some h' → chk h (a ++ b) = chk h' b := by
  intro a
  induction a with
  | nil => intro b h h' e; simp only [chk] at e; cases e; rfl
  | cons x a ih =>
    intro b h h' e
    simp only [chk, List.cons_append] at e ⊢
    split
    · rename_i h1
      rw [if_pos h1] at e
      exact ih b _ _ e
    · rename_i h1
      rw [if_neg h1] at e
      split
      · rename_i h2
        rw [if_pos h2] at e
        exact ih b _ _ e
      · rename_i h2
        rw [if_neg h2] at e
        cases e
theorem Ex_one {x : Nat} (h : x < 1007) : Ex [x] := by
  intro h'
  simp only [chk, if_pos h]
theorem Ex_join {a b : List Nat} {c : Nat} (ha : Ex a) (hb : Ex b) (h1 : 1007 ≤ c) (h2 : c ≤ 1013) : Ex (a ++ (b ++ [c])) := by
  intro h
  rw [chk_app a _ h _ (ha h), chk_app b _ _ _ (hb (h + 1))]
  simp only [chk]
  rw [if_neg (by omega), if_pos ⟨h2, by omega⟩]
  congr 1
def good (n : Nat) (u : LSt → LSt) : Prop := (∀ f l, (u (.inl f, l)).1 = .inl f) ∧ ∀ S l p', (∀ p, S = .inr p → p ≤ n) → (u (S, l)).1 = .inr p' → ∃ p e, S = .inr p ∧ (u (S, l)).2 = l ++ e ∧ Ex e ∧ p < p' ∧ p' ≤ n ∧ e.length + p ≤ p'
theorem sNeed_inl {t : Nat → Int32} {n : Nat} {c : Int32} {f : Nat × Nat} : sNeed t n c (.inl f) = .inl f := rfl
theorem opL_ok {t : Nat → Int32} {n : Nat} {ops : List (Int32 × Nat)} {p c : Nat} (h : opL t n ops p = some c) (ho : ∀ z ∈ ops, 1007 ≤ z.2 ∧ z.2 ≤ 1013) : p < n ∧ 1007 ≤ c ∧ c ≤ 1013 := by
  unfold opL at h
  split at h
  · rename_i hp
    refine ⟨hp, ?_⟩
    cases hf : ops.find? (fun z => decide (z.1 = t p)) with
    | none => rw [hf] at h; cases h
    | some z =>
      rw [hf] at h
      cases h
      exact ho z (List.mem_of_find?_eq_some hf)
  · cases h
theorem pLp_good {t : Nat → Int32} {n : Nat} {ops : List (Int32 × Nat)} {u : LSt → LSt} (hu : good n u) (ho : ∀ z ∈ ops, 1007 ≤ z.2 ∧ z.2 ≤ 1013) : ∀ (m : Nat), (∀ f l, pLp t n ops u m (.inl f, l) = (.inl f, l)) ∧ ∀ (S : TS) (l e0 : List Nat) (p' : Nat), Ex e0 → (∀ p, S = .inr p → p ≤ n) → (pLp t n ops u m (S, l ++ e0)).1 = .inr p' → ∃ p e, S = .inr p ∧ (pLp t n ops u m (S, l ++ e0)).2 = l ++ e ∧ Ex e ∧ p ≤ p' ∧ p' ≤ n ∧ e.length + p ≤ p' + e0.length := by
  intro m
  induction m with
  | zero =>
    refine ⟨fun f l => rfl, ?_⟩
    intro S l e0 p' he hn h
    exact ⟨p', e0, h, rfl, he, Nat.le_refl _, hn _ h, by omega⟩
  | succ m ih =>
    refine ⟨fun f l => rfl, ?_⟩
    intro S l e0 p' he hn h
    cases S with
    | inl f => cases h
    | inr p =>
      have hpn := hn p rfl
      simp only [pLp] at h ⊢
      cases ho' : opL t n ops p with
      | none =>
        rw [ho'] at h
        exact ⟨p, e0, rfl, rfl, he, by have := Sum.inr.inj h; omega, by have := Sum.inr.inj h; omega, by have := Sum.inr.inj h; omega⟩
      | some c =>
        rw [ho'] at h
        obtain ⟨hp, hc1, hc2⟩ := opL_ok ho' ho
        simp only at h ⊢
        cases hs : (u (.inr (skp t n (p + 1)), l ++ e0)).1 with
        | inl f => rw [hs, ih.1] at h; cases h
        | inr p2 =>
          obtain ⟨p1, e, e1, e2, e3, e4, e5, e6⟩ := hu.2 _ _ _ (fun x hx => by cases hx; exact rn_le (by omega)) hs
          have e1 := Sum.inr.inj e1
          rw [hs] at h
          rw [e2, show l ++ e0 ++ e ++ [c] = l ++ (e0 ++ (e ++ [c])) by simp] at h ⊢
          obtain ⟨p3, e', a1, a2, a3, a4, a5, a6⟩ := ih.2 (.inr p2) l (e0 ++ (e ++ [c])) p' (Ex_join he e3 hc1 hc2) (fun x hx => by cases hx; exact e5) h
          have a1 := Sum.inr.inj a1
          have hsk : p + 1 ≤ skp t n (p + 1) := rn_ge _ _ _ _
          refine ⟨p, e', rfl, a2, a3, by omega, a5, ?_⟩
          simp only [List.length_append, List.length_cons, List.length_nil] at a6
          omega
theorem ops2_ok : ∀ z ∈ ops2, 1007 ≤ z.2 ∧ z.2 ≤ 1013 := by decide
theorem ops3_ok : ∀ z ∈ ops3, 1007 ≤ z.2 ∧ z.2 ≤ 1013 := by decide
theorem lp_good {t : Nat → Int32} {n : Nat} {ops : List (Int32 × Nat)} {u : LSt → LSt} (hu : good n u) (ho : ∀ z ∈ ops, 1007 ≤ z.2 ∧ z.2 ≤ 1013) : good n (fun s => pLp t n ops u 150 (u s)) := by
  refine ⟨?_, ?_⟩
  · intro f l
    show (pLp t n ops u 150 (u (.inl f, l))).1 = _
    have h1 := hu.1 f l
    rw [show u (.inl f, l) = ((u (.inl f, l)).1, (u (.inl f, l)).2) from rfl, h1, (pLp_good hu ho 150).1]
  · intro S l p' hn h
    have h : (pLp t n ops u 150 (u (S, l))).1 = .inr p' := h
    show ∃ p e, S = .inr p ∧ (pLp t n ops u 150 (u (S, l))).2 = l ++ e ∧ _
    cases hs : (u (S, l)).1 with
    | inl f =>
      rw [show u (S, l) = ((u (S, l)).1, (u (S, l)).2) from rfl, hs, (pLp_good hu ho 150).1] at h
      cases h
    | inr p2 =>
      obtain ⟨p1, e, e1, e2, e3, e4, e5, e6⟩ := hu.2 _ _ _ hn hs
      rw [show u (S, l) = ((u (S, l)).1, (u (S, l)).2) from rfl, hs, e2] at h ⊢
      obtain ⟨p3, e', a1, a2, a3, a4, a5, a6⟩ := (pLp_good hu ho 150).2 (.inr p2) l e p' e3 (fun x hx => by cases hx; exact e5) h
      have a1 := Sum.inr.inj a1
      exact ⟨p1, e', e1, a2, a3, by omega, a5, by omega⟩
theorem pPr_good {t : Nat → Int32} {n : Nat} {u : LSt → LSt} (hu : good n u) : good n (pPr t n u) := lp_good hu ops3_ok
theorem pSu_good {t : Nat → Int32} {n : Nat} {u : LSt → LSt} (hu : good n u) : good n (pSu t n u) := lp_good (pPr_good hu) ops2_ok
theorem sWrd_ok {t : Nat → Int32} {n : Nat} {W : List (List Int32)} {p p' : Nat} (hW : [] ∉ W) (h : (sWrd t n W (.inr p)).1 = .inr p') (hp : p ≤ n) : p < p' ∧ p' ≤ n ∧ (sWrd t n W (.inr p)).2 < W.length ∧ p' = skp t n (ltE t n p) ∧ W[(sWrd t n W (.inr p)).2]? = some (wd t n p) := by
  unfold sWrd at h ⊢
  by_cases hi : W.idxOf (wd t n p) < W.length
  · simp only [if_pos hi] at h ⊢
    have e := Sum.inr.inj h
    have hm := List.idxOf_lt_length_iff.mp hi
    have hne : wd t n p ≠ [] := fun x => hW (x ▸ hm)
    have hl : p < ltE t n p := by
      apply Nat.lt_of_not_le
      intro x
      apply hne
      unfold wd
      rw [show ltE t n p - p = 0 by omega]
      rfl
    have a2 : ltE t n p ≤ skp t n (ltE t n p) := rn_ge _ _ _ _
    refine ⟨by omega, ?_, hi, e.symm, ?_⟩
    · rw [← e]; exact rn_le (rn_le hp)
    · rw [List.getElem?_eq_getElem hi, List.getElem_idxOf hi]
  · simp only [if_neg hi] at h; cases h
theorem bw2_ne : ([] : List Int32) ∉ bw 2 := by decide
theorem bw2_len : (bw 2).length = 9 := rfl
theorem pTwo_ok {t : Nat → Int32} {n c : Nat} {g : LSt → LSt} (hg : good n g) {S : TS} {l : List Nat} {p' : Nat} (h : (pTwo t n g c (S, l)).1 = .inr p') : ∃ p e e', S = .inr p ∧ (pTwo t n g c (S, l)).2 = l ++ (e ++ (e' ++ [c])) ∧ Ex e ∧ Ex e' ∧ p < p' ∧ p' ≤ n ∧ e.length + e'.length + 3 + p ≤ p' := by
  unfold pTwo at h ⊢
  simp only at h ⊢
  obtain ⟨p5, b5, c5, d5⟩ := sNeed_ok h
  obtain ⟨p4, e', b4, f4, g4, c4, d4, k4⟩ := hg.2 _ _ _ (fun x hx => by obtain ⟨y, -, -, z⟩ := sNeed_ok hx; exact z) b5
  obtain ⟨p3, b3, c3, d3⟩ := sNeed_ok b4
  obtain ⟨p2, e, b2, f2, g2, c2, d2, k2⟩ := hg.2 _ _ _ (fun x hx => by obtain ⟨y, -, -, z⟩ := sNeed_ok hx; exact z) b3
  obtain ⟨p1, b1, c1, d1⟩ := sNeed_ok b2
  refine ⟨p1, e, e', b1, ?_, g2, g4, by omega, d5, by omega⟩
  rw [f4, f2]
  simp
theorem pUt_ok {t : Nat → Int32} {n : Nat} {nest : Option (LSt → LSt)} (hg : ∀ g, nest = some g → good n g) {p p' : Nat} {l : List Nat} (hp : p ≤ n) (h : (pUt t n nest (.inr p, l)).1 = .inr p') : ∃ e, (pUt t n nest (.inr p, l)).2 = l ++ e ∧ Ex e ∧ p < p' ∧ p' ≤ n ∧ e.length + p ≤ p' := by
  simp only [pUt] at h ⊢
  by_cases hD : p < n ∧ isDg (t p) = true
  · simp only [if_pos hD] at h ⊢
    obtain ⟨⟨p0, a1, a2, a3⟩, b1, b2⟩ := sNum_ok h
    have a1 := Sum.inr.inj a1
    exact ⟨_, rfl, Ex_one (by omega), by omega, a3, by simp; omega⟩
  · simp only [if_neg hD] at h ⊢
    by_cases hB : p < n ∧ t p = 40
    · simp only [if_pos hB] at h ⊢
      cases nest with
      | none => cases h
      | some g =>
        simp only at h ⊢
        obtain ⟨p1, b1, c1, d1⟩ := sNeed_ok h
        obtain ⟨p2, e, b2, f2, g2, c2, d2, k2⟩ := (hg g rfl).2 _ _ _ (fun x hx => by cases hx; exact rn_le (by omega)) b1
        have b2 := Sum.inr.inj b2
        have hsk : p + 1 ≤ skp t n (p + 1) := rn_ge _ _ _ _
        exact ⟨e, f2, g2, by omega, by omega, by omega⟩
    · simp only [if_neg hB] at h ⊢
      by_cases h7 : (sWrd t n (bw 2) (.inr p)).2 < 7
      · simp only [if_pos h7] at h ⊢
        obtain ⟨a1, a2, a3, -, -⟩ := sWrd_ok bw2_ne h hp
        exact ⟨_, rfl, Ex_one (by omega), a1, a2, by simp; omega⟩
      · simp only [if_neg h7] at h ⊢
        by_cases h99 : (sWrd t n (bw 2) (.inr p)).2 = 99
        · simp only [if_pos h99] at h ⊢
          obtain ⟨a1, a2, a3, -, -⟩ := sWrd_ok bw2_ne h hp
          rw [bw2_len] at a3
          omega
        · simp only [if_neg h99] at h ⊢
          cases nest with
          | none => cases h
          | some g =>
            simp only at h ⊢
            obtain ⟨p1, e, e', b1, b2, b3, b4, b5, b6, b7⟩ := pTwo_ok (hg g rfl) h
            obtain ⟨a1, a2, a3, -, -⟩ := sWrd_ok bw2_ne b1 hp
            refine ⟨_, b2, Ex_join b3 b4 (by split <;> omega) (by split <;> omega), by omega, b6, ?_⟩
            simp only [List.length_append, List.length_cons, List.length_nil]
            omega
theorem pUt_good {t : Nat → Int32} {n : Nat} {nest : Option (LSt → LSt)} (hg : ∀ g, nest = some g → good n g) : good n (pUt t n nest) := by
  refine ⟨fun f l => rfl, ?_⟩
  intro S l p' hn h
  cases S with
  | inl f => cases h
  | inr p =>
    obtain ⟨e, a⟩ := pUt_ok hg (hn p rfl) h
    exact ⟨p, e, rfl, a⟩
theorem pUn_good {t : Nat → Int32} {n : Nat} : ∀ dep, good n (pUn t n dep) := by
  intro dep
  induction dep with
  | zero => exact pUt_good (fun g h => by cases h)
  | succ dep ih => exact pUt_good (fun g h => by cases h; exact pSu_good ih)
