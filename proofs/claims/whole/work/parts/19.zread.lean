/-! what a bog's text comes to -/
abbrev BG : Type := List (Nat × Nat) × List (Nat × Nat) × List (Nat × Nat) × List (Nat × Nat) × Nat × Nat × Nat
def sTwo (t : Nat → Int32) (n lo1 hi1 lo2 hi2 : Nat) (S : TS) : TS × Nat × Nat := ((sNum t n lo2 hi2 (sNum t n lo1 hi1 S).1).1, (sNum t n lo1 hi1 S).2, (sNum t n lo2 hi2 (sNum t n lo1 hi1 S).1).2)
theorem sNum_ok {t : Nat → Int32} {n lo hi : Nat} {S : TS} {p : Nat} (h : (sNum t n lo hi S).1 = .inr p) : (∃ p0, S = .inr p0 ∧ p0 < p ∧ p ≤ n) ∧ lo ≤ (sNum t n lo hi S).2 ∧ (sNum t n lo hi S).2 < hi := by
  cases S with
  | inl f => cases h
  | inr p0 =>
    simp only [sNum] at h ⊢
    split at h
    · rename_i h1
      rw [if_pos h1]
      split at h
      · rename_i h2
        rw [if_pos h2]
        have e := Sum.inr.inj h
        refine ⟨⟨p0, rfl, ?_, ?_⟩, h2⟩
        · have a1 : dgE t n p0 = dgE t n (p0 + 1) := rn_go h1.1 h1.2
          have a2 : p0 + 1 ≤ dgE t n (p0 + 1) := rn_ge _ _ _ _
          have a3 : dgE t n p0 ≤ skp t n (dgE t n p0) := rn_ge _ _ _ _
          omega
        · rw [← e]
          exact rn_le (rn_le (by omega))
      · cases h
    · cases h
theorem sNeed_ok {t : Nat → Int32} {n : Nat} {c : Int32} {S : TS} {p : Nat} (h : sNeed t n c S = .inr p) : ∃ p0, S = .inr p0 ∧ p0 < p ∧ p ≤ n := by
  cases S with
  | inl f => cases h
  | inr p0 =>
    simp only [sNeed] at h
    split at h
    · rename_i h1
      have e := Sum.inr.inj h
      have a3 : p0 + 1 ≤ skp t n (p0 + 1) := rn_ge _ _ _ _
      have a4 : skp t n (p0 + 1) ≤ n := rn_le (by omega)
      exact ⟨p0, rfl, by omega, by omega⟩
    · cases h
theorem sAcc_inr {k q : Nat} {S : TS} {p : Nat} (h : sAcc k q S = .inr p) : False := by cases S <;> cases h
theorem sTwo_ok {t : Nat → Int32} {n lo1 hi1 lo2 hi2 : Nat} {S : TS} {p : Nat} (h : (sTwo t n lo1 hi1 lo2 hi2 S).1 = .inr p) : (∃ p0, S = .inr p0 ∧ p0 < p ∧ p ≤ n) ∧ lo1 ≤ (sTwo t n lo1 hi1 lo2 hi2 S).2.1 ∧ (sTwo t n lo1 hi1 lo2 hi2 S).2.1 < hi1 ∧ lo2 ≤ (sTwo t n lo1 hi1 lo2 hi2 S).2.2 ∧ (sTwo t n lo1 hi1 lo2 hi2 S).2.2 < hi2 := by
  obtain ⟨⟨p1, e1, l1, m1⟩, b1, b2⟩ := sNum_ok h
  obtain ⟨⟨p0, e0, l0, m0⟩, c1, c2⟩ := sNum_ok e1
  exact ⟨⟨p0, e0, by omega, m1⟩, c1, c2, b1, b2⟩
/-- are there as many of this kind as there may be -/
def fullB (w : Nat) (B : BG) : Bool := (decide (w = 0) && decide (6 ≤ B.1.length)) || (decide (w = 1) && decide (8 ≤ B.2.1.length)) || (decide (w = 2) && decide (12 ≤ B.2.2.1.length)) || (decide (w = 3) && decide (6 ≤ B.2.2.2.1.length))
def pCl (t : Nat → Int32) (n c : Nat) (B : BG) (w : Nat) (S : TS) : TS × BG :=
  match w with
  | 0 => ((sTwo t n 0 4 1 100 S).1, B.1 ++ [(sTwo t n 0 4 1 100 S).2], B.2)
  | 1 => ((sTwo t n 0 B.1.length 1 10 S).1, B.1, B.2.1 ++ [(sTwo t n 0 B.1.length 1 10 S).2], B.2.2)
  | 2 => ((sTwo t n 0 31 0 31 S).1, B.1, B.2.1, B.2.2.1 ++ [(sTwo t n 0 31 0 31 S).2], B.2.2.2)
  | 3 => ((sTwo t n 0 31 0 31 S).1, B.1, B.2.1, B.2.2.1, B.2.2.2.1 ++ [(sTwo t n 0 31 0 31 S).2], B.2.2.2.2)
  | 4 => ((sTwo t n 0 31 0 31 S).1, B.1, B.2.1, B.2.2.1, B.2.2.2.1, (sTwo t n 0 31 0 31 S).2.1, (sTwo t n 0 31 0 31 S).2.2, B.2.2.2.2.2.2)
  | 5 => ((sNum t n 0 100 S).1, B.1, B.2.1, B.2.2.1, B.2.2.2.1, B.2.2.2.2.1, B.2.2.2.2.2.1, (sNum t n 0 100 S).2)
  | _ => (S, B)
/-- behind the word -/
def sCl (t : Nat → Int32) (n c : Nat) (B : BG) (p : Nat) : TS := if 60 ≤ c ∨ fullB (sWrd t n (bw 1) (.inr p)).2 B = true then sAcc 3 p (sWrd t n (bw 1) (.inr p)).1 else (sWrd t n (bw 1) (.inr p)).1
def pBg (t : Nat → Int32) (n : Nat) : Nat → Nat → TS × BG → TS × BG
  | 0, _, s => s
  | _ + 1, _, (.inl f, B) => (.inl f, B)
  | m + 1, c, (.inr p, B) => if p < n then pBg t n m (c + 1) (sNeed t n 59 (pCl t n c B (sWrd t n (bw 1) (.inr p)).2 (sCl t n c B p)).1, (pCl t n c B (sWrd t n (bw 1) (.inr p)).2 (sCl t n c B p)).2) else (.inr p, B)
def bOk (B : BG) : Prop := B.1.length ≤ 6 ∧ B.2.1.length ≤ 8 ∧ B.2.2.1.length ≤ 12 ∧ B.2.2.2.1.length ≤ 6 ∧ (∀ z ∈ B.1, z.1 < 4 ∧ 1 ≤ z.2 ∧ z.2 < 100) ∧ (∀ z ∈ B.2.1, z.1 < B.1.length ∧ 1 ≤ z.2 ∧ z.2 < 10) ∧ (∀ z ∈ B.2.2.1, z.1 < 31 ∧ z.2 < 31) ∧ (∀ z ∈ B.2.2.2.1, z.1 < 31 ∧ z.2 < 31) ∧ B.2.2.2.2.1 < 31 ∧ B.2.2.2.2.2.1 < 31 ∧ B.2.2.2.2.2.2 < 100
def bg0 : BG := ([], [], [], [], 15, 15, 9)
/-- pairs as two rows of the memory -/
def prR (f g : Nat → Int32) (l : List (Nat × Nat)) : Prop := ∀ i z, l[i]? = some z → f i = nI z.1 ∧ g i = nI z.2
theorem prR_snoc {f g : Nat → Int32} {l : List (Nat × Nat)} {x y : Nat} (h : prR f g l) : prR (upd f l.length (nI x)) (upd g l.length (nI y)) (l ++ [(x, y)]) := by
  intro i z hz
  by_cases e : i = l.length
  · subst e
    rw [List.getElem?_append_right (Nat.le_refl _)] at hz
    simp at hz
    subst hz
    simp [upd]
  · have hl : i < l.length := by
      have := (List.getElem?_eq_some_iff.mp hz).1
      rw [List.length_append] at this
      simp at this
      omega
    rw [List.getElem?_append_left hl] at hz
    simp only [upd, if_neg e]
    exact h i z hz
/-- the bits of the reeds in row y -/
def rdB : List (Nat × Nat) → Nat → Int32
  | [], _ => 0
  | (x, y') :: l, y => if y' = y then rdB l y ||| (1 : Int32) <<< ((nI x) &&& 31) else rdB l y
/-- the class's bog at b -/
def bR (b : Nat) (ν : bc_M) (B : BG) : Prop :=
  (ν b 0 = nI B.1.length ∧ prR (ν (b + 1)) (ν (b + 2)) B.1) ∧ (ν b 1 = nI B.2.1.length ∧ prR (ν (b + 3)) (ν (b + 4)) B.2.1) ∧ (ν b 2 = nI B.2.2.1.length ∧ ∀ y, y < 31 → ν (b + 7) y = rdB B.2.2.1.reverse y) ∧
  (ν b 3 = nI B.2.2.2.1.length ∧ prR (ν (b + 5)) (ν (b + 6)) B.2.2.2.1) ∧ ν b 4 = nI B.2.2.2.2.1 ∧ ν b 5 = nI B.2.2.2.2.2.1 ∧ ν b 6 = nI B.2.2.2.2.2.2
def fr11 (μ μ' : bc_M) : Prop := ∀ i, i < 11 ∨ 18 < i → μ' i = μ i
theorem fr11.refl (μ : bc_M) : fr11 μ μ := fun _ _ => rfl
theorem fr11.trans {μ μ' μ'' : bc_M} (h : fr11 μ μ') (h' : fr11 μ' μ'') : fr11 μ μ'' := fun i hi => (h' i hi).trans (h i hi)
theorem bc_u_i {μ : bc_M} {i j : Nat} {v : Int32} {x : Nat} (h : x ≠ i) : bc_u μ i j v x = μ x := by simp [bc_u, h]
theorem bc_u_s {μ : bc_M} {i j : Nat} {v : Int32} : bc_u μ i j v i = upd (μ i) j v := by simp [bc_u]
