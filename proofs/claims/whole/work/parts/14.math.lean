/-! ===== what both reckon: a law's signs on a stack ===== -/
def opE (s a b : Int32) : Int32 :=
  if s = 1007 then a + b else if s = 1008 then a - b else if s = 1009 then a * b else if s = 1010 then (if b = 0 then 0 else a / b) else if s = 1011 then (if b = 0 then 0 else a - a / b * b) else if s = 1012 then (if b < a then b else a) else (if a < b then b else a)
/-- how many values lie on the stack behind k signs -/
def dpS (S : Nat → Int32) : Nat → Nat
  | 0 => 0
  | k + 1 => if S k < 1007 then dpS S k + 1 else dpS S k - 1
def opd (F : Nat → Int32) (s : Int32) : Int32 := if s < 1000 then s else F (s - 1000).toNatClampNeg
/-- the stack's array behind k signs -/
def evA (S F z : Nat → Int32) : Nat → Nat → Int32
  | 0 => z
  | k + 1 => if S k < 1007 then upd (evA S F z k) (dpS S k) (opd F (S k)) else upd (evA S F z k) (dpS S k - 2) (opE (S k) (evA S F z k (dpS S k - 2)) (evA S F z k (dpS S k - 1)))
/-- a law that can be reckoned -/
def wfS (S : Nat → Int32) (n : Nat) : Prop := 1 ≤ n ∧ n ≤ 150 ∧ ∀ k, k < n → (S k < 1007 → 0 ≤ S k) ∧ (¬ S k < 1007 → S k ≤ 1013 ∧ 2 ≤ dpS S k)
def fcs (a0 a1 a2 a3 a4 a5 a6 : Int32) : Nat → Int32
  | 0 => a0 | 1 => a1 | 2 => a2 | 3 => a3 | 4 => a4 | 5 => a5 | 6 => a6 | _ => 0
def cl99 (v : Int32) : Int32 := if -99 < (if v < 99 then v else 99) then (if v < 99 then v else 99) else -99
def lawV (S : Nat → Int32) (n : Nat) (F : Nat → Int32) : Int32 := cl99 (evA S F (fun _ => 0) n 0)
theorem dpS_le (S : Nat → Int32) : ∀ k, dpS S k ≤ k
  | 0 => Nat.le_refl 0
  | k + 1 => by
    have := dpS_le S k
    unfold dpS
    split <;> omega
theorem evA_z {S F F' z z' : Nat → Int32} {n : Nat} (hw : wfS S n) (hF : ∀ k, k < 7 → F k = F' k) : ∀ k, k ≤ n → ∀ j, j < dpS S k → evA S F z k j = evA S F' z' k j
  | 0, _, j, hj => absurd hj (by simp [dpS])
  | k + 1, hk, j, hj => by
    have ih := evA_z (z := z) (z' := z') hw hF k (by omega)
    obtain ⟨h1, h2⟩ := hw.2.2 k (by omega)
    unfold evA
    unfold dpS at hj
    by_cases hs : S k < 1007
    · simp only [hs, if_true] at hj ⊢
      have ho : opd F (S k) = opd F' (S k) := by
        unfold opd
        by_cases h3 : S k < 1000
        · simp [h3]
        · simp only [h3, if_false]
          apply hF
          rw [bn_lt] at hs h3
          have e1 : (1007 : Int32).toInt = 1007 := rfl
          have e2 : (1000 : Int32).toInt = 1000 := rfl
          rw [e1] at hs
          rw [e2] at h3
          rw [bn_clamp, Int32.toInt_sub, e2]
          have : ((S k).toInt - 1000).bmod (2 ^ 32) = (S k).toInt - 1000 := by
            apply Int.bmod_eq_of_le <;> omega
          rw [this]
          omega
      by_cases hj2 : j = dpS S k
      · subst hj2; simp [upd, ho]
      · simp only [upd, hj2, if_false]; exact ih j (by omega)
    · simp only [hs, if_false] at hj ⊢
      have h4 := (h2 hs).2
      by_cases hj2 : j = dpS S k - 2
      · subst hj2
        simp only [upd, if_true]
        rw [ih (dpS S k - 2) (by omega), ih (dpS S k - 1) (by omega)]
      · simp only [upd, hj2, if_false]; exact ih j (by omega)
theorem dpS_pos {S : Nat → Int32} {n : Nat} (hw : wfS S n) : ∀ k, 1 ≤ k → k ≤ n → 1 ≤ dpS S k
  | 0, h, _ => absurd h (by omega)
  | k + 1, _, hk => by
    unfold dpS
    by_cases hs : S k < 1007
    · simp [hs]
    · have := ((hw.2.2 k (by omega)).2 hs).2
      simp only [hs, if_false]; omega
theorem evA_val {S F F' z : Nat → Int32} {n : Nat} (hw : wfS S n) (hF : ∀ k, k < 7 → F k = F' k) : evA S F z n 0 = evA S F' (fun _ => 0) n 0 := evA_z hw hF n (Nat.le_refl n) 0 (dpS_pos hw n hw.1 (Nat.le_refl n))
/-! ===== sums, and what is smelled ===== -/
def sm : Nat → (Nat → Int32) → Int32
  | 0, _ => 0
  | n + 1, f => sm n f + f n
def bit1 (s : Int32) (o : Nat) : Prop := s >>> (nI o &&& 31) &&& 1 = 1
def mB (no : Nat) (hm sg : Nat → Int32) (lit q : Int32) : Int32 := sm no (fun o => if lit >>> (nI o &&& 31) &&& 1 = 1 ∧ hm o = q then sg o else 0)
def mN (no : Nat) (hm : Nat → Int32) (lit q : Int32) : Int32 := sm no (fun o => if lit >>> (nI o &&& 31) &&& 1 = 1 ∧ hm o = q then 1 else 0)
def mA (no : Nat) (sg : Nat → Int32) (lit : Int32) : Int32 := sm no (fun o => if lit >>> (nI o &&& 31) &&& 1 = 1 then sg o else 0)
def half (n : Int32) (ill : Int32) : Int32 := if ill = 1 then n / 2 else n
def pc3 (v : Int32) : Int32 := if -3 < (if v < 3 then v else 3) then (if v < 3 then v else 3) else -3
theorem bc_u_r (μ : bc_M) (i k : Nat) (v : Int32) (a b : Nat) : bc_u μ i k v a b = if a = i ∧ b = k then v else μ a b := by
  by_cases h : a = i
  · subst h
    by_cases h2 : b = k
    · subst h2; simp [bc_u, upd]
    · simp [bc_u, upd, h2]
  · simp [bc_u, h]
theorem bc_us_r (μ : bc_M) (i : Nat) (f : Nat → Int32) (a b : Nat) : bc_us μ i f a b = if a = i then f b else μ a b := by
  by_cases h : a = i
  · subst h; simp [bc_us]
  · simp [bc_us, h]
/-- how far the quarter k leans, were the ovens of lit lit -/
def mL (μ : bc_M) (c n no : Nat) (lit : Int32) (h : Int32) (k : Nat) : Int32 := lawV (μ 20) n (fcs (mB no (μ 6) (μ 7) lit (nI k)) (half (μ 5 k) (μ c 7 >>> (nI k &&& 31) &&& 1)) (mN no (μ 6) lit (nI k)) (mA no (μ 7) lit - mB no (μ 6) (μ 7) lit (nI k)) (μ (c + 3) k) (μ 4 k) h)
/-- to the side j, the first k quarters together -/
def mS (μ : bc_M) (c n no : Nat) (lit : Int32) (h : Int32) (j k : Nat) : Int32 := sm k (fun q => if μ 4 q = nI j then mL μ c n no lit h q else 0)
