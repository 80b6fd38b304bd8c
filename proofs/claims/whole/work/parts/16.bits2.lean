theorem b_1 : ∀ i, i < 32 → bt 1 i = decide (i = 0) := by decide +kernel
theorem b_sh1 {n i : Nat} (hn : n < 32) (hi : i < 32) : bt (1 <<< (nI n &&& 31)) i = decide (i = n) := by
  rw [b_shl n hn 1 hi]
  by_cases h : n ≤ i
  · rw [b_1 (i - n) (by omega)]
    by_cases h2 : i = n
    · subst h2; simp
    · simp [h, h2]; omega
  · simp [h]; omega
theorem b_get (x : Int32) {o : Nat} (ho : o < 32) : x >>> (nI o &&& 31) &&& 1 = if bt x o = true then 1 else 0 := by
  apply b_ext
  intro i hi
  rw [b_and, b_sshr o ho x hi, b_1 i hi]
  by_cases h : i = 0
  · subst h
    rw [if_pos (by omega)]
    by_cases hb : bt x o = true
    · simp [hb, b_1 0]
    · simp [hb, b_0]
  · by_cases hb : bt x o = true
    · simp [h, hb, b_1 i hi]
    · simp [h, hb, b_0]
theorem b_is (x : Int32) {o : Nat} (ho : o < 32) : x >>> (nI o &&& 31) &&& 1 = 1 ↔ bt x o = true := by
  rw [b_get x ho]
  by_cases hb : bt x o = true
  · simp [hb]
  · simp [hb]
theorem b_is0 (x : Int32) {o : Nat} (ho : o < 32) : x >>> (nI o &&& 31) &&& 1 = 0 ↔ bt x o = false := by
  rw [b_get x ho]
  by_cases hb : bt x o = true
  · simp [hb]
  · simp [hb]
/-- the bits of the places below k that are more than h -/
def lbM (hl : Nat → Int32) (h : Int32) : Nat → Int32
  | 0 => 0
  | k + 1 => if h < hl k then lbM hl h k ||| 1 <<< (nI k &&& 31) else lbM hl h k
theorem lbM_bt (hl : Nat → Int32) (h : Int32) : ∀ k, k ≤ 32 → ∀ i, i < 32 → bt (lbM hl h k) i = (decide (i < k) && decide (h < hl i))
  | 0, _, i, _ => by simp [lbM, b_0]
  | k + 1, hk, i, hi => by
    have ih := lbM_bt hl h k (by omega) i hi
    unfold lbM
    by_cases hc : h < hl k
    · simp only [hc, if_true]
      rw [b_or, ih, b_sh1 (by omega) hi]
      by_cases e : i = k
      · subst e; simp [hc]
      · by_cases h2 : i < k
        · simp [e, h2, Nat.lt_succ_of_lt h2]
        · have : ¬ i < k + 1 := by omega
          simp [e, h2, this]
    · simp only [hc, if_false]
      rw [ih]
      by_cases e : i = k
      · subst e; simp [hc]
      · by_cases h2 : i < k
        · simp [h2, Nat.lt_succ_of_lt h2]
        · have : ¬ i < k + 1 := by omega
          simp [h2, this]
