/-! numbers -/
theorem bn_lt (a b : Int32) : a < b ↔ a.toInt < b.toInt := Int32.lt_iff_toInt_lt
theorem bn_le (a b : Int32) : a ≤ b ↔ a.toInt ≤ b.toInt := Int32.le_iff_toInt_le
theorem bn_eq (a b : Int32) : a = b ↔ a.toInt = b.toInt := Int32.toInt_inj.symm
theorem bn_ti {n : Nat} (h : n < 2147483648) : (nI n).toInt = (n : Int) := nI_toInt h
theorem bn_lit (n : Nat) : (OfNat.ofNat n : Int32) = nI n := rfl
theorem bn_0 : (0 : Int32).toInt = 0 := rfl
theorem bn_in {p : Int32} {n : Nat} (hn : n < 2147483648) (h1 : ¬ p < 0) (h2 : ¬ nI n ≤ p) : vp_in p n := by
  rw [vp_in_iff]
  rw [bn_lt, bn_0] at h1
  rw [bn_le, bn_ti hn] at h2
  omega
theorem bn_out {p : Int32} {n : Nat} (hn : n < 2147483648) (h : nI n ≤ p) : ¬ vp_in p n := by
  rw [vp_in_iff]
  rw [bn_le, bn_ti hn] at h
  omega
theorem bn_neg {p : Int32} {n : Nat} (h : p < 0) : ¬ vp_in p n := fun q => q (Or.inl h)
theorem bn_clamp (p : Int32) : p.toNatClampNeg = p.toInt.toNat := rfl
theorem bn_add (a b : Nat) : nI a + nI b = nI (a + b) := nI_add a b
theorem bn_add1 (a : Nat) : nI a + 1 = nI (a + 1) := nI_1 a
theorem bn_mul (a b : Nat) : nI a * nI b = nI (a * b) := pk_mul a b
theorem bn_leN {a b : Nat} (ha : a < 2147483648) (hb : b < 2147483648) : nI a ≤ nI b ↔ a ≤ b := nI_leI ha hb
theorem bn_ltN {a b : Nat} (ha : a < 2147483648) (hb : b < 2147483648) : nI a < nI b ↔ a < b := nI_ltI ha hb
theorem bn_eqN {a b : Nat} (ha : a < 2147483648) (hb : b < 2147483648) : nI a = nI b ↔ a = b := nI_eq ha hb
theorem bn_nn {a : Nat} (ha : a < 2147483648) : ¬ nI a < 0 := nI_pos ha
theorem bn_min (a b : Nat) (ha : a < 2147483648) (hb : b < 2147483648) : (if nI b < nI a then nI b else nI a) = nI (min a b) := by
  by_cases h : b < a
  · rw [if_pos ((bn_ltN hb ha).mpr h)]; congr 1; omega
  · rw [if_neg (fun q => h ((bn_ltN hb ha).mp q))]; congr 1; omega
/-- what an array's place holds, 0 outside -/
def en (μ : bc_M) (i n : Nat) (p : Int32) : Int32 := if 0 ≤ p.toInt ∧ p.toInt < n then μ i p.toNatClampNeg else 0
theorem en_in {μ : bc_M} {i n : Nat} {p : Int32} (h : vp_in p n) : en μ i n p = μ i p.toNatClampNeg := if_pos (vp_in_iff.mp h)
theorem en_out {μ : bc_M} {i n : Nat} {p : Int32} (h : ¬ vp_in p n) : en μ i n p = 0 := if_neg (fun q => h (vp_in_iff.mpr q))
theorem en_N {μ : bc_M} {i n k : Nat} (h : k < n) (hn : n < 2147483648) : en μ i n (nI k) = μ i k := by
  rw [en_in (vp_in_nI h hn), nI_clamp (by omega)]
theorem bn_m1 {t : Nat} (h : 1 ≤ t) : nI t + Int32.ofInt (-1) = nI (t - 1) := by
  obtain ⟨k, rfl⟩ : ∃ k, t = k + 1 := ⟨t - 1, by omega⟩
  exact pk_m1 k
theorem bn_s1 {t : Nat} (h : 1 ≤ t) : nI t - 1 = nI (t - 1) := by
  obtain ⟨k, rfl⟩ : ∃ k, t = k + 1 := ⟨t - 1, by omega⟩
  exact nI_pred k
theorem bn_nle {a b : Int32} (h : ¬ a ≤ b) : b < a := by rw [bn_lt]; rw [bn_le] at h; omega
theorem bn_nlt {a b : Int32} (h : ¬ a < b) : b ≤ a := by rw [bn_le]; rw [bn_lt] at h; omega
theorem bc_u_us (μ : bc_M) (i k : Nat) (v : Int32) : bc_u μ i k v = bc_us μ i (upd (μ i) k v) := by
  funext a
  by_cases h : a = i
  · subst h; simp [bc_u, bc_us]
  · simp [bc_u, bc_us, h]
theorem bc_us_us (μ : bc_M) (i : Nat) (f g : Nat → Int32) : bc_us (bc_us μ i f) i g = bc_us μ i g := by
  funext a
  by_cases h : a = i
  · subst h; simp [bc_us]
  · simp [bc_us, h]
theorem bc_us_sw (μ : bc_M) {i j : Nat} (h : i ≠ j) (f g : Nat → Int32) : bc_us (bc_us μ i f) j g = bc_us (bc_us μ j g) i f := by
  funext a
  by_cases h1 : a = i
  · subst h1; simp [bc_us, h]
  · by_cases h2 : a = j
    · subst h2; simp [bc_us, h1]
    · simp [bc_us, h1, h2]
theorem bn_in7 {s : Int32} (h1 : s < 1007) (h2 : ¬ s < 1000) : vp_in (s - 1000) 7 := by
  rw [vp_in_iff, Int32.toInt_sub]
  rw [bn_lt] at h1 h2
  have e1 : (1007 : Int32).toInt = 1007 := rfl
  have e2 : (1000 : Int32).toInt = 1000 := rfl
  rw [e1] at h1
  rw [e2] at h2 ⊢
  have : (s.toInt - 1000).bmod (2 ^ 32) = s.toInt - 1000 := by apply Int.bmod_eq_of_le <;> omega
  rw [this]
  omega
theorem bc_us_u (μ : bc_M) (i k : Nat) (f : Nat → Int32) (v : Int32) : bc_u (bc_us μ i f) i k v = bc_us μ i (upd f k v) := by
  funext a
  by_cases h : a = i
  · subst h; simp [bc_u, bc_us]
  · simp [bc_u, bc_us, h]
theorem bc_us_self (μ : bc_M) (i : Nat) : bc_us μ i (μ i) = μ := by
  funext a
  by_cases h : a = i
  · subst h; simp [bc_us]
  · simp [bc_us, h]
