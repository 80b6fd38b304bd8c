/-! the text: where runs end, numbers, words; what both readers come to -/
def rnF (P : Int32 → Bool) (t : Nat → Int32) : Nat → Nat → Nat
  | 0, p => p
  | m + 1, p => if P (t p) = true then rnF P t m (p + 1) else p
def rn (P : Int32 → Bool) (t : Nat → Int32) (n p : Nat) : Nat := rnF P t (n - p) p
theorem rn_end {P : Int32 → Bool} {t : Nat → Int32} {n p : Nat} (h : n ≤ p) : rn P t n p = p := by
  unfold rn
  rw [Nat.sub_eq_zero_of_le h]
  rfl
theorem rn_stop {P : Int32 → Bool} {t : Nat → Int32} {n p : Nat} (h : ¬ P (t p) = true) : rn P t n p = p := by
  unfold rn
  cases n - p with
  | zero => rfl
  | succ m => simp only [rnF]; rw [if_neg h]
theorem rn_go {P : Int32 → Bool} {t : Nat → Int32} {n p : Nat} (hp : p < n) (h : P (t p) = true) : rn P t n p = rn P t n (p + 1) := by
  unfold rn
  obtain ⟨m, hm⟩ : ∃ m, n - p = m + 1 := ⟨n - p - 1, by omega⟩
  rw [hm, show n - (p + 1) = m by omega]
  simp only [rnF]
  rw [if_pos h]
theorem rnF_ge (P : Int32 → Bool) (t : Nat → Int32) : ∀ m p, p ≤ rnF P t m p ∧ rnF P t m p ≤ p + m := by
  intro m
  induction m with
  | zero => intro p; simp [rnF]
  | succ m ih =>
    intro p
    simp only [rnF]
    split
    · have := ih (p + 1); omega
    · omega
theorem rn_ge (P : Int32 → Bool) (t : Nat → Int32) (n p : Nat) : p ≤ rn P t n p := (rnF_ge P t _ _).1
theorem rn_le {P : Int32 → Bool} {t : Nat → Int32} {n p : Nat} (h : p ≤ n) : rn P t n p ≤ n := by
  have := (rnF_ge P t (n - p) p).2
  unfold rn
  omega
theorem rnF_all (P : Int32 → Bool) (t : Nat → Int32) : ∀ m p i, p ≤ i → i < rnF P t m p → P (t i) = true := by
  intro m
  induction m with
  | zero => intro p i h1 h2; simp [rnF] at h2; omega
  | succ m ih =>
    intro p i h1 h2
    simp only [rnF] at h2
    split at h2
    · by_cases e : i = p
      · subst e; assumption
      · exact ih (p + 1) i (by omega) h2
    · omega
theorem rn_all {P : Int32 → Bool} {t : Nat → Int32} {n p i : Nat} (h1 : p ≤ i) (h2 : i < rn P t n p) : P (t i) = true := rnF_all P t _ _ _ h1 h2
theorem rnF_stop (P : Int32 → Bool) (t : Nat → Int32) : ∀ m p, rnF P t m p < p + m → ¬ P (t (rnF P t m p)) = true := by
  intro m
  induction m with
  | zero => intro p h; simp [rnF] at h
  | succ m ih =>
    intro p h
    simp only [rnF] at h ⊢
    split
    · rename_i h1
      rw [if_pos h1] at h
      exact ih (p + 1) (by omega)
    · assumption
theorem rn_at {P : Int32 → Bool} {t : Nat → Int32} {n p : Nat} (hp : p ≤ n) (h : rn P t n p < n) : ¬ P (t (rn P t n p)) = true := by
  unfold rn at h ⊢
  exact rnF_stop P t _ _ (by omega)
theorem rnF_ext {P : Int32 → Bool} {t t' : Nat → Int32} : ∀ m p, (∀ i, p ≤ i → i < p + m → P (t i) = P (t' i)) → rnF P t m p = rnF P t' m p := by
  intro m
  induction m with
  | zero => intro p _; rfl
  | succ m ih =>
    intro p h
    simp only [rnF]
    rw [h p (Nat.le_refl _) (by omega), ih (p + 1) (fun i a b => h i (by omega) (by omega))]
theorem rn_ext {P : Int32 → Bool} {t t' : Nat → Int32} {n p : Nat} (h : ∀ i, i < n → P (t i) = P (t' i)) : rn P t n p = rn P t' n p := by
  unfold rn
  exact rnF_ext _ _ (fun i a b => h i (by omega))
def isBl (c : Int32) : Bool := decide (c = 32)
def isDg (c : Int32) : Bool := decide (48 ≤ c) && decide (c ≤ 57)
def isLt (c : Int32) : Bool := decide (97 ≤ c) && decide (c ≤ 122)
def skp (t : Nat → Int32) (n p : Nat) : Nat := rn isBl t n p
def dgE (t : Nat → Int32) (n p : Nat) : Nat := rn isDg t n p
def ltE (t : Nat → Int32) (n p : Nat) : Nat := rn isLt t n p
def nx (t : Nat → Int32) (n p : Nat) : Int32 := if p < n then t p else -1
theorem nx_dg {t : Nat → Int32} {n p : Nat} (h1 : 48 ≤ nx t n p) (h2 : nx t n p ≤ 57) : p < n ∧ isDg (t p) = true := by
  unfold nx at h1 h2
  split at h1
  · rename_i h
    rw [if_pos h] at h2
    exact ⟨h, by simp [isDg, h1, h2]⟩
  · exact absurd h1 (by decide)
theorem nx_lt {t : Nat → Int32} {n p : Nat} (h1 : 97 ≤ nx t n p) (h2 : nx t n p ≤ 122) : p < n ∧ isLt (t p) = true := by
  unfold nx at h1 h2
  split at h1
  · rename_i h
    rw [if_pos h] at h2
    exact ⟨h, by simp [isLt, h1, h2]⟩
  · exact absurd h1 (by decide)
/-- a digit's value, a row of digits' value -/
def dgV (c : Int32) : Nat := (c - 48).toNatClampNeg
def dvF (t : Nat → Int32) : Nat → Nat → Nat → Nat
  | 0, _, v => v
  | m + 1, p, v => dvF t m (p + 1) (v * 10 + dgV (t p))
def dv (t : Nat → Int32) (n p : Nat) : Nat := dvF t (dgE t n p - p) p 0
theorem dg_sub {c : Int32} (h : isDg c = true) : c = nI (dgV c + 48) ∧ dgV c ≤ 9 := by
  simp only [isDg, Bool.and_eq_true, decide_eq_true_eq, bn_le] at h
  have e1 : (48 : Int32).toInt = 48 := rfl
  have e2 : (57 : Int32).toInt = 57 := rfl
  rw [e1, e2] at h
  have e3 : (c - 48).toInt = c.toInt - 48 := by
    rw [Int32.toInt_sub, e1]
    apply Int.bmod_eq_of_le <;> omega
  have e4 : dgV c = (c.toInt - 48).toNat := by unfold dgV; rw [bn_clamp, e3]
  constructor
  · rw [bn_eq, bn_ti (by omega), e4]; omega
  · rw [e4]; omega
/-! what a reader holds: a fault's kind and place, or where it stands -/
abbrev TS : Type := (Nat × Nat) ⊕ Nat
def sAcc (k q : Nat) : TS → TS
  | .inl f => .inl f
  | .inr _ => .inl (k, q)
/-- a number from lo up to hi - 1 -/
def sNum (t : Nat → Int32) (n lo hi : Nat) : TS → TS × Nat
  | .inl f => (.inl f, 0)
  | .inr p => if p < n ∧ isDg (t p) = true then (if lo ≤ dv t n p ∧ dv t n p < hi then (.inr (skp t n (dgE t n p)), dv t n p) else (.inl (2, p), 0)) else (.inl (1, p), 0)
def sNeed (t : Nat → Int32) (n : Nat) (c : Int32) : TS → TS
  | .inl f => .inl f
  | .inr p => if p < n ∧ t p = c then .inr (skp t n (p + 1)) else .inl (1, p)
/-- the letters that stand at p -/
def wdF (t : Nat → Int32) : Nat → Nat → List Int32
  | 0, _ => []
  | m + 1, p => t p :: wdF t m (p + 1)
def wd (t : Nat → Int32) (n p : Nat) : List Int32 := wdF t (ltE t n p - p) p
theorem wdF_len (t : Nat → Int32) : ∀ m p, (wdF t m p).length = m := by
  intro m
  induction m with
  | zero => intro p; rfl
  | succ m ih => intro p; simp [wdF, ih]
theorem wdF_get (t : Nat → Int32) : ∀ m p i, i < m → (wdF t m p)[i]? = some (t (p + i)) := by
  intro m
  induction m with
  | zero => intro p i h; omega
  | succ m ih =>
    intro p i h
    cases i with
    | zero => simp [wdF]
    | succ i => simp only [wdF, List.getElem?_cons_succ]; rw [ih (p + 1) i (by omega)]; congr 2; omega
def sWrd (t : Nat → Int32) (n : Nat) (W : List (List Int32)) : TS → TS × Nat
  | .inl f => (.inl f, 99)
  | .inr p => if W.idxOf (wd t n p) < W.length then (.inr (skp t n (ltE t n p)), W.idxOf (wd t n p)) else (.inl (1, p), 99)
/-! the class's Text (object 1) in the memory -/
def tx (μ : bc_M) (a k : Nat) (f q : Int32) : bc_M := bc_us μ 1 (fun j => if j = 3 then nI a else if j = 4 then nI k else if j = 5 then f else if j = 6 then q else μ 1 j)
theorem tx_3 (μ : bc_M) (a k : Nat) (f q : Int32) : tx μ a k f q 1 3 = nI a := by simp [tx, bc_us]
theorem tx_4 (μ : bc_M) (a k : Nat) (f q : Int32) : tx μ a k f q 1 4 = nI k := by simp [tx, bc_us]
theorem tx_5 (μ : bc_M) (a k : Nat) (f q : Int32) : tx μ a k f q 1 5 = f := by simp [tx, bc_us]
theorem tx_6 (μ : bc_M) (a k : Nat) (f q : Int32) : tx μ a k f q 1 6 = q := by simp [tx, bc_us]
theorem tx_o (μ : bc_M) (a k : Nat) (f q : Int32) {j : Nat} (h : j < 3) : tx μ a k f q 1 j = μ 1 j := by
  simp only [tx, bc_us, if_true]
  rw [if_neg (by omega), if_neg (by omega), if_neg (by omega), if_neg (by omega)]
theorem tx_2 (μ : bc_M) (a k : Nat) (f q : Int32) : tx μ a k f q 1 2 = μ 1 2 := tx_o μ a k f q (by decide)
theorem tx_i (μ : bc_M) (a k : Nat) (f q : Int32) {i : Nat} (h : i ≠ 1) : tx μ a k f q i = μ i := by simp [tx, bc_us, h]
theorem tx_tx (μ : bc_M) (a k : Nat) (f q : Int32) (a' k' : Nat) (f' q' : Int32) : tx (tx μ a k f q) a' k' f' q' = tx μ a' k' f' q' := by
  funext i j
  by_cases h : i = 1
  · subst h
    simp only [tx, bc_us, if_true]
    by_cases h3 : j = 3
    · simp [h3]
    · by_cases h4 : j = 4
      · simp [h4]
      · by_cases h5 : j = 5
        · simp [h5]
        · by_cases h6 : j = 6
          · simp [h6]
          · simp [h3, h4, h5, h6]
  · simp [tx, bc_us, h]
theorem tx_u (μ : bc_M) (a k : Nat) (f q : Int32) {i j : Nat} {v : Int32} (h : i ≠ 1) : bc_u (tx μ a k f q) i j v = tx (bc_u μ i j v) a k f q := by
  funext x y
  by_cases hx : x = i
  · subst hx
    simp [tx, bc_us, bc_u, h]
  · by_cases h1 : x = 1
    · subst h1
      simp [tx, bc_us, bc_u, hx]
    · simp [tx, bc_us, bc_u, hx, h1]
theorem tx_u3 (μ : bc_M) (a k : Nat) (f q : Int32) (b : Nat) : bc_u (tx μ a k f q) 1 3 (nI b) = tx μ b k f q := by
  funext x y
  by_cases h1 : x = 1
  · subst h1
    simp only [tx, bc_us, bc_u, if_true, upd]
    by_cases h3 : y = 3
    · simp [h3]
    · simp [h3]
  · simp [tx, bc_us, bc_u, h1]
theorem tx_u4 (μ : bc_M) (a k : Nat) (f q : Int32) (b : Nat) : bc_u (tx μ a k f q) 1 4 (nI b) = tx μ a b f q := by
  funext x y
  by_cases h1 : x = 1
  · subst h1
    simp only [tx, bc_us, bc_u, if_true, upd]
    by_cases h3 : y = 4
    · simp [h3]
    · simp [h3]
  · simp [tx, bc_us, bc_u, h1]
theorem tx_u5 (μ : bc_M) (a k : Nat) (f q : Int32) (b : Int32) : bc_u (tx μ a k f q) 1 5 b = tx μ a k b q := by
  funext x y
  by_cases h1 : x = 1
  · subst h1
    simp only [tx, bc_us, bc_u, if_true, upd]
    by_cases h3 : y = 5
    · simp [h3]
    · simp [h3]
  · simp [tx, bc_us, bc_u, h1]
theorem tx_u6 (μ : bc_M) (a k : Nat) (f q : Int32) (b : Int32) : bc_u (tx μ a k f q) 1 6 b = tx μ a k f b := by
  funext x y
  by_cases h1 : x = 1
  · subst h1
    simp only [tx, bc_us, bc_u, if_true, upd]
    by_cases h3 : y = 6
    · simp [h3]
    · simp [h3]
  · simp [tx, bc_us, bc_u, h1]
/-- the Text's fields say S -/
def tq (n : Nat) : TS → Nat → Int32 → Int32 → Prop
  | .inl (k, q0), a, f, q => a ≤ n ∧ f = nI k ∧ q = nI q0 ∧ 1 ≤ k ∧ k ≤ 3 ∧ q0 ≤ n
  | .inr p, a, f, q => a = p ∧ p ≤ n ∧ f = 0 ∧ q = -1
theorem tq_le {n : Nat} {S : TS} {a : Nat} {f q : Int32} (h : tq n S a f q) : a ≤ n := by
  cases S with
  | inl x => exact h.1
  | inr p => exact h.1 ▸ h.2.1
theorem tq_f {n k q0 : Nat} {a : Nat} {f q : Int32} (h : tq n (.inl (k, q0)) a f q) : ¬ f = 0 := by
  rw [h.2.1]
  have h1 := h.2.2.2.1
  have h2 := h.2.2.2.2.1
  rw [show (0 : Int32) = nI 0 from rfl, bn_eqN (by omega) (by omega)]
  omega
def bw : Nat → List (List Int32)
  | 1 => [[113, 117, 97, 114, 116, 101, 114], [111, 118, 101, 110], [114, 101, 101, 100], [109, 111, 111, 114, 105, 110, 103], [99, 105, 116, 121], [102, 108, 111, 117, 114]]
  | 2 => [[98, 114, 101, 97, 100], [110, 111, 115, 101, 115], [108, 105, 116], [111, 116, 104, 101, 114, 115], [111, 110, 105, 111, 110, 115], [115, 105, 100, 101], [104, 111, 117, 114], [108, 101, 97, 115, 116], [109, 111, 115, 116]]
  | _ => [[108, 105, 103, 104, 116], [113, 117, 101, 110, 99, 104], [111, 110, 105, 111, 110, 115], [99, 111, 108, 100], [104, 111, 117, 114], [97, 103, 97, 105, 110]]
