/-! the reference: ways through the reeds -/
/-- the cell a, b is wet behind n spreads -/
def Rc (R W : Nat → Int32) (n a b : Nat) : Bool := bt (wtM R W n b) a
theorem b_max : ∀ i, i < 32 → bt 2147483647 i = decide (i < 31) := by decide +kernel
theorem rc_31 {R : Nat → Int32} {x y : Nat} (hx : x < 31) : ∀ n b, bt (wtM R (st0 x y) n b) 31 = false := by
  intro n
  induction n with
  | zero =>
    intro b
    show bt (st0 x y b) 31 = false
    unfold st0
    split
    · rw [b_sh1 (by omega) (by omega)]; exact decide_eq_false (by omega)
    · exact b_0 31
  | succ n ih =>
    intro b
    show bt (if b < 31 then spM (wtM R (st0 x y) n) R b else 0) 31 = false
    split
    · rw [spM, b_or, ih b, b_and, b_max 31 (by omega)]; simp
    · exact b_0 31
theorem rc_r31 {R : Nat → Int32} {x y : Nat} (hy : y < 31) : ∀ n, wtM R (st0 x y) n 31 = 0 := by
  intro n
  cases n with
  | zero => show st0 x y 31 = 0; unfold st0; rw [if_neg (by omega)]
  | succ n => show (if 31 < 31 then spM (wtM R (st0 x y) n) R 31 else (0 : Int32)) = 0; rw [if_neg (by omega)]
theorem rc_s {R : Nat → Int32} {x y n a b : Nat} (hx : x < 31) (hy : y < 31) (ha : a < 31) (hb : b < 31) : Rc R (st0 x y) (n + 1) a b = (Rc R (st0 x y) n a b || (((((decide (1 ≤ a) && Rc R (st0 x y) n (a - 1) b) || Rc R (st0 x y) n (a + 1) b) || (decide (1 ≤ b) && Rc R (st0 x y) n a (b - 1))) || Rc R (st0 x y) n a (b + 1)) && !bt (R b) a)) := by
  obtain ⟨W, hW⟩ : ∃ W, W = wtM R (st0 x y) n := ⟨_, rfl⟩
  have hr31 : W 31 = 0 := by rw [hW]; exact rc_r31 hy n
  have e1 : w31 W (nI b - 1) = if 1 ≤ b then W (b - 1) else 0 := by
    unfold w31
    by_cases h : 1 ≤ b
    · rw [if_pos h, bn_s1 h, bn_ti (by omega), if_pos (by omega), nI_clamp (by omega)]
    · have hb0 : b = 0 := by omega
      subst hb0
      rw [if_neg h, if_neg (by decide)]
  have e2 : w31 W (nI b + 1) = W (b + 1) := by
    unfold w31
    rw [bn_add1, bn_ti (by omega)]
    by_cases h : b + 1 < 31
    · rw [if_pos (by omega), nI_clamp (by omega)]
    · rw [if_neg (by omega), show b + 1 = 31 by omega, hr31]
  unfold Rc
  show bt (if b < 31 then spM (wtM R (st0 x y) n) R b else 0) a = _
  rw [if_pos hb, ← hW, spM, e1, e2, b_or, b_and, b_and, b_or, b_or, b_or, b_xor, b_m1 a (by omega), b_max a (by omega), decide_eq_true ha, Bool.and_true]
  have e3 : bt (W b <<< ((1 : Int32) &&& 31)) a = (decide (1 ≤ a) && bt (W b) (a - 1)) := b_shl 1 (by omega) (W b) (by omega)
  have e4 : bt (W b >>> ((1 : Int32) &&& 31)) a = bt (W b) (a + 1) := by
    have := b_sshr 1 (by omega) (W b) (i := a) (by omega)
    rw [if_pos (by omega), Nat.add_comm 1 a] at this
    exact this
  have e5 : bt (if 1 ≤ b then W (b - 1) else 0) a = (decide (1 ≤ b) && bt (W (b - 1)) a) := by
    by_cases h : 1 ≤ b
    · rw [if_pos h, decide_eq_true h, Bool.true_and]
    · rw [if_neg h, decide_eq_false h, Bool.false_and, b_0]
  rw [e3, e4, e5, Bool.xor_true]
/-- the cell to the side d -/
def nbN (d a b a' b' : Nat) : Prop := (d = 0 ∧ a' = a ∧ b' = b + 1) ∨ (d = 1 ∧ a' = a + 1 ∧ b' = b) ∨ (d = 2 ∧ a' = a ∧ b = b' + 1) ∨ (d = 3 ∧ a = a' + 1 ∧ b' = b)
theorem rc_mono {R : Nat → Int32} {x y n a b : Nat} (hx : x < 31) (hy : y < 31) (ha : a < 31) (hb : b < 31) (h : Rc R (st0 x y) n a b = true) : Rc R (st0 x y) (n + 1) a b = true := by
  rw [rc_s hx hy ha hb, h]; rfl
theorem rc_fwd {R : Nat → Int32} {x y n a b a' b' d : Nat} (hx : x < 31) (hy : y < 31) (ha : a' < 31) (hb : b' < 31) (hn : nbN d a b a' b') (h : Rc R (st0 x y) n a b = true) (ho : bt (R b') a' = false) : Rc R (st0 x y) (n + 1) a' b' = true := by
  rw [rc_s hx hy ha hb, ho]
  rcases hn with ⟨-, rfl, rfl⟩ | ⟨-, rfl, rfl⟩ | ⟨-, rfl, rfl⟩ | ⟨-, rfl, rfl⟩
  · rw [Nat.add_sub_cancel, h, decide_eq_true (show 1 ≤ b + 1 by omega)]; simp
  · rw [Nat.add_sub_cancel, h, decide_eq_true (show 1 ≤ a + 1 by omega)]; simp
  · rw [h]; simp
  · rw [h]; simp
theorem rc_bwd {R : Nat → Int32} {x y n a b : Nat} (hx : x < 31) (hy : y < 31) (ha : a < 31) (hb : b < 31) (h : Rc R (st0 x y) (n + 1) a b = true) : Rc R (st0 x y) n a b = true ∨ (bt (R b) a = false ∧ ∃ d a0 b0, d < 4 ∧ a0 < 31 ∧ b0 < 31 ∧ nbN d a0 b0 a b ∧ Rc R (st0 x y) n a0 b0 = true) := by
  rw [rc_s hx hy ha hb, Bool.or_eq_true, Bool.and_eq_true] at h
  rcases h with h | ⟨h, ho⟩
  · exact .inl h
  · refine .inr ⟨by simpa using ho, ?_⟩
    rw [Bool.or_eq_true, Bool.or_eq_true, Bool.or_eq_true, Bool.and_eq_true, Bool.and_eq_true, decide_eq_true_iff, decide_eq_true_iff] at h
    rcases h with ((⟨h1, h2⟩ | h2) | ⟨h1, h2⟩) | h2
    · exact ⟨1, a - 1, b, by omega, by omega, hb, .inr (.inl ⟨rfl, by omega, rfl⟩), h2⟩
    · have h31 : a + 1 < 31 := by
        by_cases q : a + 1 < 31
        · exact q
        · rw [show a + 1 = 31 by omega, Rc, rc_31 hx] at h2; exact absurd h2 (by decide)
      exact ⟨3, a + 1, b, by omega, h31, hb, .inr (.inr (.inr ⟨rfl, rfl, rfl⟩)), h2⟩
    · exact ⟨0, a, b - 1, by omega, ha, by omega, .inl ⟨rfl, rfl, by omega⟩, h2⟩
    · have h31 : b + 1 < 31 := by
        by_cases q : b + 1 < 31
        · exact q
        · rw [show b + 1 = 31 by omega, Rc, rc_r31 hy, b_0] at h2; exact absurd h2 (by decide)
      exact ⟨2, a, b + 1, by omega, ha, h31, .inr (.inr (.inl ⟨rfl, rfl, rfl⟩)), h2⟩
/-! a search, breadth first -/
def cnO (s : Nat → Option Nat) : Nat → Nat
  | 0 => 0
  | k + 1 => cnO s k + (if (s k).isSome = true then 1 else 0)
def upO (s : Nat → Option Nat) (c : Nat) (v : Option Nat) : Nat → Option Nat := fun j => if j = c then v else s j
def upN (q : Nat → Nat) (c v : Nat) : Nat → Nat := fun j => if j = c then v else q j
theorem cn_le (s : Nat → Option Nat) : ∀ k, cnO s k ≤ k := by
  intro k
  induction k with
  | zero => exact Nat.le_refl 0
  | succ k ih => rw [cnO]; split <;> omega
theorem cn_lt {s : Nat → Option Nat} {c : Nat} (h : s c = none) : ∀ k, c < k → cnO s k < k := by
  intro k
  induction k with
  | zero => intro h; omega
  | succ k ih =>
    intro hk
    rw [cnO]
    by_cases e : c = k
    · subst e
      rw [h]
      have := cn_le s c
      simp
      omega
    · have := ih (by omega)
      split <;> omega
theorem cn_up {s : Nat → Option Nat} {c v : Nat} (h : s c = none) : ∀ k, cnO (upO s c (some v)) k = cnO s k + (if c < k then 1 else 0) := by
  intro k
  induction k with
  | zero => rfl
  | succ k ih =>
    rw [cnO, cnO, ih]
    by_cases e : k = c
    · subst e
      rw [if_neg (by omega), if_pos (show k < k + 1 by omega), h]
      simp [upO]
    · have e2 : upO s c (some v) k = s k := by simp [upO, e]
      rw [e2]
      by_cases q : c < k
      · rw [if_pos q, if_pos (show c < k + 1 by omega)]; omega
      · rw [if_neg q, if_neg (show ¬ c < k + 1 by omega)]; omega
def opnR (R : Nat → Int32) (s : Nat → Option Nat) (c v d : Nat) : Prop := ∀ a' b', nbN d (c / 31) (c % 31) a' b' → a' < 31 → b' < 31 → bt (R b') a' = false → ∃ w, s (31 * a' + b') = some w ∧ w ≤ v + 1
/-- the queue q up to many, the steps s, all sides of the cells ahead of i seen, and of i those below d -/
def BI (R : Nat → Int32) (x y : Nat) (s : Nat → Option Nat) (q : Nat → Nat) (i many d : Nat) : Prop :=
  cnO s 961 = many ∧ (∀ j, j < many → q j < 961 ∧ ∃ v, s (q j) = some v ∧ v ≤ j ∧ Rc R (st0 x y) v (q j / 31) (q j % 31) = true) ∧ (∀ c, c < 961 → ∀ v, s c = some v → ∃ j, j < many ∧ q j = c) ∧ (∀ j k v u, j ≤ k → k < many → s (q j) = some v → s (q k) = some u → v ≤ u) ∧ s (31 * x + y) = some 0 ∧ (∀ k v u, i < many → k < many → s (q k) = some u → s (q i) = some v → u ≤ v + 1) ∧ (∀ j, j < i → j < many → ∀ v, s (q j) = some v → ∀ e, e < 4 → opnR R s (q j) v e) ∧ (i < many → ∀ v, s (q i) = some v → ∀ e, e < d → opnR R s (q i) v e)
theorem BI.le {R : Nat → Int32} {x y : Nat} {s : Nat → Option Nat} {q : Nat → Nat} {i many d : Nat} (h : BI R x y s q i many d) : many ≤ 961 := by rw [← h.1]; exact cn_le s 961
theorem BI.next {R : Nat → Int32} {x y : Nat} {s : Nat → Option Nat} {q : Nat → Nat} {i many : Nat} (h : BI R x y s q i many 4) (hi : i < many) : BI R x y s q (i + 1) many 0 := by
  obtain ⟨b1, b2, b3, b4, b5, b6, b7, b8⟩ := h
  refine ⟨b1, b2, b3, b4, b5, fun k v u h1 h2 h3 h4 => ?_, fun j h1 h2 v h3 e he => ?_, fun _ _ _ e he => absurd he (by omega)⟩
  · obtain ⟨-, w0, hw0, -, -⟩ := b2 i hi
    have h5 := b6 k w0 u hi h2 h3 hw0
    have h6 := b4 i (i + 1) w0 v (by omega) h1 hw0 h4
    omega
  · by_cases e2 : j = i
    · subst e2; exact b8 hi v h3 e he
    · exact b7 j (by omega) h2 v h3 e he
theorem BI.seen {R : Nat → Int32} {x y : Nat} {s : Nat → Option Nat} {q : Nat → Nat} {i many d : Nat} (h : BI R x y s q i many d) (ho : ∀ v, s (q i) = some v → opnR R s (q i) v d) : BI R x y s q i many (d + 1) := by
  obtain ⟨b1, b2, b3, b4, b5, b6, b7, b8⟩ := h
  refine ⟨b1, b2, b3, b4, b5, b6, b7, fun hi v hv e he => ?_⟩
  by_cases e2 : e = d
  · subst e2; exact ho v hv
  · exact b8 hi v hv e (by omega)
theorem BI.add {R : Nat → Int32} {x y : Nat} {s : Nat → Option Nat} {q : Nat → Nat} {i many d v a' b' : Nat} (hx : x < 31) (hy : y < 31) (h : BI R x y s q i many d) (hi : i < many) (hv : s (q i) = some v) (ha : a' < 31) (hb : b' < 31) (hn : nbN d (q i / 31) (q i % 31) a' b') (ho : bt (R b') a' = false) (hs : s (31 * a' + b') = none) : BI R x y (upO s (31 * a' + b') (some (v + 1))) (upN q many (31 * a' + b')) i (many + 1) d := by
  obtain ⟨b1, b2, b3, b4, b5, b6, b7, b8⟩ := h
  obtain ⟨c, hc⟩ : ∃ c, c = 31 * a' + b' := ⟨_, rfl⟩
  rw [← hc] at hs ⊢
  have c961 : c < 961 := by omega
  have cd : c / 31 = a' := by omega
  have cm : c % 31 = b' := by omega
  have ne : ∀ j, j < many → q j ≠ c := fun j hj e => by
    obtain ⟨-, w0, hw0, -, -⟩ := b2 j hj
    rw [e, hs] at hw0
    cases hw0
  have qj : ∀ j, j < many → upN q many c j = q j := fun j hj => by simp only [upN]; rw [if_neg (by omega)]
  have qm : upN q many c many = c := by simp [upN]
  have sj : ∀ j, j < many → upO s c (some (v + 1)) (q j) = s (q j) := fun j hj => by simp only [upO]; rw [if_neg (ne j hj)]
  have sc : upO s c (some (v + 1)) c = some (v + 1) := by simp [upO]
  have ext : ∀ z w0, s z = some w0 → upO s c (some (v + 1)) z = some w0 := fun z w0 hz => by
    simp only [upO]
    rw [if_neg (fun e => by rw [e, hs] at hz; cases hz)]
    exact hz
  have hvi : v ≤ i ∧ Rc R (st0 x y) v (q i / 31) (q i % 31) = true := by
    obtain ⟨-, w0, hw0, h1, h2⟩ := b2 i hi
    rw [hv] at hw0
    cases hw0
    exact ⟨h1, h2⟩
  refine ⟨?_, fun j hj => ?_, fun z hz w0 hw0 => ?_, fun j k v1 u h1 h2 h3 h4 => ?_, ext _ _ b5, fun k v1 u h1 h2 h3 h4 => ?_, fun j h1 h2 v1 h3 e he => ?_, fun _ v1 h3 e he => ?_⟩
  · rw [cn_up hs, b1, if_pos c961]
  · by_cases e : j = many
    · subst e
      rw [qm, sc, cd, cm]
      exact ⟨c961, v + 1, rfl, by omega, rc_fwd hx hy ha hb hn hvi.2 ho⟩
    · rw [qj j (by omega), sj j (by omega)]
      exact b2 j (by omega)
  · by_cases e : z = c
    · exact ⟨many, by omega, by rw [qm, e]⟩
    · have hz2 : s z = some w0 := by simpa [upO, e] using hw0
      obtain ⟨j, hj, ej⟩ := b3 z hz w0 hz2
      exact ⟨j, by omega, by rw [qj j hj]; exact ej⟩
  · by_cases ek : k = many
    · subst ek
      rw [qm, sc] at h4
      cases h4
      by_cases ej : j = k
      · subst ej
        rw [qm, sc] at h3
        cases h3
        exact Nat.le_refl _
      · rw [qj j (by omega), sj j (by omega)] at h3
        exact b6 j v v1 hi (by omega) h3 hv
    · rw [qj k (by omega), sj k (by omega)] at h4
      rw [qj j (by omega), sj j (by omega)] at h3
      exact b4 j k v1 u h1 (by omega) h3 h4
  · rw [qj i hi, sj i hi, hv] at h4
    cases h4
    by_cases ek : k = many
    · subst ek
      rw [qm, sc] at h3
      cases h3
      exact Nat.le_refl _
    · rw [qj k (by omega), sj k (by omega)] at h3
      exact b6 k v u hi (by omega) h3 hv
  · rw [qj j (by omega), sj j (by omega)] at h3
    rw [qj j (by omega)]
    intro a1 b1' g1 g2 g3 g4
    obtain ⟨w0, g5, g6⟩ := b7 j h1 (by omega) v1 h3 e he a1 b1' g1 g2 g3 g4
    exact ⟨w0, ext _ _ g5, g6⟩
  · rw [qj i hi, sj i hi] at h3
    rw [qj i hi]
    intro a1 b1' g1 g2 g3 g4
    obtain ⟨w0, g5, g6⟩ := b8 hi v1 h3 e he a1 b1' g1 g2 g3 g4
    exact ⟨w0, ext _ _ g5, g6⟩
theorem BI.all {R : Nat → Int32} {x y : Nat} {s : Nat → Option Nat} {q : Nat → Nat} {i many d : Nat} (hx : x < 31) (hy : y < 31) (h : BI R x y s q i many d) (hi : many ≤ i) : ∀ n a b, a < 31 → b < 31 → Rc R (st0 x y) n a b = true → ∃ u, s (31 * a + b) = some u ∧ u ≤ n := by
  obtain ⟨b1, b2, b3, b4, b5, b6, b7, b8⟩ := h
  intro n
  induction n with
  | zero =>
    intro a b ha hb hr
    have hr : bt (st0 x y b) a = true := hr
    unfold st0 at hr
    by_cases e : b = y
    · rw [if_pos e, b_sh1 (by omega) (by omega), decide_eq_true_iff] at hr
      subst hr; subst e
      exact ⟨0, b5, Nat.le_refl 0⟩
    · rw [if_neg e, b_0] at hr
      exact absurd hr (by decide)
  | succ n ih =>
    intro a b ha hb hr
    rcases rc_bwd hx hy ha hb hr with h1 | ⟨ho, e, a0, b0, he, ha0, hb0, hn, h1⟩
    · obtain ⟨u, h2, h3⟩ := ih a b ha hb h1
      exact ⟨u, h2, by omega⟩
    · obtain ⟨u, h2, h3⟩ := ih a0 b0 ha0 hb0 h1
      obtain ⟨j, hj, ej⟩ := b3 (31 * a0 + b0) (by omega) u h2
      have g := b7 j (by omega) hj u (by rw [ej]; exact h2) e he
      rw [ej] at g
      have g2 := g a b (by rw [show (31 * a0 + b0) / 31 = a0 by omega, show (31 * a0 + b0) % 31 = b0 by omega]; exact hn) ha hb ho
      obtain ⟨w0, g5, g6⟩ := g2
      exact ⟨w0, g5, by omega⟩
theorem srB_at {B : Nat → Bool} {v : Nat} (hv : B v = true) : ∀ (c k : Nat), k ≤ v → v < k + c → (∀ z, k ≤ z → z < v → B z = false) → srB B c k = nI v := by
  intro c
  induction c with
  | zero => intro k h1 h2; omega
  | succ c ih =>
    intro k h1 h2 h3
    rw [srB]
    by_cases e : k = v
    · subst e; rw [if_pos hv]
    · rw [if_neg (by rw [h3 k (Nat.le_refl k) (by omega)]; decide)]
      exact ih (k + 1) (by omega) (by omega) (fun z a b => h3 z (by omega) b)
def oI : Option Nat → Int32
  | none => -1
  | some v => nI v
theorem BI.ans {R : Nat → Int32} {x y : Nat} {s : Nat → Option Nat} {q : Nat → Nat} {i many d tx ty : Nat} (hx : x < 31) (hy : y < 31) (h : BI R x y s q i many d) (hi : many ≤ i) (htx : tx < 31) (hty : ty < 31) : oI (s (31 * tx + ty)) = srB (wtB R (st0 x y) tx ty) 961 0 := by
  have hB : ∀ n, wtB R (st0 x y) tx ty n = true ↔ Rc R (st0 x y) n tx ty = true := fun n => by
    unfold wtB Rc
    rw [decide_eq_true_iff, b_is _ (by omega)]
  have hall := h.all hx hy hi
  have hle := h.le
  cases hs : s (31 * tx + ty) with
  | none =>
    rw [srB_none 961 0 (fun j _ => by
      cases hb : wtB R (st0 x y) tx ty j with
      | false => rfl
      | true =>
        obtain ⟨u, h1, -⟩ := hall j tx ty htx hty ((hB j).mp hb)
        rw [hs] at h1
        cases h1)]
    rfl
  | some v =>
    obtain ⟨j, hj, ej⟩ := h.2.2.1 (31 * tx + ty) (by omega) v hs
    obtain ⟨-, w0, hw0, h1, h2⟩ := h.2.1 j hj
    rw [ej, hs] at hw0
    cases hw0
    rw [ej, show (31 * tx + ty) / 31 = tx by omega, show (31 * tx + ty) % 31 = ty by omega] at h2
    rw [srB_at ((hB v).mpr h2) 961 0 (by omega) (by omega) (fun z _ hz => by
      cases hb : wtB R (st0 x y) tx ty z with
      | false => rfl
      | true =>
        obtain ⟨u, g1, g2⟩ := hall z tx ty htx hty ((hB z).mp hb)
        rw [hs] at g1
        cases g1
        omega)]
    rfl
section T70
variable {d : Nat} {m m1 ν M : bc_M} {n no nq nr nm : Nat} {A : Row}
theorem opB_bt {a b : Nat} (ha : a < 31) (hb : b < 31) : opB M (nI a) (nI b) = true ↔ bt (M 10 b) a = false := by
  unfold opB
  rw [decide_eq_true_iff, en_N hb (by decide), b_is0 _ (by omega)]
  have h1 : (0 : Int32) ≤ nI a ∧ nI a ≤ 30 := ⟨by rw [show (0 : Int32) = nI 0 from rfl, bn_leN (by omega) (by omega)]; omega, by rw [show (30 : Int32) = nI 30 from rfl, bn_leN (by omega) (by omega)]; omega⟩
  have h2 : (0 : Int32) ≤ nI b ∧ nI b ≤ 30 := ⟨by rw [show (0 : Int32) = nI 0 from rfl, bn_leN (by omega) (by omega)]; omega, by rw [show (30 : Int32) = nI 30 from rfl, bn_leN (by omega) (by omega)]; omega⟩
  exact ⟨fun h => h.2.2.2.2, fun h => ⟨h1.1, h1.2, h2.1, h2.2, h⟩⟩
theorem m1_s {k : Nat} : nI (k + 1) + (-1) = nI k := bn_m1 (t := k + 1) (by omega)
theorem nb_to {e a b a' b' : Nat} (h : nbN e a b a' b') : nI a + wxM e = nI a' ∧ nI b + wyM e = nI b' := by
  rcases h with ⟨rfl, rfl, rfl⟩ | ⟨rfl, rfl, rfl⟩ | ⟨rfl, rfl, rfl⟩ | ⟨rfl, rfl, rfl⟩
  · exact ⟨Int32.add_zero _, bn_add1 b⟩
  · exact ⟨bn_add1 a, Int32.add_zero _⟩
  · exact ⟨Int32.add_zero _, m1_s⟩
  · exact ⟨m1_s, Int32.add_zero _⟩
theorem nb_of {e a b : Nat} (he : e < 4) (ha : a < 31) (hb : b < 31) (h : opB M (nI a + wxM e) (nI b + wyM e) = true) : ∃ a' b', a' < 31 ∧ b' < 31 ∧ nbN e a b a' b' ∧ bt (M 10 b') a' = false ∧ nI a + wxM e = nI a' ∧ nI b + wyM e = nI b' := by
  have hin := opB_in h
  have hc : e = 0 ∨ e = 1 ∨ e = 2 ∨ e = 3 := by omega
  have fin : ∀ a' b', a' < 31 → b' < 31 → nbN e a b a' b' → ∃ a' b', a' < 31 ∧ b' < 31 ∧ nbN e a b a' b' ∧ bt (M 10 b') a' = false ∧ nI a + wxM e = nI a' ∧ nI b + wyM e = nI b' := by
    intro a' b' h1 h2 h3
    have h4 := nb_to h3
    refine ⟨a', b', h1, h2, h3, ?_, h4.1, h4.2⟩
    rw [h4.1, h4.2] at h
    exact (opB_bt h1 h2).mp h
  rcases hc with rfl | rfl | rfl | rfl
  · have e1 : nI b + wyM 0 = nI (b + 1) := bn_add1 b
    rw [e1, bn_ti (by omega)] at hin
    exact fin a (b + 1) ha (by omega) (.inl ⟨rfl, rfl, rfl⟩)
  · have e1 : nI a + wxM 1 = nI (a + 1) := bn_add1 a
    rw [e1, bn_ti (by omega)] at hin
    exact fin (a + 1) b (by omega) hb (.inr (.inl ⟨rfl, rfl, rfl⟩))
  · cases b with
    | zero =>
      have e1 : nI 0 + wyM 2 = -1 := rfl
      have h2 := hin.2
      rw [e1] at h2
      exact absurd h2.1 (by decide)
    | succ b => exact fin a b ha (by omega) (.inr (.inr (.inl ⟨rfl, rfl, rfl⟩)))
  · cases a with
    | zero =>
      have e1 : nI 0 + wxM 3 = -1 := rfl
      have h2 := hin.1
      rw [e1] at h2
      exact absurd h2.1 (by decide)
    | succ a => exact fin a b (by omega) hb (.inr (.inr (.inr ⟨rfl, rfl, rfl⟩)))
theorem t_stepsB {q : Int32} (hE : mEnv M m n no nq nr nm) (h : ¬ (0 ≤ q ∧ q < nI nm)) : bc_C (d + 2) LM mX10_steps [.ref 0, .int q] m (fun r ν => r = some (.int 0) ∧ ν = refM m 1 0) := by
  refine bc_enter (by decide) (Nat.le_of_ble_eq_true rfl) rfl ?_
  refine bc_aload_n dX10_steps_0 rfl ?_
  refine bc_iconst (v := 0) dX10_steps_1 (by decide) ?_
  refine bc_put dX10_steps_2 fX10_3 ftX10 fpX10_0 rfl rfl (rfl) rfl ?_
  refine bc_aload_n dX10_steps_5 rfl ?_
  refine bc_iload_n dX10_steps_6 rfl ?_
  refine bc_iconst (v := 1) dX10_steps_7 (by decide) ?_
  refine bc_callV (z := mX10_isMooring) (ci := 10) dX10_steps_8 lX10_395 qX10_isMooring (by rfl) (by rfl) (by rfl) (by rfl) (Nat.le_of_ble_eq_true rfl) (t_isMooringN hE.2.1.2.2.2 hE.2.2.1.2 h rfl (by decide)) (fun r8 μ8 e8 => ?_)
  obtain ⟨rfl, q8⟩ := e8
  obtain rfl := q8.symm
  refine bc_if_ne (tgt := 16) dX10_steps_11 (by decide) (fun h11 => absurd h11 (fun q => q rfl)) (fun h11 => ?_)
  refine bc_iconst (v := 0) dX10_steps_14 (by decide) ?_
  exact bc_ireturn dX10_steps_15 rfl rfl (⟨rfl, rfl⟩)
def sqR (s : Nat → Option Nat) (q : Nat → Nat) (many : Nat) (ν : bc_M) : Prop := (∀ c, c < 961 → ν 24 c = oI (s c)) ∧ ∀ j, j < many → ν 25 j = nI (q j)
theorem t_steps {k x y tx ty : Nat} (hE : mEnv M m n no nq nr nm) (hN : sR (row 31 M) (m 19)) (hk : k < nm) (ex : M 31 2 = nI x) (ey : M 31 3 = nI y) (etx : M 8 k = nI tx) (ety : M 9 k = nI ty) (hx : x < 31) (hy : y < 31) (htx : tx < 31) (hty : ty < 31) : bc_C (d + 2) LM mX10_steps [.ref 0, .int (nI k)] m (fun r ν => r = some (.int (srB (wtB (M 10) (st0 x y) tx ty) 961 0)) ∧ qS m ν) := by
  refine bc_enter (by decide) (Nat.le_of_ble_eq_true rfl) rfl ?_
  have h6 := hE.2.2.1.2
  have em := hE.2.2.2.2.2.2.1 k hk
  have qs : ∀ ν : bc_M, (∀ i, i ≠ 24 → i ≠ 25 → ν i = bc_u m 0 0 0 i) → qS m ν := fun ν h => ⟨fun i a _ _ _ g => by rw [h i (by omega) (by omega), bc_u_ne _ _ _ a], fun j a _ => by rw [h 0 (by decide) (by decide), bc_u_r, if_neg (by omega)], by rw [h 0 (by decide) (by decide)]; rfl⟩
  have loop : ∀ (c i many : Nat) (s : Nat → Option Nat) (q : Nat → Nat) (ν : bc_M) (v5 v6 v7 : Value), v5.category = 1 → v6.category = 1 → v7.category = 1 → i + c = 961 → (∀ i, i ≠ 24 → i ≠ 25 → ν i = bc_u m 0 0 0 i) → sqR s q many ν → BI (M 10) x y s q i many 0 → bc_W (d + 2) LM mX10_steps 76 [.ref 0, .int (nI k), .int (nI (31 * x + y)), .int (nI many), .int (nI i), v5, v6, v7] [] ν (fun r ν => r = some (.int (srB (wtB (M 10) (st0 x y) tx ty) 961 0)) ∧ qS m ν) := by
    intro c
    have fin : ∀ (i many : Nat) (s : Nat → Option Nat) (q : Nat → Nat) (ν : bc_M) (v5 v6 v7 : Value), v5.category = 1 → v6.category = 1 → v7.category = 1 → many ≤ i → i ≤ 961 → (∀ i, i ≠ 24 → i ≠ 25 → ν i = bc_u m 0 0 0 i) → sqR s q many ν → BI (M 10) x y s q i many 0 → bc_W (d + 2) LM mX10_steps 76 [.ref 0, .int (nI k), .int (nI (31 * x + y)), .int (nI many), .int (nI i), v5, v6, v7] [] ν (fun r ν => r = some (.int (srB (wtB (M 10) (st0 x y) tx ty) 961 0)) ∧ qS m ν) := by
      intro i many s q ν v5 v6 v7 c5 c6 c7 hi hi2 hf hR hI
      have m1 : ν 10 (2 * k) = nI tx := by rw [hf 10 (by decide) (by decide)]; exact em.1.trans etx
      have m2 : ν 10 (2 * k + 1) = nI ty := by rw [hf 10 (by decide) (by decide)]; exact em.2.1.trans ety
      refine bc_iload dX10_steps_76 rfl ?_
      refine bc_iload_n dX10_steps_78 rfl ?_
      refine bc_icmp_ge (tgt := 214) dX10_steps_79 (by decide) (fun h79 => ?_) (fun h79 => absurd h79 (fun z => z (by rw [bn_leN (by omega) (by omega)]; exact hi)))
      refine bc_aload_n dX10_steps_214 rfl ?_
      refine bc_getr dX10_steps_215 fX10_86 (rfl) rfl ?_
      refine bc_bipush (v := 31) dX10_steps_218 (by decide) ?_
      refine bc_aload_n dX10_steps_220 rfl ?_
      refine bc_getr dX10_steps_221 fX10_44 (rfl) rfl ?_
      refine bc_iconst (v := 2) dX10_steps_224 (by decide) ?_
      refine bc_iload_n dX10_steps_225 rfl ?_
      refine bc_imul dX10_steps_226 ?_
      refine bc_ialdE (k := 2 * k) dX10_steps_227 (rfl) (ixM (a := 2) (b := k) (rfl) (rfl)) (⟨by omega, by decide⟩) ?_
      rw [m1]
      refine bc_imul dX10_steps_228 ?_
      refine bc_aload_n dX10_steps_229 rfl ?_
      refine bc_getr dX10_steps_230 fX10_44 (rfl) rfl ?_
      refine bc_iconst (v := 2) dX10_steps_233 (by decide) ?_
      refine bc_iload_n dX10_steps_234 rfl ?_
      refine bc_imul dX10_steps_235 ?_
      refine bc_iconst (v := 1) dX10_steps_236 (by decide) ?_
      refine bc_iadd dX10_steps_237 ?_
      refine bc_ialdE (k := (2 * k) + 1) dX10_steps_238 (rfl) (ixA (a := 2 * k) (b := 1) (ixM (a := 2) (b := k) (rfl) (rfl)) (rfl)) (⟨by omega, by decide⟩) ?_
      rw [m2]
      refine bc_iadd dX10_steps_239 ?_
      refine bc_ialdE dX10_steps_240 (rfl) ((ixA (ixM (a := 31) rfl rfl) rfl)) (⟨by omega, by decide⟩) ?_
      exact bc_ireturn dX10_steps_241 rfl rfl (⟨by rw [hR.1 (31 * tx + ty) (by omega), hI.ans hx hy hi htx hty], qs _ hf⟩)
    induction c with
    | zero =>
      intro i many s q ν v5 v6 v7 c5 c6 c7 hi hf hR hI
      exact fin i many s q ν v5 v6 v7 c5 c6 c7 (by have := hI.le; omega) (by omega) hf hR hI
    | succ c ih =>
      intro i many s q ν v5 v6 v7 c5 c6 c7 hi hf hR hI
      by_cases hlt : i < many
      · have inner : ∀ (r e many : Nat) (s : Nat → Option Nat) (q : Nat → Nat) (ν : bc_M) (v6 v7 : Value), v6.category = 1 → v7.category = 1 → e + r = 4 → i < many → (∀ i, i ≠ 24 → i ≠ 25 → ν i = bc_u m 0 0 0 i) → sqR s q many ν → BI (M 10) x y s q i many e → bc_W (d + 2) LM mX10_steps 85 [.ref 0, .int (nI k), .int (nI (31 * x + y)), .int (nI many), .int (nI i), .int (nI e), v6, v7] [] ν (fun r ν => r = some (.int (srB (wtB (M 10) (st0 x y) tx ty) 961 0)) ∧ qS m ν) := by
          intro r
          induction r with
          | zero =>
            intro e many s q ν v6 v7 c6 c7 he hlt hf hR hI
            have he : e = 4 := by omega
            subst he
            refine bc_iload dX10_steps_85 rfl ?_
            refine bc_iconst (v := 4) dX10_steps_87 (by decide) ?_
            refine bc_icmp_ge (tgt := 208) dX10_steps_88 (by decide) (fun h88 => ?_) (fun h88 => absurd h88 (by decide))
            refine bc_iinc1 dX10_steps_208 rfl (by decide) rfl ?_
            refine bc_goto (tgt := 76) dX10_steps_211 (by decide) ?_
            rw [bn_add1]
            exact ih (i + 1) many s q ν _ _ _ rfl c6 c7 (by omega) hf hR (hI.next hlt)
          | succ r ir =>
            intro e many s q ν v6 v7 c6 c7 he hlt hf hR hI
            have hle := hI.le
            obtain ⟨q961, v, hv, hvi, hrc⟩ := hI.2.1 i hlt
            have eq : ν 25 i = nI (q i) := hR.2 i hlt
            have e1 : nI (q i) / 31 = nI (q i / 31) := pk_div (d := 31) (by omega) (by omega) (by omega)
            have e2 : nI (q i) - nI (q i) / 31 * 31 = nI (q i % 31) := pk_rem (d := 31) (by omega) (by omega) (by omega)
            have hEν : mEnv M ν n no nq nr nm := hE.t0.mv (fun i _ _ => by rw [hf 0 (by decide) (by decide)]) (fun i h1 h2 => hf i (by omega) (by omega))
            have next : ∀ (many : Nat) (s : Nat → Option Nat) (q : Nat → Nat) (ν : bc_M) (v6 v7 : Value), v6.category = 1 → v7.category = 1 → i < many → (∀ i, i ≠ 24 → i ≠ 25 → ν i = bc_u m 0 0 0 i) → sqR s q many ν → BI (M 10) x y s q i many (e + 1) → bc_W (d + 2) LM mX10_steps 202 [.ref 0, .int (nI k), .int (nI (31 * x + y)), .int (nI many), .int (nI i), .int (nI e), v6, v7] [] ν (fun r ν => r = some (.int (srB (wtB (M 10) (st0 x y) tx ty) 961 0)) ∧ qS m ν) := by
              intro many s q ν v6 v7 c6 c7 hlt hf hR hI
              have h2 := ir (e + 1) many s q ν v6 v7 c6 c7 (by omega) hlt hf hR hI
              refine bc_iinc1 dX10_steps_202 rfl (by decide) rfl ?_
              refine bc_goto (tgt := 85) dX10_steps_205 (by decide) ?_
              rw [bn_add1]
              exact h2
            have from138 : ∀ (a' b' : Nat), a' < 31 → b' < 31 → nbN e (q i / 31) (q i % 31) a' b' → bt (M 10 b') a' = false → bc_W (d + 2) LM mX10_steps 138 [.ref 0, .int (nI k), .int (nI (31 * x + y)), .int (nI many), .int (nI i), .int (nI e), .int (nI a'), .int (nI b')] [] ν (fun r ν => r = some (.int (srB (wtB (M 10) (st0 x y) tx ty) 961 0)) ∧ qS m ν) := by
              intro a' b' ha' hb' hn ho
              have es : ν 24 (31 * a' + b') = oI (s (31 * a' + b')) := hR.1 _ (by omega)
              cases hs : s (31 * a' + b') with
              | some u =>
                have hseen : BI (M 10) x y s q i many (e + 1) := hI.seen (fun v' hv' => by
                  rw [hv] at hv'
                  cases hv'
                  intro a1 b1 g1 g2 g3 g4
                  have t1 := nb_to hn
                  have t2 := nb_to g1
                  have t3 : a1 = a' := (bn_eqN (by omega) (by omega)).mp (t2.1.symm.trans t1.1)
                  have t4 : b1 = b' := (bn_eqN (by omega) (by omega)).mp (t2.2.symm.trans t1.2)
                  subst t3; subst t4
                  obtain ⟨j, hj, ej⟩ := hI.2.2.1 (31 * a1 + b1) (by omega) u hs
                  exact ⟨u, hs, hI.2.2.2.2.2.1 j v u hlt hj (by rw [ej]; exact hs) hv⟩)
                have hu : u < 1000 := by
                  obtain ⟨j, hj, ej⟩ := hI.2.2.1 (31 * a' + b') (by omega) u hs
                  obtain ⟨-, w0, hw0, h1, -⟩ := hI.2.1 j hj
                  rw [ej, hs] at hw0
                  cases hw0
                  omega
                refine bc_aload_n dX10_steps_138 rfl ?_
                refine bc_getr dX10_steps_139 fX10_86 (rfl) rfl ?_
                refine bc_bipush (v := 31) dX10_steps_142 (by decide) ?_
                refine bc_iload dX10_steps_144 rfl ?_
                refine bc_imul dX10_steps_146 ?_
                refine bc_iload dX10_steps_147 rfl ?_
                refine bc_iadd dX10_steps_149 ?_
                refine bc_ialdE (k := (31 * (a')) + (b')) dX10_steps_150 (rfl) (ixA (a := 31 * (a')) (b := b') (ixM (a := 31) (b := a') (rfl) (rfl)) (rfl)) (⟨by omega, by decide⟩) ?_
                rw [es, hs]
                refine bc_iconst (v := (-1)) dX10_steps_151 (by decide) ?_
                refine bc_icmp_eq (tgt := 158) dX10_steps_152 (by decide) (fun h152 => absurd h152 (nI_m1 (by omega))) (fun h152 => ?_)
                refine bc_goto (tgt := 202) dX10_steps_155 (by decide) ?_
                exact next many s q ν _ _ rfl rfl hlt hf hR hseen
              | none =>
                have hadd := hI.add hx hy hlt hv ha' hb' hn ho hs
                have hmany : many < 961 := by rw [← hI.1]; exact cn_lt hs 961 (by omega)
                have hadd2 : BI (M 10) x y (upO s (31 * a' + b') (some (v + 1))) (upN q many (31 * a' + b')) i (many + 1) (e + 1) := hadd.seen (fun v' hv' => by
                  intro a1 b1 g1 g2 g3 g4
                  have qi : upN q many (31 * a' + b') i = q i := by simp only [upN]; rw [if_neg (by omega)]
                  rw [qi] at g1 hv'
                  have t1 := nb_to hn
                  have t2 := nb_to g1
                  have t3 : a1 = a' := (bn_eqN (by omega) (by omega)).mp (t2.1.symm.trans t1.1)
                  have t4 : b1 = b' := (bn_eqN (by omega) (by omega)).mp (t2.2.symm.trans t1.2)
                  subst t3; subst t4
                  have hv2 : v' = v := by
                    have z : upO s (31 * a1 + b1) (some (v + 1)) (q i) = s (q i) := by
                      simp only [upO]
                      rw [if_neg (fun z => by rw [z, hs] at hv; cases hv)]
                    rw [z, hv] at hv'
                    cases hv'
                    rfl
                  exact ⟨v + 1, by simp [upO], by omega⟩)
                have ev : ν 24 (q i) = nI v := by rw [hR.1 (q i) q961, hv]; rfl
                have hR2 : sqR (upO s (31 * a' + b') (some (v + 1))) (upN q many (31 * a' + b')) (many + 1) (bc_u (bc_u ν 24 (31 * a' + b') (nI (v + 1))) 25 many (nI (31 * a' + b'))) := by
                  refine ⟨fun z hz => ?_, fun j hj => ?_⟩
                  · rw [bc_u_ne _ _ _ (by decide), bc_u_r]
                    by_cases ez : z = 31 * a' + b'
                    · rw [if_pos ⟨rfl, ez⟩, ez]; simp [upO, oI]
                    · rw [if_neg (fun t => ez t.2)]; simp only [upO]; rw [if_neg ez]; exact hR.1 z hz
                  · rw [bc_u_r]
                    by_cases ej : j = many
                    · rw [if_pos ⟨rfl, ej⟩, ej]; simp [upN]
                    · rw [if_neg (fun t => ej t.2), bc_u_ne _ _ _ (by decide)]; simp only [upN]; rw [if_neg ej]; exact hR.2 j (by omega)
                refine bc_aload_n dX10_steps_138 rfl ?_
                refine bc_getr dX10_steps_139 fX10_86 (rfl) rfl ?_
                refine bc_bipush (v := 31) dX10_steps_142 (by decide) ?_
                refine bc_iload dX10_steps_144 rfl ?_
                refine bc_imul dX10_steps_146 ?_
                refine bc_iload dX10_steps_147 rfl ?_
                refine bc_iadd dX10_steps_149 ?_
                refine bc_ialdE (k := (31 * (a')) + (b')) dX10_steps_150 (rfl) (ixA (a := 31 * (a')) (b := b') (ixM (a := 31) (b := a') (rfl) (rfl)) (rfl)) (⟨by omega, by decide⟩) ?_
                rw [es, hs]
                refine bc_iconst (v := (-1)) dX10_steps_151 (by decide) ?_
                refine bc_icmp_eq (tgt := 158) dX10_steps_152 (by decide) (fun h152 => ?_) (fun h152 => absurd h152 (fun z => z rfl))
                refine bc_aload_n dX10_steps_158 rfl ?_
                refine bc_getr dX10_steps_159 fX10_86 (rfl) rfl ?_
                refine bc_bipush (v := 31) dX10_steps_162 (by decide) ?_
                refine bc_iload dX10_steps_164 rfl ?_
                refine bc_imul dX10_steps_166 ?_
                refine bc_iload dX10_steps_167 rfl ?_
                refine bc_iadd dX10_steps_169 ?_
                refine bc_aload_n dX10_steps_170 rfl ?_
                refine bc_getr dX10_steps_171 fX10_86 (rfl) rfl ?_
                refine bc_aload_n dX10_steps_174 rfl ?_
                refine bc_getr dX10_steps_175 fX10_89 (rfl) rfl ?_
                refine bc_iload dX10_steps_178 rfl ?_
                refine bc_ialdE (k := i) dX10_steps_180 (rfl) (rfl) (⟨by omega, by decide⟩) ?_
                rw [eq]
                refine bc_ialdE dX10_steps_181 (rfl) (rfl) (⟨q961, by decide⟩) ?_
                rw [ev]
                refine bc_iconst (v := 1) dX10_steps_182 (by decide) ?_
                refine bc_iadd dX10_steps_183 ?_
                rw [bn_add1]
                refine bc_iastE (k := (31 * (a')) + (b')) dX10_steps_184 (rfl) (ixA (a := 31 * (a')) (b := b') (ixM (a := 31) (b := a') (rfl) (rfl)) (rfl)) (⟨by omega, by decide⟩) ?_
                refine bc_aload_n dX10_steps_185 rfl ?_
                refine bc_getr dX10_steps_186 fX10_89 (rfl) rfl ?_
                refine bc_iload_n dX10_steps_189 rfl ?_
                refine bc_bipush (v := 31) dX10_steps_190 (by decide) ?_
                refine bc_iload dX10_steps_192 rfl ?_
                refine bc_imul dX10_steps_194 ?_
                refine bc_iload dX10_steps_195 rfl ?_
                refine bc_iadd dX10_steps_197 ?_
                rw [show (31 : Int32) * nI a' + nI b' = nI (31 * a' + b') from ixA (ixM (a := 31) rfl rfl) rfl]
                refine bc_iastE (k := many) dX10_steps_198 (rfl) (rfl) (⟨by omega, by decide⟩) ?_
                refine bc_iinc1 dX10_steps_199 rfl (by decide) rfl ?_
                rw [bn_add1]
                exact next (many + 1) _ _ _ _ _ rfl rfl (by omega) (fun i h1 h2 => by rw [bc_u_ne _ _ _ h2, bc_u_ne _ _ _ h1]; exact hf i h1 h2) hR2 hadd2
            refine bc_iload dX10_steps_85 rfl ?_
            refine bc_iconst (v := 4) dX10_steps_87 (by decide) ?_
            refine bc_icmp_ge (tgt := 208) dX10_steps_88 (by decide) (fun h88 => absurd h88 (by rw [show (4 : Int32) = nI 4 from rfl, bn_leN (by omega) (by omega)]; omega)) (fun h88 => ?_)
            refine bc_aload_n dX10_steps_91 rfl ?_
            refine bc_getr dX10_steps_92 fX10_89 (rfl) rfl ?_
            refine bc_iload dX10_steps_95 rfl ?_
            refine bc_ialdE (k := i) dX10_steps_97 (rfl) (rfl) (⟨by omega, by decide⟩) ?_
            rw [eq]
            refine bc_bipush (v := 31) dX10_steps_98 (by decide) ?_
            refine bc_idiv dX10_steps_100 (by decide) ?_
            rw [e1]
            refine bc_iload dX10_steps_101 rfl ?_
            refine bc_callS (z := mX10_across) dX10_steps_103 lX10_407 qX10_across (by rfl) (by rfl) (Nat.le_of_ble_eq_true rfl) (t_across (j := e) (by omega)) (fun r103 μ103 e103 => ?_)
            obtain ⟨rfl, q103⟩ := e103
            obtain rfl := q103.symm
            refine bc_iadd dX10_steps_106 ?_
            refine bc_istore dX10_steps_107 (by decide) rfl ?_
            refine bc_aload_n dX10_steps_109 rfl ?_
            refine bc_getr dX10_steps_110 fX10_89 (rfl) rfl ?_
            refine bc_iload dX10_steps_113 rfl ?_
            refine bc_ialdE (k := i) dX10_steps_115 (rfl) (rfl) (⟨by omega, by decide⟩) ?_
            rw [eq]
            refine bc_bipush (v := 31) dX10_steps_116 (by decide) ?_
            refine bc_irem dX10_steps_118 (by decide) ?_
            rw [e2]
            refine bc_iload dX10_steps_119 rfl ?_
            refine bc_callS (z := mX10_along) dX10_steps_121 lX10_410 qX10_along (by rfl) (by rfl) (Nat.le_of_ble_eq_true rfl) (t_along (j := e) (by omega)) (fun r121 μ121 e121 => ?_)
            obtain ⟨rfl, q121⟩ := e121
            obtain rfl := q121.symm
            refine bc_iadd dX10_steps_124 ?_
            refine bc_istore dX10_steps_125 (by decide) rfl ?_
            refine bc_aload_n dX10_steps_127 rfl ?_
            refine bc_iload dX10_steps_128 rfl ?_
            refine bc_iload dX10_steps_130 rfl ?_
            refine bc_callV (z := mX10_isFree) (ci := 10) dX10_steps_132 lX10_413 qX10_isFree (by rfl) (by rfl) (by rfl) (by rfl) (Nat.le_of_ble_eq_true rfl) (t_isFree _ _ hEν) (fun r132 μ132 e132 => ?_)
            obtain ⟨rfl, q132⟩ := e132
            obtain rfl := q132.symm
            refine bc_if_eq (tgt := 202) dX10_steps_135 (by decide) (fun h135 => ?_) (fun h135 => ?_)
            · refine next many s q ν _ _ rfl rfl hlt hf hR (hI.seen (fun v' hv' => ?_))
              intro a1 b1 g1 g2 g3 g4
              have t2 := nb_to g1
              have hno : ¬ opB M (nI (q i / 31) + wxM e) (nI (q i % 31) + wyM e) = true := ite0.mp h135
              rw [t2.1, t2.2] at hno
              exact absurd ((opB_bt g2 g3).mpr g4) hno
            · have hop : opB M (nI (q i / 31) + wxM e) (nI (q i % 31) + wyM e) = true := Decidable.not_not.mp (fun z => h135 (ite0.mpr z))
              obtain ⟨a', b', g1, g2, g3, g4, g5, g6⟩ := nb_of (by omega) (by omega) (by omega) hop
              rw [g5, g6]
              exact from138 a' b' g1 g2 g3 g4
        refine bc_iload dX10_steps_76 rfl ?_
        refine bc_iload_n dX10_steps_78 rfl ?_
        refine bc_icmp_ge (tgt := 214) dX10_steps_79 (by decide) (fun h79 => absurd h79 (by rw [bn_leN (by have := hI.le; omega) (by omega)]; omega)) (fun h79 => ?_)
        refine bc_iconst (v := 0) dX10_steps_82 (by decide) ?_
        refine bc_istore dX10_steps_83 (by decide) rfl ?_
        exact inner 4 0 many s q ν _ _ c6 c7 (by omega) hlt hf hR hI
      · exact fin i many s q ν v5 v6 v7 c5 c6 c7 (by omega) (by omega) hf hR hI
  have n1 : m 19 28 = nI x := hN.2.2.2.2.1.trans ex
  have n2 : m 19 29 = nI y := hN.2.2.2.2.2.1.trans ey
  have init : ∀ (c j : Nat) (ν : bc_M), j + c = 961 → (∀ i, i ≠ 24 → i ≠ 25 → ν i = bc_u m 0 0 0 i) → (∀ i, i < j → ν 24 i = -1) → bc_W (d + 2) LM mX10_steps 18 [.ref 0, .int (nI k), .int (nI j), .null, .null, .null, .null, .null] [] ν (fun r ν => r = some (.int (srB (wtB (M 10) (st0 x y) tx ty) 961 0)) ∧ qS m ν) := by
    intro c
    induction c with
    | zero =>
      intro j ν hj hf h0
      have hj : j = 961 := by omega
      subst hj
      have eh : (31 : Int32) * ν 19 28 + ν 19 29 = nI (31 * x + y) := by
        rw [hf 19 (by decide) (by decide), show bc_u m 0 0 0 19 28 = nI x from n1, show bc_u m 0 0 0 19 29 = nI y from n2]
        exact ixA (ixM (a := 31) rfl rfl) rfl
      refine bc_iload_n dX10_steps_18 rfl ?_
      refine bc_sipush (v := 961) dX10_steps_19 (by decide) ?_
      refine bc_icmp_ge (tgt := 38) dX10_steps_22 (by decide) (fun h22 => ?_) (fun h22 => absurd h22 (fun z => z (by decide)))
      refine bc_bipush (v := 31) dX10_steps_38 (by decide) ?_
      refine bc_aload_n dX10_steps_40 rfl ?_
      refine bc_getr dX10_steps_41 fX10_71 (rfl) rfl ?_
      refine bc_bipush (v := 28) dX10_steps_44 (by decide) ?_
      refine bc_ialdE (k := 28) dX10_steps_46 (rfl) (rfl) (⟨by omega, by decide⟩) ?_
      refine bc_imul dX10_steps_47 ?_
      refine bc_aload_n dX10_steps_48 rfl ?_
      refine bc_getr dX10_steps_49 fX10_71 (rfl) rfl ?_
      refine bc_bipush (v := 29) dX10_steps_52 (by decide) ?_
      refine bc_ialdE (k := 29) dX10_steps_54 (rfl) (rfl) (⟨by omega, by decide⟩) ?_
      refine bc_iadd dX10_steps_55 ?_
      rw [eh]
      refine bc_istore_n dX10_steps_56 (by decide) rfl ?_
      refine bc_aload_n dX10_steps_57 rfl ?_
      refine bc_getr dX10_steps_58 fX10_86 (rfl) rfl ?_
      refine bc_iload_n dX10_steps_61 rfl ?_
      refine bc_iconst (v := 0) dX10_steps_62 (by decide) ?_
      refine bc_iastE dX10_steps_63 (rfl) (rfl) (⟨by omega, by decide⟩) ?_
      refine bc_aload_n dX10_steps_64 rfl ?_
      refine bc_getr dX10_steps_65 fX10_89 (rfl) rfl ?_
      refine bc_iconst (v := 0) dX10_steps_68 (by decide) ?_
      refine bc_iload_n dX10_steps_69 rfl ?_
      refine bc_iastE (k := 0) dX10_steps_70 (rfl) (rfl) (⟨by omega, by decide⟩) ?_
      refine bc_iconst (v := 1) dX10_steps_71 (by decide) ?_
      refine bc_istore_n dX10_steps_72 (by decide) rfl ?_
      refine bc_iconst (v := 0) dX10_steps_73 (by decide) ?_
      refine bc_istore dX10_steps_74 (by decide) rfl ?_
      refine loop 961 0 1 (upO (fun _ => none) (31 * x + y) (some 0)) (fun _ => 31 * x + y) _ _ _ _ rfl rfl rfl (by omega) (fun i h1 h2 => by rw [bc_u_ne _ _ _ h2, bc_u_ne _ _ _ h1]; exact hf i h1 h2) ⟨fun z hz => ?_, fun j hj => ?_⟩ ?_
      · rw [bc_u_ne _ _ _ (by decide), bc_u_r]
        by_cases ez : z = 31 * x + y
        · rw [if_pos ⟨rfl, ez⟩, ez]; simp [upO, oI]; rfl
        · rw [if_neg (fun t => ez t.2)]; simp only [upO]; rw [if_neg ez]; exact h0 z hz
      · have hj : j = 0 := by omega
        subst hj
        rw [bc_u_r, if_pos ⟨rfl, rfl⟩]
      · have hs0 : upO (fun _ => none) (31 * x + y) (some 0) (31 * x + y) = some 0 := by simp [upO]
        have hn : ∀ k, cnO (fun _ => none) k = 0 := by
          intro k
          induction k with
          | zero => rfl
          | succ k ik => rw [cnO, ik]; rfl
        refine ⟨?_, fun j hj => ?_, fun z hz v hv => ?_, fun j k v u h1 h2 h3 h4 => ?_, hs0, fun k v u h1 h2 h3 h4 => ?_, fun j h1 => absurd h1 (by omega), fun _ _ _ e he => absurd he (by omega)⟩
        · rw [cn_up rfl, hn, if_pos (by omega)]
        · refine ⟨by show 31 * x + y < 961; omega, 0, hs0, by omega, ?_⟩
          show Rc (M 10) (st0 x y) 0 ((31 * x + y) / 31) ((31 * x + y) % 31) = true
          rw [show (31 * x + y) / 31 = x by omega, show (31 * x + y) % 31 = y by omega]
          show bt (st0 x y y) x = true
          unfold st0
          rw [if_pos rfl, b_sh1 (by omega) (by omega), decide_eq_true rfl]
        · refine ⟨0, by omega, ?_⟩
          show 31 * x + y = z
          by_cases ez : z = 31 * x + y
          · exact ez.symm
          · simp [upO, ez] at hv
        · rw [hs0] at h3 h4
          cases h3; cases h4
          exact Nat.le_refl _
        · rw [hs0] at h3 h4
          cases h3; cases h4
          omega
    | succ c ih =>
      intro j ν hj hf h0
      have h2 := ih (j + 1) (bc_u ν 24 j (-1)) (by omega) (fun i h1 h2 => by rw [bc_u_ne _ _ _ h1]; exact hf i h1 h2) (fun i hi => by
        rw [bc_u_r]
        by_cases e : i = j
        · rw [if_pos ⟨rfl, e⟩]
        · rw [if_neg (fun t => e t.2)]; exact h0 i (by omega))
      refine bc_iload_n dX10_steps_18 rfl ?_
      refine bc_sipush (v := 961) dX10_steps_19 (by decide) ?_
      refine bc_icmp_ge (tgt := 38) dX10_steps_22 (by decide) (fun h22 => absurd h22 (by rw [show (961 : Int32) = nI 961 from rfl, bn_leN (by omega) (by omega)]; omega)) (fun h22 => ?_)
      refine bc_aload_n dX10_steps_25 rfl ?_
      refine bc_getr dX10_steps_26 fX10_86 (rfl) rfl ?_
      refine bc_iload_n dX10_steps_29 rfl ?_
      refine bc_iconst (v := (-1)) dX10_steps_30 (by decide) ?_
      refine bc_iastE (k := j) dX10_steps_31 (rfl) (rfl) (⟨by omega, by decide⟩) ?_
      refine bc_iinc1 dX10_steps_32 rfl (by decide) rfl ?_
      refine bc_goto (tgt := 18) dX10_steps_35 (by decide) ?_
      rw [bn_add1]
      exact h2
  refine bc_aload_n dX10_steps_0 rfl ?_
  refine bc_iconst (v := 0) dX10_steps_1 (by decide) ?_
  refine bc_put dX10_steps_2 fX10_3 ftX10 fpX10_0 rfl rfl (rfl) rfl ?_
  refine bc_aload_n dX10_steps_5 rfl ?_
  refine bc_iload_n dX10_steps_6 rfl ?_
  refine bc_iconst (v := 1) dX10_steps_7 (by decide) ?_
  refine bc_callV (z := mX10_isMooring) (ci := 10) dX10_steps_8 lX10_395 qX10_isMooring (by rfl) (by rfl) (by rfl) (by rfl) (Nat.le_of_ble_eq_true rfl) (t_isMooringY hE.2.1.2.2.2 h6 (gq hk (by omega)) rfl (by decide)) (fun r8 μ8 e8 => ?_)
  obtain ⟨rfl, q8⟩ := e8
  obtain rfl := q8.symm
  refine bc_if_ne (tgt := 16) dX10_steps_11 (by decide) (fun h11 => ?_) (fun h11 => absurd h11 (by decide))
  refine bc_iconst (v := 0) dX10_steps_16 (by decide) ?_
  refine bc_istore_n dX10_steps_17 (by decide) rfl ?_
  exact init 961 0 _ (by omega) (fun _ _ _ => rfl) (fun i hi => by omega)
end T70
