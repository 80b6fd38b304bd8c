/-! the reference: gusts -/
theorem bc_jhl (x : Int64) : bc_j (bc_hi x) (bc_lo x) = x := by
  apply Int64.toBitVec_inj.mp
  unfold bc_j bc_hi bc_lo
  show (BitVec.extractLsb' 32 32 x.toBitVec ++ BitVec.extractLsb' 0 32 x.toBitVec) = x.toBitVec
  apply BitVec.eq_of_getLsbD_eq
  intro i hi
  rw [BitVec.getLsbD_append]
  by_cases h : i < 32
  · rw [if_pos h, BitVec.getLsbD_extractLsb', decide_eq_true h, Bool.true_and, Nat.zero_add]
  · rw [if_neg h, BitVec.getLsbD_extractLsb', decide_eq_true (by omega), Bool.true_and, show 32 + (i - 32) = i by omega]
def lg (μ : bc_M) (i k : Nat) : Int64 := bc_j (μ i (2 * k)) (μ i (2 * k + 1))
def lgU (μ : bc_M) (i k : Nat) (v : Int64) : bc_M := bc_u (bc_u μ i (2 * k) (bc_hi v)) i (2 * k + 1) (bc_lo v)
theorem lgU_at (μ : bc_M) (i k : Nat) (v : Int64) : lg (lgU μ i k v) i k = v := by
  unfold lg lgU
  rw [bc_u_r, if_neg (by omega), bc_u_r, if_pos ⟨rfl, rfl⟩, bc_u_r, if_pos ⟨rfl, rfl⟩]
  exact bc_jhl v
theorem lgU_ne (μ : bc_M) (i k : Nat) (v : Int64) {j : Nat} (h : j ≠ k) : lg (lgU μ i k v) i j = lg μ i j := by
  unfold lg lgU
  rw [bc_u_r, if_neg (by omega), bc_u_r, if_neg (by omega), bc_u_r, if_neg (by omega), bc_u_r, if_neg (by omega)]
theorem lgU_o (μ : bc_M) (i k : Nat) (v : Int64) {j : Nat} (h : j ≠ i) : lgU μ i k v j = μ j := by
  unfold lgU
  rw [bc_u_ne _ _ _ h, bc_u_ne _ _ _ h]
section T67a
variable {d : Nat} {L : bc_L} {y : bc_Y} {pc : Nat} {ls st : List Value} {μ : bc_M} {Q : Option Value → bc_M → Prop}
theorem bc_laldE {i n k : Nat} {rs : List (Option Nat)} {j : Int32} (hd : decode y.2.1 pc = .ok (.laload, 1)) (ho : L[i]? = some (3, n, rs)) (hj : j = nI k) (hk : k < n ∧ n < 2147483648) (k9 : bc_W d L y (pc + 1) ls (.long (lg μ i k) :: st) μ Q) : bc_W d L y pc ls (.int j :: .ref i :: st) μ Q := by
  subst hj
  intro p l e s m args below meth c X C H locs sl hP hS hl
  refine va_lald (D := X.2.1) (f := fun k => bc_j (μ i (2 * k)) (μ i (2 * k + 1))) C.1 C.2.1 C.K.1 hP i 3 (bc_at ho) rfl (vp_in_nI hk.1 hk.2) hd ?_
  rw [nI_clamp (by omega)]
  exact k9 p l e s m args below meth c X C H locs sl hP hS hl
theorem bc_lastE {i n k : Nat} {rs : List (Option Nat)} {j : Int32} {v : Int64} (hd : decode y.2.1 pc = .ok (.lastore, 1)) (ho : L[i]? = some (3, n, rs)) (hj : j = nI k) (hk : k < n ∧ n < 2147483648) (k9 : bc_W d L y (pc + 1) ls st (lgU μ i k v) Q) : bc_W d L y pc ls (.long v :: .int j :: .ref i :: st) μ Q := by
  subst hj
  intro p l e s m args below meth c X C H locs sl hP hS hl
  refine va_last (D := X.2.1) (f := fun k => bc_j (μ i (2 * k)) (μ i (2 * k + 1))) C.1 C.2.1 C.K.1 hP (bc_Dof C.K.2.2.1) hS i 3 (bc_at ho) rfl (vp_in_nI hk.1 hk.2) hd (fun H1 locs1 hP1 _ hS1 => ?_)
  refine k9 p l e s m args below meth c X C H1 locs1 sl ?_ hS1 hl
  rw [nI_clamp (by omega)] at hP1
  have e : (bc_ws X L μ).set i (X.1 i, .inl (X.2.2.1 3, n, .inr (.inl (vp_updL (fun k => bc_j (μ i (2 * k)) (μ i (2 * k + 1))) k v)))) = bc_ws X L (lgU μ i k v) := by
    refine bc_set ho ?_ (fun j hj => lgU_o μ i k v hj)
    show _ = Sum.inl (X.2.2.1 3, n, Sum.inr (Sum.inl (fun j => lg (lgU μ i k v) i j)))
    congr 5
    funext j
    by_cases h : j = k
    · subst h; rw [lgU_at]; simp [vp_updL]
    · rw [lgU_ne _ _ _ _ h]; simp [vp_updL, h]; rfl
  rw [← e]
  exact hP1
end T67a
/-! the reckoning -/
def dpN (q : Nat) : Nat → Nat → Nat
  | 0, j => if j = 0 then 1 else 0
  | i + 1, j => dpN q i j * (16 - q) + (if j = 0 then 0 else dpN q i (j - 1) * q)
theorem dp_le {q : Nat} (hq : q ≤ 16) : ∀ i j, dpN q i j ≤ 16 ^ i := by
  intro i
  induction i with
  | zero => intro j; rw [dpN]; split <;> simp
  | succ i ih =>
    intro j
    rw [dpN, Nat.pow_succ]
    have h1 := Nat.mul_le_mul_right (16 - q) (ih j)
    by_cases h : j = 0
    · rw [if_pos h]
      have h3 : 16 ^ i * (16 - q) ≤ 16 ^ i * 16 := Nat.mul_le_mul_left _ (by omega)
      omega
    · rw [if_neg h]
      have h2 := Nat.mul_le_mul_right q (ih (j - 1))
      have h3 : 16 ^ i * (16 - q) + 16 ^ i * q = 16 ^ i * 16 := by rw [← Nat.mul_add]; congr 1; omega
      omega
def bN : Nat → Nat → Nat
  | _, 0 => 1
  | 0, _ + 1 => 0
  | n + 1, k + 1 => bN n (k + 1) + bN n k
theorem bN_0 : ∀ n k, n < k → bN n k = 0 := by
  intro n
  induction n with
  | zero => intro k h; cases k with | zero => omega | succ k => rfl
  | succ n ih =>
    intro k h
    cases k with
    | zero => omega
    | succ k => rw [bN, ih (k + 1) (by omega), ih k (by omega)]
theorem bN_wy : ∀ n, n < 13 → ∀ k, k < 13 → k ≤ n → wyN n k k = bN n k := by decide +kernel
theorem dp_bN {q : Nat} : ∀ n k, dpN q n k = bN n k * q ^ k * (16 - q) ^ (n - k) := by
  intro n
  induction n with
  | zero =>
    intro k
    cases k with
    | zero => rfl
    | succ k => rw [dpN, if_neg (by omega), bN, Nat.zero_mul, Nat.zero_mul]
  | succ n ih =>
    intro k
    cases k with
    | zero =>
      rw [dpN, if_pos rfl, ih 0]
      simp only [bN, Nat.pow_zero, Nat.mul_one, Nat.one_mul, Nat.sub_zero, Nat.add_zero]
      rw [Nat.pow_succ]
    | succ k =>
      rw [dpN, if_neg (by omega), ih (k + 1), Nat.add_sub_cancel, ih k, bN, show n + 1 - (k + 1) = n - k by omega]
      have e1 : bN n (k + 1) * q ^ (k + 1) * (16 - q) ^ (n - (k + 1)) * (16 - q) = bN n (k + 1) * q ^ (k + 1) * (16 - q) ^ (n - k) := by
        by_cases h : k + 1 ≤ n
        · rw [Nat.mul_assoc, ← Nat.pow_succ, show (n - (k + 1)).succ = n - k by omega]
        · rw [bN_0 n (k + 1) (by omega)]; simp
      have e2 : bN n k * q ^ k * (16 - q) ^ (n - k) * q = bN n k * q ^ (k + 1) * (16 - q) ^ (n - k) := by
        rw [Nat.pow_succ, Nat.mul_right_comm, Nat.mul_assoc (bN n k) (q ^ k) q]
      rw [e1, e2, ← Nat.add_mul, ← Nat.add_mul]
theorem dp_gsU {n k q : Nat} (hn : n ≤ 12) (hk : k ≤ 12) : gsU n k q = dpN q n k := by
  unfold gsU
  rw [dp_bN]
  by_cases h : n < k
  · rw [if_pos h, bN_0 n k h, Nat.zero_mul, Nat.zero_mul]
  · rw [if_neg h, bN_wy n (by omega) k (by omega) (by omega)]
theorem hv_gcd : ∀ f t a, t ≤ f → hvN f (a, 2 ^ t) = (a / Nat.gcd a (2 ^ t), 2 ^ t / Nat.gcd a (2 ^ t)) := by
  intro f
  induction f with
  | zero =>
    intro t a ht
    have ht : t = 0 := by omega
    subst ht
    simp [hvN]
  | succ f ih =>
    intro t a ht
    cases t with
    | zero => simp [hvN]
    | succ t =>
      rw [hvN]
      have hp : 2 ^ (t + 1) % 2 = 0 := by rw [Nat.pow_succ]; omega
      have hp2 : 2 ^ (t + 1) / 2 = 2 ^ t := by rw [Nat.pow_succ]; omega
      by_cases h : a % 2 = 0
      · rw [if_pos ⟨h, hp⟩]
        show hvN f (a / 2, 2 ^ (t + 1) / 2) = _
        rw [hp2, ih t (a / 2) (by omega)]
        obtain ⟨b, rfl⟩ : ∃ b, a = 2 * b := ⟨a / 2, by omega⟩
        rw [show 2 * b / 2 = b by omega, Nat.pow_succ, Nat.mul_comm (2 ^ t) 2, Nat.gcd_mul_left, Nat.mul_div_mul_left _ _ (by omega), Nat.mul_div_mul_left _ _ (by omega)]
      · rw [if_neg (fun q => h q.1)]
        have hc : Nat.gcd a (2 ^ (t + 1)) = 1 := by
          have h2 : Nat.Coprime a 2 := by
            rw [Nat.coprime_comm]
            show Nat.gcd 2 a = 1
            rw [Nat.gcd_rec, show a % 2 = 1 by omega]; rfl
          exact Nat.Coprime.pow_right (t + 1) h2
        rw [hc, Nat.div_one, Nat.div_one]
theorem gus_v {n k q w : Nat} (hn : n ≤ 12) (hk : k ≤ 12) : gusN n k q w = (if w = 0 then dpN q n k else 16 ^ n) / Nat.gcd (dpN q n k) (16 ^ n) := by
  have e : 16 ^ n = 2 ^ (4 * n) := by rw [Nat.pow_mul]
  unfold gusN
  rw [dp_gsU hn hk, e, hv_gcd 48 (4 * n) _ (by omega)]
  by_cases h : w = 0
  · rw [if_pos h, if_pos h]
  · rw [if_neg h, if_neg h]
section T67
variable {d : Nat} {m m1 ν M : bc_M} {n no nq nr nm : Nat} {A : Row}
theorem t_least {L : bc_L} {a b w : Nat} (ha : a < 2 ^ 62) (hb : b < 2 ^ 62) (hb0 : 0 < b) (hw : w ≤ 1) : bc_C d L mX10_least [.long (lN a), .long (lN b), .int (nI w)] m (fun r ν => r = some (.long (lN ((if w = 0 then a else b) / Nat.gcd a b))) ∧ ν = m) := by
  refine bc_enter (by decide) (Nat.le_of_ble_eq_true rfl) rfl ?_
  have loop : ∀ (f x y : Nat) (v9 v10 : Value), v9.category = 1 ∨ v9.category = 2 → y ≤ f → x < 2 ^ 62 → y < 2 ^ 62 → Nat.gcd x y = Nat.gcd a b → bc_W d L mX10_least 6 [.long (lN a), .null, .long (lN b), .null, .int (nI w), .long (lN x), .null, .long (lN y), .null, v9, v10] [] m (fun r ν => r = some (.long (lN ((if w = 0 then a else b) / Nat.gcd a b))) ∧ ν = m) := by
    intro f
    induction f with
    | zero =>
      intro x y v9 v10 c9 hy hx hy2 hg
      have hy : y = 0 := by omega
      subst hy
      rw [Nat.gcd_zero_right] at hg
      have hx0 : 0 < x := by rw [hg]; exact Nat.gcd_pos_of_pos_right _ hb0
      have hc : w = 0 ∨ w = 1 := by omega
      rcases hc with rfl | rfl
      · skip
        refine bc_lload dX10_least_6 rfl ?_
        refine bc_lconst (v := 0) dX10_least_8 (by decide) ?_
        refine bc_lcmp dX10_least_9 ?_
        refine bc_if_eq (tgt := 31) dX10_least_10 (by decide) (fun h10 => ?_) (fun h10 => absurd h10 (fun q => q ((lg0 (by omega)).mpr rfl)))
        refine bc_iload dX10_least_31 rfl ?_
        refine bc_if_ne (tgt := 40) dX10_least_33 (by decide) (fun h33 => absurd h33 (fun q => q rfl)) (fun h33 => ?_)
        refine bc_lload_n dX10_least_36 rfl ?_
        refine bc_goto (tgt := 41) dX10_least_37 (by decide) ?_
        refine bc_lload dX10_least_41 rfl ?_
        refine bc_ldiv dX10_least_43 (lne hx0 (by omega)) ?_
        rw [pk_lDiv (by omega) hx0 (by omega)]
        exact bc_lreturn dX10_least_44 rfl (⟨by rw [hg]; rfl, rfl⟩)
      · skip
        refine bc_lload dX10_least_6 rfl ?_
        refine bc_lconst (v := 0) dX10_least_8 (by decide) ?_
        refine bc_lcmp dX10_least_9 ?_
        refine bc_if_eq (tgt := 31) dX10_least_10 (by decide) (fun h10 => ?_) (fun h10 => absurd h10 (fun q => q ((lg0 (by omega)).mpr rfl)))
        refine bc_iload dX10_least_31 rfl ?_
        refine bc_if_ne (tgt := 40) dX10_least_33 (by decide) (fun h33 => ?_) (fun h33 => absurd h33 (by decide))
        refine bc_lload_n dX10_least_40 rfl ?_
        refine bc_lload dX10_least_41 rfl ?_
        refine bc_ldiv dX10_least_43 (lne hx0 (by omega)) ?_
        rw [pk_lDiv (by omega) hx0 (by omega)]
        exact bc_lreturn dX10_least_44 rfl (⟨by rw [hg]; rfl, rfl⟩)
    | succ f ih =>
      intro x y v9 v10 c9 hy hx hy2 hg
      by_cases h0 : y = 0
      · exact (by subst h0; exact ih x 0 v9 v10 c9 (by omega) hx hy2 hg)
      · have hlt : x % y < y := Nat.mod_lt x (by omega)
        refine bc_lload dX10_least_6 rfl ?_
        refine bc_lconst (v := 0) dX10_least_8 (by decide) ?_
        refine bc_lcmp dX10_least_9 ?_
        refine bc_if_eq (tgt := 31) dX10_least_10 (by decide) (fun h10 => absurd h10 (fun q => h0 ((lg0 (by omega)).mp q))) (fun h10 => ?_)
        refine bc_lload dX10_least_13 rfl ?_
        refine bc_lload dX10_least_15 rfl ?_
        refine bc_lrem dX10_least_17 (lne (by omega) (by omega)) ?_
        rw [pk_lRem (by omega) (by omega) (by omega)]
        refine bc_lstore dX10_least_18 (by decide) rfl ?_
        refine bc_lload dX10_least_20 rfl ?_
        refine bc_lstore dX10_least_22 (by decide) rfl ?_
        refine bc_lload dX10_least_24 rfl ?_
        refine bc_lstore dX10_least_26 (by decide) rfl ?_
        refine bc_goto (tgt := 6) dX10_least_28 (by decide) ?_
        exact ih y (x % y) _ _ (.inr rfl) (by omega) hy2 (by omega) (by rw [← hg, Nat.gcd_comm x y, Nat.gcd_rec y x, Nat.gcd_comm])
  refine bc_lload_n dX10_least_0 rfl ?_
  refine bc_lstore dX10_least_1 (by decide) rfl ?_
  refine bc_lload_n dX10_least_3 rfl ?_
  refine bc_lstore dX10_least_4 (by decide) rfl ?_
  exact loop b a b .null .null (.inl rfl) (Nat.le_refl _) ha hb rfl
theorem t_gustsB {n0 k0 q0 w : Int32} (h : ¬ ((0 ≤ n0 ∧ n0 ≤ 12) ∧ (0 ≤ k0 ∧ k0 ≤ 12) ∧ (0 ≤ q0 ∧ q0 ≤ 16) ∧ (0 ≤ w ∧ w ≤ 1))) : bc_C (d + 2) LM mX10_gusts [.ref 0, .int n0, .int k0, .int q0, .int w] m (fun r ν => r = some (.long 0) ∧ ν = refM m 1 1) := by
  refine bc_enter (by decide) (Nat.le_of_ble_eq_true rfl) rfl ?_
  have bad : bc_W (d + 2) LM mX10_gusts 50 ([.ref 0, .int n0, .int k0, .int q0, .int w] ++ List.replicate (mX10_gusts.2.2.1 - 5) .null) [.ref 0] (bc_u m 0 0 0) (fun r ν => r = some (.long 0) ∧ ν = refM m 1 1) := by
    refine bc_iconst (v := 0) dX10_gusts_50 (by decide) ?_
    refine bc_iconst (v := 1) dX10_gusts_51 (by decide) ?_
    refine bc_iconst (v := 1) dX10_gusts_52 (by decide) ?_
    refine bc_callV (z := mX10_may) (ci := 10) dX10_gusts_53 lX10_236 qX10_may (by rfl) (by rfl) (by rfl) (by rfl) (Nat.le_of_ble_eq_true rfl) (t_mayN (k := 1) False (fun x => x) _ (by decide) rfl (by decide)) (fun r53 μ53 e53 => ?_)
    obtain ⟨rfl, q53⟩ := e53
    obtain rfl := q53.symm
    refine bc_if_ne (tgt := 61) dX10_gusts_56 (by decide) (fun h56 => absurd h56 (fun q => q rfl)) (fun h56 => ?_)
    refine bc_lconst (v := 0) dX10_gusts_59 (by decide) ?_
    exact bc_lreturn dX10_gusts_60 rfl (⟨rfl, rfl⟩)
  refine bc_aload_n dX10_gusts_0 rfl ?_
  refine bc_iconst (v := 0) dX10_gusts_1 (by decide) ?_
  refine bc_put dX10_gusts_2 fX10_3 ftX10 fpX10_0 rfl rfl (rfl) rfl ?_
  refine bc_aload_n dX10_gusts_5 rfl ?_
  refine bc_iload_n dX10_gusts_6 rfl ?_
  refine bc_iconst (v := 0) dX10_gusts_7 (by decide) ?_
  refine bc_bipush (v := 12) dX10_gusts_8 (by decide) ?_
  refine bc_callS (z := mX10_within) dX10_gusts_10 lX10_384 qX10_within (by rfl) (by rfl) (Nat.le_of_ble_eq_true rfl) (t_within _ _ _) (fun r10 μ10 e10 => ?_)
  obtain ⟨rfl, q10⟩ := e10
  obtain rfl := q10.symm
  refine bc_if_eq (tgt := 50) dX10_gusts_13 (by decide) (fun h13 => ?_) (fun h13 => ?_)
  · exact bad
  · refine bc_iload_n dX10_gusts_16 rfl ?_
    refine bc_iconst (v := 0) dX10_gusts_17 (by decide) ?_
    refine bc_bipush (v := 12) dX10_gusts_18 (by decide) ?_
    refine bc_callS (z := mX10_within) dX10_gusts_20 lX10_384 qX10_within (by rfl) (by rfl) (Nat.le_of_ble_eq_true rfl) (t_within _ _ _) (fun r20 μ20 e20 => ?_)
    obtain ⟨rfl, q20⟩ := e20
    obtain rfl := q20.symm
    refine bc_if_eq (tgt := 50) dX10_gusts_23 (by decide) (fun h23 => ?_) (fun h23 => ?_)
    · exact bad
    · refine bc_iload_n dX10_gusts_26 rfl ?_
      refine bc_iconst (v := 0) dX10_gusts_27 (by decide) ?_
      refine bc_bipush (v := 16) dX10_gusts_28 (by decide) ?_
      refine bc_callS (z := mX10_within) dX10_gusts_30 lX10_384 qX10_within (by rfl) (by rfl) (Nat.le_of_ble_eq_true rfl) (t_within _ _ _) (fun r30 μ30 e30 => ?_)
      obtain ⟨rfl, q30⟩ := e30
      obtain rfl := q30.symm
      refine bc_if_eq (tgt := 50) dX10_gusts_33 (by decide) (fun h33 => ?_) (fun h33 => ?_)
      · exact bad
      · refine bc_iload dX10_gusts_36 rfl ?_
        refine bc_iconst (v := 0) dX10_gusts_38 (by decide) ?_
        refine bc_iconst (v := 1) dX10_gusts_39 (by decide) ?_
        refine bc_callS (z := mX10_within) dX10_gusts_40 lX10_384 qX10_within (by rfl) (by rfl) (Nat.le_of_ble_eq_true rfl) (t_within _ _ _) (fun r40 μ40 e40 => ?_)
        obtain ⟨rfl, q40⟩ := e40
        obtain rfl := q40.symm
        refine bc_if_eq (tgt := 50) dX10_gusts_43 (by decide) (fun h43 => ?_) (fun h43 => ?_)
        · exact bad
        · exact absurd (⟨Decidable.not_not.mp (fun e => h13 (ite0.mpr e)), Decidable.not_not.mp (fun e => h23 (ite0.mpr e)), Decidable.not_not.mp (fun e => h33 (ite0.mpr e)), Decidable.not_not.mp (fun e => h43 (ite0.mpr e))⟩) h
def iv : Nat → Int32
  | 0 => -1
  | j + 1 => nI j
theorem iv_s (j : Nat) : iv (j + 1) + Int32.ofInt (-1) = iv j := by
  cases j with
  | zero => rfl
  | succ j => exact bn_m1 (t := j + 1) (by omega)
def gR (ν : bc_M) (g : Nat → Nat) : Prop := ∀ j, j < 14 → lg ν 29 j = lN (g j)
theorem t_gusts {k q w : Nat} (hn : n ≤ 12) (hk : k ≤ 12) (hq : q ≤ 16) (hw : w ≤ 1) : bc_C (d + 2) LM mX10_gusts [.ref 0, .int (nI n), .int (nI k), .int (nI q), .int (nI w)] m (fun r ν => r = some (.long (lN (gusN n k q w))) ∧ qS m ν) := by
  refine bc_enter (by decide) (Nat.le_of_ble_eq_true rfl) rfl ?_
  have p16 : ∀ i, i ≤ 12 → 16 ^ i < 2 ^ 62 := fun i hi => p16_b i (by omega)
  have qs : ∀ ν, (∀ i, i ≠ 29 → ν i = bc_u m 0 0 0 i) → qS m ν := fun ν hf => ⟨fun i h0 h1 h2 h3 h4 => by rw [hf i (by omega), bc_u_ne _ _ _ h0], fun j h1 _ => by rw [hf 0 (by decide), bc_u_r, if_neg (by omega)], by rw [hf 0 (by decide)]; rfl⟩
  have outer : ∀ (c i : Nat) (ν : bc_M) (v8 : Value), v8.category = 1 → i + c = n → (∀ i, i ≠ 29 → ν i = bc_u m 0 0 0 i) → gR ν (dpN q i) → bc_W (d + 2) LM mX10_gusts 100 [.ref 0, .int (nI n), .int (nI k), .int (nI q), .int (nI w), .long (lN (16 ^ i)), .null, .int (nI i), v8] [] ν (fun r ν => r = some (.long (lN (gusN n k q w))) ∧ qS m ν) := by
    intro c
    induction c with
    | zero =>
      intro i ν v8 c8 hi hf hg
      have hi : i = n := by omega
      subst hi
      have hd := dp_le hq i k
      have h16 := p16 i hn
      refine bc_iload dX10_gusts_100 rfl ?_
      refine bc_iload_n dX10_gusts_102 rfl ?_
      refine bc_icmp_ge (tgt := 177) dX10_gusts_103 (by decide) (fun h103 => ?_) (fun h103 => absurd h103 (fun q => q (Int32.le_refl _)))
      refine bc_aload_n dX10_gusts_177 rfl ?_
      refine bc_getr dX10_gusts_178 fX10_102 (rfl) rfl ?_
      refine bc_iload_n dX10_gusts_181 rfl ?_
      refine bc_laldE (k := k) dX10_gusts_182 (rfl) (rfl) (⟨by omega, by decide⟩) ?_
      rw [hg k (by omega)]
      refine bc_lload dX10_gusts_183 rfl ?_
      refine bc_iload dX10_gusts_185 rfl ?_
      refine bc_callS (z := mX10_least) dX10_gusts_187 lX10_421 qX10_least (by rfl) (by rfl) (Nat.le_of_ble_eq_true rfl) (t_least (by omega) h16 (Nat.pow_pos (by omega)) hw) (fun r187 μ187 e187 => ?_)
      obtain ⟨rfl, q187⟩ := e187
      obtain rfl := q187.symm
      exact bc_lreturn dX10_gusts_190 rfl (⟨by rw [gus_v hn hk], qs _ hf⟩)
    | succ c ih =>
      intro i ν v8 c8 hi hf hg
      have h16 := p16 (i + 1) (by omega)
      have inner : ∀ (c : Nat) (ν : bc_M), c ≤ 14 → (∀ i, i ≠ 29 → ν i = bc_u m 0 0 0 i) → (∀ j, c ≤ j → j < 14 → lg ν 29 j = lN (dpN q (i + 1) j)) → (∀ j, j < c → lg ν 29 j = lN (dpN q i j)) → bc_W (d + 2) LM mX10_gusts 110 [.ref 0, .int (nI n), .int (nI k), .int (nI q), .int (nI w), .long (lN (16 ^ i)), .null, .int (nI i), .int (iv c)] [] ν (fun r ν => r = some (.long (lN (gusN n k q w))) ∧ qS m ν) := by
        intro c
        induction c with
        | zero =>
          intro ν hc hf g1 g2
          refine bc_iload dX10_gusts_110 rfl ?_
          refine bc_if_lt (tgt := 163) dX10_gusts_112 (by decide) (fun h112 => ?_) (fun h112 => absurd h112 (fun q => q (by decide)))
          refine bc_lload dX10_gusts_163 rfl ?_
          refine bc_ldc2_w dX10_gusts_165 nX10_419 ?_
          refine bc_lmul dX10_gusts_168 ?_
          rw [show (16 : Int64) = lN 16 from rfl, lN_mul, ← Nat.pow_succ]
          refine bc_lstore dX10_gusts_169 (by decide) rfl ?_
          refine bc_iinc1 dX10_gusts_171 rfl (by decide) rfl ?_
          refine bc_goto (tgt := 100) dX10_gusts_174 (by decide) ?_
          rw [bn_add1]
          exact ih (i + 1) ν _ rfl (by omega) hf (fun j hj => g1 j (by omega) hj)
        | succ c ic =>
          intro ν hc hf g1 g2
          have hb1 := dp_le hq (i + 1) c
          have next : ∀ v : Nat, dpN q (i + 1) c = dpN q i c * (16 - q) + v → bc_W (d + 2) LM mX10_gusts 155 [.ref 0, .int (nI n), .int (nI k), .int (nI q), .int (nI w), .long (lN (16 ^ i)), .null, .int (nI i), .int (nI c)] [.long (lN v), .long (lN (dpN q i c * (16 - q))), .int (nI c), .ref 29] ν (fun r ν => r = some (.long (lN (gusN n k q w))) ∧ qS m ν) := by
            intro v hv
            refine bc_ladd dX10_gusts_155 ?_
            rw [lN_add, ← hv]
            refine bc_lastE (k := c) dX10_gusts_156 (rfl) (rfl) (⟨by omega, by decide⟩) ?_
            refine bc_iinc (v := iv c) dX10_gusts_157 rfl (iv_s c) (by decide) rfl ?_
            refine bc_goto (tgt := 110) dX10_gusts_160 (by decide) ?_
            exact ic _ (by omega) (fun i hi => (lgU_o _ _ _ _ hi).trans (hf i hi)) (fun j h1 h2 => by
            by_cases e : j = c
            · subst e; rw [lgU_at]
            · rw [lgU_ne _ _ _ _ e]; exact g1 j (by omega) h2) (fun j h1 => by rw [lgU_ne _ _ _ _ (by omega)]; exact g2 j (by omega))
          cases c with
          | zero =>
            refine bc_iload dX10_gusts_110 rfl ?_
            refine bc_if_lt (tgt := 163) dX10_gusts_112 (by decide) (fun h112 => absurd h112 (by decide)) (fun h112 => ?_)
            refine bc_aload_n dX10_gusts_115 rfl ?_
            refine bc_getr dX10_gusts_116 fX10_102 (rfl) rfl ?_
            refine bc_iload dX10_gusts_119 rfl ?_
            refine bc_aload_n dX10_gusts_121 rfl ?_
            refine bc_getr dX10_gusts_122 fX10_102 (rfl) rfl ?_
            refine bc_iload dX10_gusts_125 rfl ?_
            refine bc_laldE (k := 0) dX10_gusts_127 (rfl) (rfl) (⟨by omega, by decide⟩) ?_
            rw [g2 0 (by omega)]
            refine bc_bipush (v := 16) dX10_gusts_128 (by decide) ?_
            refine bc_iload_n dX10_gusts_130 rfl ?_
            refine bc_isub dX10_gusts_131 ?_
            rw [show (16 : Int32) = nI 16 from rfl, pk_sub hq]
            refine bc_i2l dX10_gusts_132 rfl ?_
            rw [nI_l (by omega)]
            refine bc_lmul dX10_gusts_133 ?_
            rw [lN_mul]
            refine bc_iload dX10_gusts_134 rfl ?_
            refine bc_if_le (tgt := 154) dX10_gusts_136 (by decide) (fun h136 => ?_) (fun h136 => absurd h136 (fun q => q (by decide)))
            refine bc_lconst (v := 0) dX10_gusts_154 (by decide) ?_
            exact next 0 (by rw [dpN, if_pos rfl])
          | succ c =>
            refine bc_iload dX10_gusts_110 rfl ?_
            refine bc_if_lt (tgt := 163) dX10_gusts_112 (by decide) (fun h112 => absurd h112 (by show ¬ nI (c + 1) < 0; exact bn_nn (by omega))) (fun h112 => ?_)
            refine bc_aload_n dX10_gusts_115 rfl ?_
            refine bc_getr dX10_gusts_116 fX10_102 (rfl) rfl ?_
            refine bc_iload dX10_gusts_119 rfl ?_
            refine bc_aload_n dX10_gusts_121 rfl ?_
            refine bc_getr dX10_gusts_122 fX10_102 (rfl) rfl ?_
            refine bc_iload dX10_gusts_125 rfl ?_
            refine bc_laldE (k := (c + 1)) dX10_gusts_127 (rfl) (rfl) (⟨by omega, by decide⟩) ?_
            rw [g2 (c + 1) (by omega)]
            refine bc_bipush (v := 16) dX10_gusts_128 (by decide) ?_
            refine bc_iload_n dX10_gusts_130 rfl ?_
            refine bc_isub dX10_gusts_131 ?_
            rw [show (16 : Int32) = nI 16 from rfl, pk_sub hq]
            refine bc_i2l dX10_gusts_132 rfl ?_
            rw [nI_l (by omega)]
            refine bc_lmul dX10_gusts_133 ?_
            rw [lN_mul]
            refine bc_iload dX10_gusts_134 rfl ?_
            refine bc_if_le (tgt := 154) dX10_gusts_136 (by decide) (fun h136 => absurd h136 (by show ¬ nI (c + 1) ≤ 0; rw [show (0 : Int32) = nI 0 from rfl, bn_leN (by omega) (by omega)]; omega)) (fun h136 => ?_)
            refine bc_aload_n dX10_gusts_139 rfl ?_
            refine bc_getr dX10_gusts_140 fX10_102 (rfl) rfl ?_
            refine bc_iload dX10_gusts_143 rfl ?_
            refine bc_iconst (v := 1) dX10_gusts_145 (by decide) ?_
            refine bc_isub dX10_gusts_146 ?_
            refine bc_laldE (k := ((c + 1)) - 1) dX10_gusts_147 (rfl) (ixS (a := (c + 1)) (b := 1) (rfl) (rfl) (by omega)) (⟨by omega, by decide⟩) ?_
            rw [show c + 1 - 1 = c by omega, g2 c (by omega)]
            refine bc_iload_n dX10_gusts_148 rfl ?_
            refine bc_i2l dX10_gusts_149 rfl ?_
            rw [nI_l (by omega)]
            refine bc_lmul dX10_gusts_150 ?_
            rw [lN_mul]
            refine bc_goto (tgt := 155) dX10_gusts_151 (by decide) ?_
            exact next _ (by rw [dpN, if_neg (by omega), show c + 1 - 1 = c by omega])
      refine bc_iload dX10_gusts_100 rfl ?_
      refine bc_iload_n dX10_gusts_102 rfl ?_
      refine bc_icmp_ge (tgt := 177) dX10_gusts_103 (by decide) (fun h103 => absurd h103 (by rw [bn_leN (by omega) (by omega)]; omega)) (fun h103 => ?_)
      refine bc_bipush (v := 13) dX10_gusts_106 (by decide) ?_
      refine bc_istore dX10_gusts_108 (by decide) rfl ?_
      exact inner 14 ν (Nat.le_refl _) hf (fun j h1 h2 => by omega) hg
  have init : ∀ (c j : Nat) (ν : bc_M), j + c = 14 → (∀ i, i ≠ 29 → ν i = bc_u m 0 0 0 i) → (∀ i, i < j → lg ν 29 i = lN (dpN q 0 i)) → bc_W (d + 2) LM mX10_gusts 64 [.ref 0, .int (nI n), .int (nI k), .int (nI q), .int (nI w), .int (nI j), .null, .null, .null] [] ν (fun r ν => r = some (.long (lN (gusN n k q w))) ∧ qS m ν) := by
    intro c
    induction c with
    | zero =>
      intro j ν hj hf hg
      have hj : j = 14 := by omega
      subst hj
      refine bc_iload dX10_gusts_64 rfl ?_
      refine bc_bipush (v := 14) dX10_gusts_66 (by decide) ?_
      refine bc_icmp_ge (tgt := 94) dX10_gusts_68 (by decide) (fun h68 => ?_) (fun h68 => absurd h68 (fun q => q (by decide)))
      refine bc_lconst (v := 1) dX10_gusts_94 (by decide) ?_
      refine bc_lstore dX10_gusts_95 (by decide) rfl ?_
      refine bc_iconst (v := 0) dX10_gusts_97 (by decide) ?_
      refine bc_istore dX10_gusts_98 (by decide) rfl ?_
      exact outer n 0 ν _ rfl (by omega) hf hg
    | succ c ih =>
      intro j ν hj hf hg
      have next : ∀ v : Nat, v = dpN q 0 j → bc_W (d + 2) LM mX10_gusts 87 [.ref 0, .int (nI n), .int (nI k), .int (nI q), .int (nI w), .int (nI j), .null, .null, .null] [.long (lN v), .int (nI j), .ref 29] ν (fun r ν => r = some (.long (lN (gusN n k q w))) ∧ qS m ν) := by
        intro v hv
        refine bc_lastE (k := j) dX10_gusts_87 (rfl) (rfl) (⟨by omega, by decide⟩) ?_
        refine bc_iinc1 dX10_gusts_88 rfl (by decide) rfl ?_
        refine bc_goto (tgt := 64) dX10_gusts_91 (by decide) ?_
        rw [bn_add1]
        exact ih (j + 1) _ (by omega) (fun i hi => (lgU_o _ _ _ _ hi).trans (hf i hi)) (fun i hi => by
          by_cases e : i = j
          · subst e; rw [lgU_at, hv]
          · rw [lgU_ne _ _ _ _ e]; exact hg i (by omega))
      refine bc_iload dX10_gusts_64 rfl ?_
      refine bc_bipush (v := 14) dX10_gusts_66 (by decide) ?_
      refine bc_icmp_ge (tgt := 94) dX10_gusts_68 (by decide) (fun h68 => absurd h68 (by rw [show (14 : Int32) = nI 14 from rfl, bn_leN (by omega) (by omega)]; omega)) (fun h68 => ?_)
      refine bc_aload_n dX10_gusts_71 rfl ?_
      refine bc_getr dX10_gusts_72 fX10_102 (rfl) rfl ?_
      refine bc_iload dX10_gusts_75 rfl ?_
      refine bc_iload dX10_gusts_77 rfl ?_
      refine bc_if_ne (tgt := 86) dX10_gusts_79 (by decide) (fun h79 => ?_) (fun h79 => ?_)
      · refine bc_lconst (v := 0) dX10_gusts_86 (by decide) ?_
        exact next 0 (by rw [dpN, if_neg (fun e => h79 (by rw [e]; rfl))])
      · refine bc_lconst (v := 1) dX10_gusts_82 (by decide) ?_
        refine bc_goto (tgt := 87) dX10_gusts_83 (by decide) ?_
        exact next 1 (by rw [dpN, if_pos ((bn_eqN (b := 0) (by omega) (by omega)).mp h79)])
  refine bc_aload_n dX10_gusts_0 rfl ?_
  refine bc_iconst (v := 0) dX10_gusts_1 (by decide) ?_
  refine bc_put dX10_gusts_2 fX10_3 ftX10 fpX10_0 rfl rfl (rfl) rfl ?_
  refine bc_aload_n dX10_gusts_5 rfl ?_
  refine bc_iload_n dX10_gusts_6 rfl ?_
  refine bc_iconst (v := 0) dX10_gusts_7 (by decide) ?_
  refine bc_bipush (v := 12) dX10_gusts_8 (by decide) ?_
  refine bc_callS (z := mX10_within) dX10_gusts_10 lX10_384 qX10_within (by rfl) (by rfl) (Nat.le_of_ble_eq_true rfl) (t_within _ _ _) (fun r10 μ10 e10 => ?_)
  obtain ⟨rfl, q10⟩ := e10
  obtain rfl := q10.symm
  refine bc_if_eq (tgt := 50) dX10_gusts_13 (by decide) (fun h13 => absurd h13 (fun e => ite0.mp e (wN (b := 12) hn (by omega)))) (fun h13 => ?_)
  refine bc_iload_n dX10_gusts_16 rfl ?_
  refine bc_iconst (v := 0) dX10_gusts_17 (by decide) ?_
  refine bc_bipush (v := 12) dX10_gusts_18 (by decide) ?_
  refine bc_callS (z := mX10_within) dX10_gusts_20 lX10_384 qX10_within (by rfl) (by rfl) (Nat.le_of_ble_eq_true rfl) (t_within _ _ _) (fun r20 μ20 e20 => ?_)
  obtain ⟨rfl, q20⟩ := e20
  obtain rfl := q20.symm
  refine bc_if_eq (tgt := 50) dX10_gusts_23 (by decide) (fun h23 => absurd h23 (fun e => ite0.mp e (wN (b := 12) hk (by omega)))) (fun h23 => ?_)
  refine bc_iload_n dX10_gusts_26 rfl ?_
  refine bc_iconst (v := 0) dX10_gusts_27 (by decide) ?_
  refine bc_bipush (v := 16) dX10_gusts_28 (by decide) ?_
  refine bc_callS (z := mX10_within) dX10_gusts_30 lX10_384 qX10_within (by rfl) (by rfl) (Nat.le_of_ble_eq_true rfl) (t_within _ _ _) (fun r30 μ30 e30 => ?_)
  obtain ⟨rfl, q30⟩ := e30
  obtain rfl := q30.symm
  refine bc_if_eq (tgt := 50) dX10_gusts_33 (by decide) (fun h33 => absurd h33 (fun e => ite0.mp e (wN (b := 16) hq (by omega)))) (fun h33 => ?_)
  refine bc_iload dX10_gusts_36 rfl ?_
  refine bc_iconst (v := 0) dX10_gusts_38 (by decide) ?_
  refine bc_iconst (v := 1) dX10_gusts_39 (by decide) ?_
  refine bc_callS (z := mX10_within) dX10_gusts_40 lX10_384 qX10_within (by rfl) (by rfl) (Nat.le_of_ble_eq_true rfl) (t_within _ _ _) (fun r40 μ40 e40 => ?_)
  obtain ⟨rfl, q40⟩ := e40
  obtain rfl := q40.symm
  refine bc_if_eq (tgt := 50) dX10_gusts_43 (by decide) (fun h43 => absurd h43 (fun e => ite0.mp e (wN (b := 1) hw (by omega)))) (fun h43 => ?_)
  refine bc_iconst (v := 1) dX10_gusts_46 (by decide) ?_
  refine bc_goto (tgt := 51) dX10_gusts_47 (by decide) ?_
  refine bc_iconst (v := 1) dX10_gusts_51 (by decide) ?_
  refine bc_iconst (v := 1) dX10_gusts_52 (by decide) ?_
  refine bc_callV (z := mX10_may) (ci := 10) dX10_gusts_53 lX10_236 qX10_may (by rfl) (by rfl) (by rfl) (by rfl) (Nat.le_of_ble_eq_true rfl) (t_mayY (k := 1) True trivial _ (by decide) rfl (by decide)) (fun r53 μ53 e53 => ?_)
  obtain ⟨rfl, q53⟩ := e53
  obtain rfl := q53.symm
  refine bc_if_ne (tgt := 61) dX10_gusts_56 (by decide) (fun h56 => ?_) (fun h56 => absurd h56 (by decide))
  refine bc_iconst (v := 0) dX10_gusts_61 (by decide) ?_
  refine bc_istore dX10_gusts_62 (by decide) rfl ?_
  exact init 14 0 _ (by omega) (fun _ _ => rfl) (fun i hi => by omega)
end T67
