/-! BreadCity$Law reads its text -/
section RDL
variable {d : Nat} {μ μ0 : bc_M} {n a k : Nat} {f q : Int32}
def fr19 (μ μ' : bc_M) : Prop := (∀ i, i ≠ 19 → i ≠ 21 → μ' i = μ i) ∧ ∀ j, j ≠ 3 → μ' 19 j = μ 19 j
theorem fr19.refl (μ : bc_M) : fr19 μ μ := ⟨fun _ _ _ => rfl, fun _ _ => rfl⟩
theorem fr19.trans {μ μ' μ'' : bc_M} (h : fr19 μ μ') (h' : fr19 μ' μ'') : fr19 μ μ'' := ⟨fun i a b => (h'.1 i a b).trans (h.1 i a b), fun j b => (h'.2 j b).trans (h.2 j b)⟩
def lR (μ : bc_M) (l : List Nat) : Prop := μ 19 3 = nI l.length ∧ ∀ i x, l[i]? = some x → μ 21 i = nI x
/-- the reader stands at S, the draft holds l -/
def lS (n : Nat) (μ0 : bc_M) (S : TS) (l : List Nat) (ν : bc_M) : Prop := ∃ μ' a' k' f' q', ν = tx μ' a' k' f' q' ∧ fr19 μ0 μ' ∧ tq n S a' f' q' ∧ (∀ p, S = .inr p → lR μ' l)
theorem lR_put {l : List Nat} {x : Nat} (h : lR μ l) : lR (bc_u (bc_u μ 21 l.length (nI x)) 19 3 (nI (l.length + 1))) (l ++ [x]) := by
  refine ⟨?_, ?_⟩
  · rw [bc_u_s]; simp [upd]
  · intro i y hy
    rw [bc_u_i (by decide), bc_u_s]
    by_cases e : i = l.length
    · subst e
      rw [List.getElem?_append_right (Nat.le_refl _)] at hy
      simp at hy
      subst hy
      simp [upd]
    · have hl : i < l.length := by
        have := (List.getElem?_eq_some_iff.mp hy).1
        rw [List.length_append] at this
        simp at this
        omega
      rw [List.getElem?_append_left hl] at hy
      simp only [upd, if_neg e]
      exact h.2 i y hy
theorem fr19_put (h : fr19 μ0 μ) {k : Nat} {v w : Int32} : fr19 μ0 (bc_u (bc_u μ 21 k v) 19 3 w) := by
  refine ⟨fun i a b => ?_, fun j b => ?_⟩
  · rw [bc_u_i a, bc_u_i b]; exact h.1 i a b
  · rw [bc_u_s]; simp only [upd, if_neg b]; rw [bc_u_i (by decide)]; exact h.2 j b
/-- put: v is the sign x where the reader is sound -/
theorem s_lput {S : TS} {l : List Nat} {x : Nat} {v : Int32} (h : lS n μ0 S l μ) (hx : ∀ p, S = .inr p → v = nI x ∧ l.length < 150) : bc_C d LC mX2_put [.ref 19, .int v] μ (fun r ν => r = none ∧ lS n μ0 S (l ++ [x]) ν) := by
  refine bc_C.weaken (s_put LC_w v) (fun r ν hq => ⟨hq.1, ?_⟩)
  obtain ⟨μ', a', k', f', q', rfl, e1, e2, e3⟩ := h
  rcases hq.2 with ⟨h1, rfl⟩ | ⟨h1, rfl⟩
  · refine ⟨μ', a', k', f', q', rfl, e1, e2, fun p hp => ?_⟩
    obtain ⟨h3, h4⟩ := hx p hp
    rw [tx_i _ _ _ _ _ (by decide), (e3 p hp).1] at h1
    exact absurd (vp_in_nI h4 (by omega)) h1
  · rw [tx_i _ _ _ _ _ (by decide)] at h1 ⊢
    refine ⟨bc_u (bc_u μ' 21 (μ' 19 3).toNatClampNeg v) 19 3 (μ' 19 3 + 1), a', k', f', q', ?_, fr19_put e1, e2, fun p hp => ?_⟩
    · rw [tx_u _ _ _ _ _ (by decide), tx_u _ _ _ _ _ (by decide)]
    · obtain ⟨h3, h4⟩ := hx p hp
      rw [(e3 p hp).1, nI_clamp (by omega), bn_add1, h3]
      exact lR_put (e3 p hp)
theorem lS_n {S : TS} {l : List Nat} (h : lS n μ0 S l μ) (h2 : μ0 1 2 = nI n) : ∃ μ' a' k' f' q', μ = tx μ' a' k' f' q' ∧ fr19 μ0 μ' ∧ tq n S a' f' q' ∧ (∀ p, S = .inr p → lR μ' l) ∧ μ' 1 2 = nI n ∧ μ' 2 = μ0 2 := by
  obtain ⟨μ', a', k', f', q', rfl, e1, e2, e3⟩ := h
  exact ⟨μ', a', k', f', q', rfl, e1, e2, e3, by rw [e1.1 1 (by decide) (by decide)]; exact h2, e1.1 2 (by decide) (by decide)⟩
theorem s_lneed {S : TS} {l : List Nat} (hn : n ≤ 600) (h2 : μ0 1 2 = nI n) (h : lS n μ0 S l μ) {c : Int32} (hc : ¬ c = -1) : bc_C (d + 1) LC mX7_need [.ref 1, .int c] μ (fun r ν => r = none ∧ lS n μ0 (sNeed (μ0 2) n c S) l ν) := by
  obtain ⟨μ', a', k', f', q', rfl, e1, e2, e3, e4, e5⟩ := lS_n h h2
  refine bc_C.weaken (s_need hn e4 e2 hc) (fun r ν hq => ⟨hq.1, ?_⟩)
  obtain ⟨-, a2, f2, q2, rfl, t2⟩ := hq
  rw [e5] at t2
  exact ⟨μ', a2, k', f2, q2, rfl, e1, t2, fun p hp => by obtain ⟨p0, hp0, -⟩ := sNeed_ok hp; exact e3 p0 hp0⟩
def sdI : TS → Int32
  | .inl _ => 0
  | .inr _ => 1
theorem s_lsound {S : TS} {l : List Nat} (h : lS n μ0 S l μ) : bc_C d LC mX7_isSound [.ref 1] μ (fun r ν => r = some (.int (sdI S)) ∧ ν = μ) := by
  obtain ⟨μ', a', k', f', q', rfl, e1, e2, e3⟩ := h
  refine bc_C.weaken s_sound (fun r ν hq => ⟨?_, hq.2⟩)
  rw [hq.1]
  cases S with
  | inl x => obtain ⟨x, y⟩ := x; rw [if_neg (tq_f e2)]; rfl
  | inr p => rw [if_pos e2.2.2.1]; rfl
/-- takes, where the reader is sound -/
theorem s_ltakes {p : Nat} {l : List Nat} (hn : n ≤ 600) (h2 : μ0 1 2 = nI n) (h : lS n μ0 (.inr p) l μ) {c : Int32} (hc : ¬ c = -1) : bc_C (d + 1) LC mX7_takes [.ref 1, .int c] μ (fun r ν => if p < n ∧ μ0 2 p = c then r = some (.int 1) ∧ lS n μ0 (.inr (skp (μ0 2) n (p + 1))) l ν else r = some (.int 0) ∧ ν = μ) := by
  obtain ⟨μ', a', k', f', q', rfl, e1, e2, e3, e4, e5⟩ := lS_n h h2
  obtain ⟨rfl, b1, b2, b3⟩ := e2
  refine bc_C.weaken (s_takes hn e4 b1 hc) (fun r ν hq => ?_)
  rw [e5] at hq
  by_cases hl : a' < n ∧ μ0 2 a' = c
  · rw [if_pos ⟨b2, hl⟩] at hq
    rw [if_pos hl]
    exact ⟨hq.1, μ', _, _, _, _, hq.2, e1, ⟨rfl, rn_le (by omega), b2, b3⟩, fun x hx => e3 a' rfl⟩
  · rw [if_neg (fun x => hl x.2)] at hq
    rw [if_neg hl]
    exact hq
theorem s_ltY {p : Nat} {l : List Nat} (hn : n ≤ 600) (h2 : μ0 1 2 = nI n) (h : lS n μ0 (.inr p) l μ) {c : Int32} (hc : ¬ c = -1) (hx : p < n ∧ μ0 2 p = c) : bc_C (d + 1) LC mX7_takes [.ref 1, .int c] μ (fun r ν => r = some (.int 1) ∧ lS n μ0 (.inr (skp (μ0 2) n (p + 1))) l ν) :=
  bc_C.weaken (s_ltakes hn h2 h hc) (fun r ν q => by rw [if_pos hx] at q; exact q)
theorem s_ltN {p : Nat} {l : List Nat} (hn : n ≤ 600) (h2 : μ0 1 2 = nI n) (h : lS n μ0 (.inr p) l μ) {c : Int32} (hc : ¬ c = -1) (hx : ¬ (p < n ∧ μ0 2 p = c)) : bc_C (d + 1) LC mX7_takes [.ref 1, .int c] μ (fun r ν => r = some (.int 0) ∧ ν = μ) :=
  bc_C.weaken (s_ltakes hn h2 h hc) (fun r ν q => by rw [if_neg hx] at q; exact q)
def Lok (n : Nat) (μ0 : bc_M) (D : Nat) (y : bc_Y) (as : List Value) (F : LSt → LSt) : Prop := ∀ (μ : bc_M) (S : TS) (l : List Nat), lS n μ0 S l μ → (∀ p, S = .inr p → l.length ≤ p ∧ p ≤ n) → bc_C D LC y as μ (fun r ν => r = none ∧ lS n μ0 (F (S, l)).1 (F (S, l)).2 ν)
theorem opL3 {t : Nat → Int32} {p : Nat} : opL t n ops3 p = if p < n ∧ t p = 42 then some 1009 else if p < n ∧ t p = 47 then some 1010 else if p < n ∧ t p = 37 then some 1011 else none := by
  unfold opL ops3
  by_cases hp : p < n
  · simp only [if_pos hp, List.find?, hp, true_and]
    by_cases h1 : t p = 42
    · simp [h1]
    · by_cases h2 : t p = 47
      · simp [h2]
      · by_cases h3 : t p = 37
        · simp [h3]
        · have e1 : decide ((42 : Int32) = t p) = false := by simp; exact fun x => h1 x.symm
          have e2 : decide ((47 : Int32) = t p) = false := by simp; exact fun x => h2 x.symm
          have e3 : decide ((37 : Int32) = t p) = false := by simp; exact fun x => h3 x.symm
          simp [e1, e2, e3, h1, h2, h3]
  · simp [hp]
theorem opL2 {t : Nat → Int32} {p : Nat} : opL t n ops2 p = if p < n ∧ t p = 43 then some 1007 else if p < n ∧ t p = 45 then some 1008 else none := by
  unfold opL ops2
  by_cases hp : p < n
  · simp only [if_pos hp, List.find?, hp, true_and]
    by_cases h1 : t p = 43
    · simp [h1]
    · by_cases h2 : t p = 45
      · simp [h2]
      · have e1 : decide ((43 : Int32) = t p) = false := by simp; exact fun x => h1 x.symm
        have e2 : decide ((45 : Int32) = t p) = false := by simp; exact fun x => h2 x.symm
        simp [e1, e2, h1, h2]
  · simp [hp]
theorem s_readProduct {o : Int32} {u : LSt → LSt} (hn : n ≤ 150) (h2 : μ0 1 2 = nI n) (hu : good n u) (hU : Lok n μ0 (d + 6) mX2_readUnit [.ref 19, .ref 1, .int o] u) : Lok n μ0 (d + 7) mX2_readProduct [.ref 19, .ref 1, .int o] (pPr (μ0 2) n u) := by
  intro μ S l h0 hinv
  refine bc_enter (by decide) (Nat.le_of_ble_eq_true rfl) rfl ?_
  have loop : ∀ (m i : Nat) (v : Value) (μ : bc_M) (S : TS) (l : List Nat), i + m = 150 → v.category = 1 → lS n μ0 S l μ → (∀ p, S = .inr p → l.length ≤ p ∧ p ≤ n) → bc_W (d + 7) LC mX2_readProduct 8 [.ref 19, .ref 1, .int o, .int (nI i), v] [] μ (fun r ν => r = none ∧ lS n μ0 (pLp (μ0 2) n ops3 u m (S, l)).1 (pLp (μ0 2) n ops3 u m (S, l)).2 ν) := by
    intro m
    induction m with
    | zero =>
      intro i v μ S l hi hv h hl
      have hi : i = 150 := by omega
      subst hi
      refine bc_iload_n dX2_readProduct_8 rfl ?_
      refine bc_sipush (v := 150) dX2_readProduct_9 (by decide) ?_
      refine bc_icmp_ge (tgt := 95) dX2_readProduct_12 (by decide) (fun h12 => ?_) (fun h12 => absurd h12 (fun x => x (by decide)))
      exact bc_return dX2_readProduct_95 rfl (⟨rfl, h⟩)
    | succ m ih =>
      intro i v μ S l hi hv h hl
      cases S with
      | inl g =>
        refine bc_iload_n dX2_readProduct_8 rfl ?_
        refine bc_sipush (v := 150) dX2_readProduct_9 (by decide) ?_
        refine bc_icmp_ge (tgt := 95) dX2_readProduct_12 (by decide) (fun h12 => absurd h12 (by rw [show (150 : Int32) = nI 150 from rfl, bn_leN (by omega) (by omega)]; omega)) (fun h12 => ?_)
        refine bc_aload_n dX2_readProduct_15 rfl ?_
        refine bc_callV (z := mX7_isSound) (ci := 7) dX2_readProduct_16 lX2_57 qX7_isSound (by rfl) (by rfl) (by rfl) (by rfl) (Nat.le_of_ble_eq_true rfl) (s_lsound h) (fun r16 μ16 e16 => ?_)
        obtain ⟨rfl, q16⟩ := e16
        obtain rfl := q16.symm
        refine bc_if_eq (tgt := 95) dX2_readProduct_19 (by decide) (fun h19 => ?_) (fun h19 => absurd h19 (fun x => x rfl))
        exact bc_return dX2_readProduct_95 rfl (⟨rfl, h⟩)
      | inr p =>
        have hlp := hl p rfl
        have next : ∀ (c : Nat) (v : Value) (μ : bc_M), 1007 ≤ c → c ≤ 1013 → opL (μ0 2) n ops3 p = some c → lS n μ0 (.inr (skp (μ0 2) n (p + 1))) l μ → v.category = 1 → bc_W (d + 7) LC mX2_readProduct 68 [.ref 19, .ref 1, .int o, .int (nI i), v] [.int (nI c)] μ (fun r ν => r = none ∧ lS n μ0 (pLp (μ0 2) n ops3 u (m + 1) (.inr p, l)).1 (pLp (μ0 2) n ops3 u (m + 1) (.inr p, l)).2 ν) := by
          intro c v μ hc1 hc2 ho h hv
          have hpn : p < n := (opL_ok ho ops3_ok).1
          have hsk : p + 1 ≤ skp (μ0 2) n (p + 1) := rn_ge _ _ _ _
          have hsk2 : skp (μ0 2) n (p + 1) ≤ n := rn_le (by omega)
          have hdef : pLp (μ0 2) n ops3 u (m + 1) (.inr p, l) = pLp (μ0 2) n ops3 u m ((u (.inr (skp (μ0 2) n (p + 1)), l)).1, (u (.inr (skp (μ0 2) n (p + 1)), l)).2 ++ [c]) := by
            simp only [pLp, ho]
          have hg := hu.2 (.inr (skp (μ0 2) n (p + 1))) l
          have hne : ¬ nI c = -1 := by
            intro x
            have := congrArg Int32.toInt x
            rw [bn_ti (by omega)] at this
            have e1 : (-1 : Int32).toInt = -1 := rfl
            omega
          rw [hdef]
          refine bc_istore dX2_readProduct_68 (by decide) rfl ?_
          refine bc_iload dX2_readProduct_70 rfl ?_
          refine bc_iconst (v := (-1)) dX2_readProduct_72 (by decide) ?_
          refine bc_icmp_ne (tgt := 77) dX2_readProduct_73 (by decide) (fun h73 => ?_) (fun h73 => absurd h73 (hne))
          refine bc_aload_n dX2_readProduct_77 rfl ?_
          refine bc_aload_n dX2_readProduct_78 rfl ?_
          refine bc_iload_n dX2_readProduct_79 rfl ?_
          refine bc_callV (z := mX2_readUnit) (ci := 2) dX2_readProduct_80 lX2_65 qX2_readUnit (by rfl) (by rfl) (by rfl) (by rfl) (Nat.le_of_ble_eq_true rfl) (hU _ _ _ h (fun x hx => by have hx := Sum.inr.inj hx; omega)) (fun r80 μ80 e80 => ?_)
          obtain ⟨rfl, h80⟩ := e80
          refine bc_aload_n dX2_readProduct_83 rfl ?_
          refine bc_iload dX2_readProduct_84 rfl ?_
          refine bc_callV (z := mX2_put) (ci := 2) dX2_readProduct_86 lX2_31 qX2_put (by rfl) (by rfl) (by rfl) (by rfl) (Nat.le_of_ble_eq_true rfl) (s_lput (x := c) h80 (fun x hx => by obtain ⟨p1, e, b1, b2, b3, b4, b5, b6⟩ := hg x (fun y hy => by have hy := Sum.inr.inj hy; omega) hx; have b1 := Sum.inr.inj b1; refine ⟨rfl, ?_⟩; rw [b2, List.length_append]; omega)) (fun r86 μ86 e86 => ?_)
          obtain ⟨rfl, h86⟩ := e86
          refine bc_iinc1 dX2_readProduct_89 rfl (by decide) rfl ?_
          refine bc_goto (tgt := 8) dX2_readProduct_92 (by decide) ?_
          rw [bn_add1]
          refine ih (i + 1) _ _ _ _ (by omega) rfl h86 (fun x hx => ?_)
          obtain ⟨p1, e, b1, b2, b3, b4, b5, b6⟩ := hg x (fun y hy => by have hy := Sum.inr.inj hy; omega) hx
          have b1 := Sum.inr.inj b1
          rw [b2]
          simp only [List.length_append, List.length_cons, List.length_nil]
          omega
        have hop := opL3 (n := n) (t := μ0 2) (p := p)
        by_cases x1 : p < n ∧ μ0 2 p = 42
        · rw [if_pos x1] at hop
          refine bc_iload_n dX2_readProduct_8 rfl ?_
          refine bc_sipush (v := 150) dX2_readProduct_9 (by decide) ?_
          refine bc_icmp_ge (tgt := 95) dX2_readProduct_12 (by decide) (fun h12 => absurd h12 (by rw [show (150 : Int32) = nI 150 from rfl, bn_leN (by omega) (by omega)]; omega)) (fun h12 => ?_)
          refine bc_aload_n dX2_readProduct_15 rfl ?_
          refine bc_callV (z := mX7_isSound) (ci := 7) dX2_readProduct_16 lX2_57 qX7_isSound (by rfl) (by rfl) (by rfl) (by rfl) (Nat.le_of_ble_eq_true rfl) (s_lsound h) (fun r16 μ16 e16 => ?_)
          obtain ⟨rfl, q16⟩ := e16
          obtain rfl := q16.symm
          refine bc_if_eq (tgt := 95) dX2_readProduct_19 (by decide) (fun h19 => absurd h19 (fun x => absurd (show (1 : Int32) = 0 from x) (by decide))) (fun h19 => ?_)
          refine bc_aload_n dX2_readProduct_22 rfl ?_
          refine bc_bipush (v := 42) dX2_readProduct_23 (by decide) ?_
          refine bc_callV (z := mX7_takes) (ci := 7) dX2_readProduct_25 lX2_61 qX7_takes (by rfl) (by rfl) (by rfl) (by rfl) (Nat.le_of_ble_eq_true rfl) (s_ltY (by omega) h2 h (by decide) x1) (fun r25 μ25 e25 => ?_)
          obtain ⟨rfl, h25⟩ := e25
          refine bc_if_eq (tgt := 37) dX2_readProduct_28 (by decide) (fun h28 => absurd h28 (by decide)) (fun h28 => ?_)
          refine bc_sipush (v := 1009) dX2_readProduct_31 (by decide) ?_
          refine bc_goto (tgt := 68) dX2_readProduct_34 (by decide) ?_
          exact next 1009 _ _ (by decide) (by decide) hop h25 hv
        rw [if_neg x1] at hop
        by_cases x2 : p < n ∧ μ0 2 p = 47
        · rw [if_pos x2] at hop
          refine bc_iload_n dX2_readProduct_8 rfl ?_
          refine bc_sipush (v := 150) dX2_readProduct_9 (by decide) ?_
          refine bc_icmp_ge (tgt := 95) dX2_readProduct_12 (by decide) (fun h12 => absurd h12 (by rw [show (150 : Int32) = nI 150 from rfl, bn_leN (by omega) (by omega)]; omega)) (fun h12 => ?_)
          refine bc_aload_n dX2_readProduct_15 rfl ?_
          refine bc_callV (z := mX7_isSound) (ci := 7) dX2_readProduct_16 lX2_57 qX7_isSound (by rfl) (by rfl) (by rfl) (by rfl) (Nat.le_of_ble_eq_true rfl) (s_lsound h) (fun r16 μ16 e16 => ?_)
          obtain ⟨rfl, q16⟩ := e16
          obtain rfl := q16.symm
          refine bc_if_eq (tgt := 95) dX2_readProduct_19 (by decide) (fun h19 => absurd h19 (fun x => absurd (show (1 : Int32) = 0 from x) (by decide))) (fun h19 => ?_)
          refine bc_aload_n dX2_readProduct_22 rfl ?_
          refine bc_bipush (v := 42) dX2_readProduct_23 (by decide) ?_
          refine bc_callV (z := mX7_takes) (ci := 7) dX2_readProduct_25 lX2_61 qX7_takes (by rfl) (by rfl) (by rfl) (by rfl) (Nat.le_of_ble_eq_true rfl) (s_ltN (by omega) h2 h (by decide) x1) (fun r25 μ25 e25 => ?_)
          obtain ⟨rfl, q25⟩ := e25
          obtain rfl := q25.symm
          refine bc_if_eq (tgt := 37) dX2_readProduct_28 (by decide) (fun h28 => ?_) (fun h28 => absurd h28 (fun x => x rfl))
          refine bc_aload_n dX2_readProduct_37 rfl ?_
          refine bc_bipush (v := 47) dX2_readProduct_38 (by decide) ?_
          refine bc_callV (z := mX7_takes) (ci := 7) dX2_readProduct_40 lX2_61 qX7_takes (by rfl) (by rfl) (by rfl) (by rfl) (Nat.le_of_ble_eq_true rfl) (s_ltY (by omega) h2 h (by decide) x2) (fun r40 μ40 e40 => ?_)
          obtain ⟨rfl, h40⟩ := e40
          refine bc_if_eq (tgt := 52) dX2_readProduct_43 (by decide) (fun h43 => absurd h43 (by decide)) (fun h43 => ?_)
          refine bc_sipush (v := 1010) dX2_readProduct_46 (by decide) ?_
          refine bc_goto (tgt := 68) dX2_readProduct_49 (by decide) ?_
          exact next 1010 _ _ (by decide) (by decide) hop h40 hv
        rw [if_neg x2] at hop
        by_cases x3 : p < n ∧ μ0 2 p = 37
        · rw [if_pos x3] at hop
          refine bc_iload_n dX2_readProduct_8 rfl ?_
          refine bc_sipush (v := 150) dX2_readProduct_9 (by decide) ?_
          refine bc_icmp_ge (tgt := 95) dX2_readProduct_12 (by decide) (fun h12 => absurd h12 (by rw [show (150 : Int32) = nI 150 from rfl, bn_leN (by omega) (by omega)]; omega)) (fun h12 => ?_)
          refine bc_aload_n dX2_readProduct_15 rfl ?_
          refine bc_callV (z := mX7_isSound) (ci := 7) dX2_readProduct_16 lX2_57 qX7_isSound (by rfl) (by rfl) (by rfl) (by rfl) (Nat.le_of_ble_eq_true rfl) (s_lsound h) (fun r16 μ16 e16 => ?_)
          obtain ⟨rfl, q16⟩ := e16
          obtain rfl := q16.symm
          refine bc_if_eq (tgt := 95) dX2_readProduct_19 (by decide) (fun h19 => absurd h19 (fun x => absurd (show (1 : Int32) = 0 from x) (by decide))) (fun h19 => ?_)
          refine bc_aload_n dX2_readProduct_22 rfl ?_
          refine bc_bipush (v := 42) dX2_readProduct_23 (by decide) ?_
          refine bc_callV (z := mX7_takes) (ci := 7) dX2_readProduct_25 lX2_61 qX7_takes (by rfl) (by rfl) (by rfl) (by rfl) (Nat.le_of_ble_eq_true rfl) (s_ltN (by omega) h2 h (by decide) x1) (fun r25 μ25 e25 => ?_)
          obtain ⟨rfl, q25⟩ := e25
          obtain rfl := q25.symm
          refine bc_if_eq (tgt := 37) dX2_readProduct_28 (by decide) (fun h28 => ?_) (fun h28 => absurd h28 (fun x => x rfl))
          refine bc_aload_n dX2_readProduct_37 rfl ?_
          refine bc_bipush (v := 47) dX2_readProduct_38 (by decide) ?_
          refine bc_callV (z := mX7_takes) (ci := 7) dX2_readProduct_40 lX2_61 qX7_takes (by rfl) (by rfl) (by rfl) (by rfl) (Nat.le_of_ble_eq_true rfl) (s_ltN (by omega) h2 h (by decide) x2) (fun r40 μ40 e40 => ?_)
          obtain ⟨rfl, q40⟩ := e40
          obtain rfl := q40.symm
          refine bc_if_eq (tgt := 52) dX2_readProduct_43 (by decide) (fun h43 => ?_) (fun h43 => absurd h43 (fun x => x rfl))
          refine bc_aload_n dX2_readProduct_52 rfl ?_
          refine bc_bipush (v := 37) dX2_readProduct_53 (by decide) ?_
          refine bc_callV (z := mX7_takes) (ci := 7) dX2_readProduct_55 lX2_61 qX7_takes (by rfl) (by rfl) (by rfl) (by rfl) (Nat.le_of_ble_eq_true rfl) (s_ltY (by omega) h2 h (by decide) x3) (fun r55 μ55 e55 => ?_)
          obtain ⟨rfl, h55⟩ := e55
          refine bc_if_eq (tgt := 67) dX2_readProduct_58 (by decide) (fun h58 => absurd h58 (by decide)) (fun h58 => ?_)
          refine bc_sipush (v := 1011) dX2_readProduct_61 (by decide) ?_
          refine bc_goto (tgt := 68) dX2_readProduct_64 (by decide) ?_
          exact next 1011 _ _ (by decide) (by decide) hop h55 hv
        · rw [if_neg x3] at hop
          have hdef : pLp (μ0 2) n ops3 u (m + 1) (.inr p, l) = (.inr p, l) := by simp only [pLp, hop]
          rw [hdef]
          refine bc_iload_n dX2_readProduct_8 rfl ?_
          refine bc_sipush (v := 150) dX2_readProduct_9 (by decide) ?_
          refine bc_icmp_ge (tgt := 95) dX2_readProduct_12 (by decide) (fun h12 => absurd h12 (by rw [show (150 : Int32) = nI 150 from rfl, bn_leN (by omega) (by omega)]; omega)) (fun h12 => ?_)
          refine bc_aload_n dX2_readProduct_15 rfl ?_
          refine bc_callV (z := mX7_isSound) (ci := 7) dX2_readProduct_16 lX2_57 qX7_isSound (by rfl) (by rfl) (by rfl) (by rfl) (Nat.le_of_ble_eq_true rfl) (s_lsound h) (fun r16 μ16 e16 => ?_)
          obtain ⟨rfl, q16⟩ := e16
          obtain rfl := q16.symm
          refine bc_if_eq (tgt := 95) dX2_readProduct_19 (by decide) (fun h19 => absurd h19 (fun x => absurd (show (1 : Int32) = 0 from x) (by decide))) (fun h19 => ?_)
          refine bc_aload_n dX2_readProduct_22 rfl ?_
          refine bc_bipush (v := 42) dX2_readProduct_23 (by decide) ?_
          refine bc_callV (z := mX7_takes) (ci := 7) dX2_readProduct_25 lX2_61 qX7_takes (by rfl) (by rfl) (by rfl) (by rfl) (Nat.le_of_ble_eq_true rfl) (s_ltN (by omega) h2 h (by decide) x1) (fun r25 μ25 e25 => ?_)
          obtain ⟨rfl, q25⟩ := e25
          obtain rfl := q25.symm
          refine bc_if_eq (tgt := 37) dX2_readProduct_28 (by decide) (fun h28 => ?_) (fun h28 => absurd h28 (fun x => x rfl))
          refine bc_aload_n dX2_readProduct_37 rfl ?_
          refine bc_bipush (v := 47) dX2_readProduct_38 (by decide) ?_
          refine bc_callV (z := mX7_takes) (ci := 7) dX2_readProduct_40 lX2_61 qX7_takes (by rfl) (by rfl) (by rfl) (by rfl) (Nat.le_of_ble_eq_true rfl) (s_ltN (by omega) h2 h (by decide) x2) (fun r40 μ40 e40 => ?_)
          obtain ⟨rfl, q40⟩ := e40
          obtain rfl := q40.symm
          refine bc_if_eq (tgt := 52) dX2_readProduct_43 (by decide) (fun h43 => ?_) (fun h43 => absurd h43 (fun x => x rfl))
          refine bc_aload_n dX2_readProduct_52 rfl ?_
          refine bc_bipush (v := 37) dX2_readProduct_53 (by decide) ?_
          refine bc_callV (z := mX7_takes) (ci := 7) dX2_readProduct_55 lX2_61 qX7_takes (by rfl) (by rfl) (by rfl) (by rfl) (Nat.le_of_ble_eq_true rfl) (s_ltN (by omega) h2 h (by decide) x3) (fun r55 μ55 e55 => ?_)
          obtain ⟨rfl, q55⟩ := e55
          obtain rfl := q55.symm
          refine bc_if_eq (tgt := 67) dX2_readProduct_58 (by decide) (fun h58 => ?_) (fun h58 => absurd h58 (fun x => x rfl))
          refine bc_iconst (v := (-1)) dX2_readProduct_67 (by decide) ?_
          refine bc_istore dX2_readProduct_68 (by decide) rfl ?_
          refine bc_iload dX2_readProduct_70 rfl ?_
          refine bc_iconst (v := (-1)) dX2_readProduct_72 (by decide) ?_
          refine bc_icmp_ne (tgt := 77) dX2_readProduct_73 (by decide) (fun h73 => absurd h73 (fun x => x rfl)) (fun h73 => ?_)
          exact bc_return dX2_readProduct_76 rfl (⟨rfl, h⟩)
  refine bc_aload_n dX2_readProduct_0 rfl ?_
  refine bc_aload_n dX2_readProduct_1 rfl ?_
  refine bc_iload_n dX2_readProduct_2 rfl ?_
  refine bc_callV (z := mX2_readUnit) (ci := 2) dX2_readProduct_3 lX2_65 qX2_readUnit (by rfl) (by rfl) (by rfl) (by rfl) (Nat.le_of_ble_eq_true rfl) (hU _ _ _ h0 hinv) (fun r3 μ3 e3 => ?_)
  obtain ⟨rfl, h3⟩ := e3
  refine bc_iconst (v := 0) dX2_readProduct_6 (by decide) ?_
  refine bc_istore_n dX2_readProduct_7 (by decide) rfl ?_
  refine loop 150 0 _ _ _ _ rfl rfl h3 (fun x hx => ?_)
  obtain ⟨p1, e, b1, b2, b3, b4, b5, b6⟩ := hu.2 S l x (fun y hy => (hinv y hy).2) hx
  have := hinv p1 b1
  rw [show (u (S, l)).2 = l ++ e from b2, List.length_append]
  omega
theorem s_readSum {o : Int32} {u : LSt → LSt} (hn : n ≤ 150) (h2 : μ0 1 2 = nI n) (hu : good n u) (hU : Lok n μ0 (d + 7) mX2_readProduct [.ref 19, .ref 1, .int o] u) : Lok n μ0 (d + 8) mX2_readSum [.ref 19, .ref 1, .int o] (fun s => pLp (μ0 2) n ops2 u 150 (u s)) := by
  intro μ S l h0 hinv
  refine bc_enter (by decide) (Nat.le_of_ble_eq_true rfl) rfl ?_
  have loop : ∀ (m i : Nat) (v : Value) (μ : bc_M) (S : TS) (l : List Nat), i + m = 150 → v.category = 1 → lS n μ0 S l μ → (∀ p, S = .inr p → l.length ≤ p ∧ p ≤ n) → bc_W (d + 8) LC mX2_readSum 8 [.ref 19, .ref 1, .int o, .int (nI i), v] [] μ (fun r ν => r = none ∧ lS n μ0 (pLp (μ0 2) n ops2 u m (S, l)).1 (pLp (μ0 2) n ops2 u m (S, l)).2 ν) := by
    intro m
    induction m with
    | zero =>
      intro i v μ S l hi hv h hl
      have hi : i = 150 := by omega
      subst hi
      refine bc_iload_n dX2_readSum_8 rfl ?_
      refine bc_sipush (v := 150) dX2_readSum_9 (by decide) ?_
      refine bc_icmp_ge (tgt := 80) dX2_readSum_12 (by decide) (fun h12 => ?_) (fun h12 => absurd h12 (fun x => x (by decide)))
      exact bc_return dX2_readSum_80 rfl (⟨rfl, h⟩)
    | succ m ih =>
      intro i v μ S l hi hv h hl
      cases S with
      | inl g =>
        refine bc_iload_n dX2_readSum_8 rfl ?_
        refine bc_sipush (v := 150) dX2_readSum_9 (by decide) ?_
        refine bc_icmp_ge (tgt := 80) dX2_readSum_12 (by decide) (fun h12 => absurd h12 (by rw [show (150 : Int32) = nI 150 from rfl, bn_leN (by omega) (by omega)]; omega)) (fun h12 => ?_)
        refine bc_aload_n dX2_readSum_15 rfl ?_
        refine bc_callV (z := mX7_isSound) (ci := 7) dX2_readSum_16 lX2_57 qX7_isSound (by rfl) (by rfl) (by rfl) (by rfl) (Nat.le_of_ble_eq_true rfl) (s_lsound h) (fun r16 μ16 e16 => ?_)
        obtain ⟨rfl, q16⟩ := e16
        obtain rfl := q16.symm
        refine bc_if_eq (tgt := 80) dX2_readSum_19 (by decide) (fun h19 => ?_) (fun h19 => absurd h19 (fun x => x rfl))
        exact bc_return dX2_readSum_80 rfl (⟨rfl, h⟩)
      | inr p =>
        have hlp := hl p rfl
        have next : ∀ (c : Nat) (v : Value) (μ : bc_M), 1007 ≤ c → c ≤ 1013 → opL (μ0 2) n ops2 p = some c → lS n μ0 (.inr (skp (μ0 2) n (p + 1))) l μ → v.category = 1 → bc_W (d + 8) LC mX2_readSum  53 [.ref 19, .ref 1, .int o, .int (nI i), v] [.int (nI c)] μ (fun r ν => r = none ∧ lS n μ0 (pLp (μ0 2) n ops2 u (m + 1) (.inr p, l)).1 (pLp (μ0 2) n ops2 u (m + 1) (.inr p, l)).2 ν) := by
          intro c v μ hc1 hc2 ho h hv
          have hpn : p < n := (opL_ok ho ops2_ok).1
          have hsk : p + 1 ≤ skp (μ0 2) n (p + 1) := rn_ge _ _ _ _
          have hsk2 : skp (μ0 2) n (p + 1) ≤ n := rn_le (by omega)
          have hdef : pLp (μ0 2) n ops2 u (m + 1) (.inr p, l) = pLp (μ0 2) n ops2 u m ((u (.inr (skp (μ0 2) n (p + 1)), l)).1, (u (.inr (skp (μ0 2) n (p + 1)), l)).2 ++ [c]) := by
            simp only [pLp, ho]
          have hg := hu.2 (.inr (skp (μ0 2) n (p + 1))) l
          have hne : ¬ nI c = -1 := by
            intro x
            have := congrArg Int32.toInt x
            rw [bn_ti (by omega)] at this
            have e1 : (-1 : Int32).toInt = -1 := rfl
            omega
          rw [hdef]
          refine bc_istore dX2_readSum_53 (by decide) rfl ?_
          refine bc_iload dX2_readSum_55 rfl ?_
          refine bc_iconst (v := (-1)) dX2_readSum_57 (by decide) ?_
          refine bc_icmp_ne (tgt := 62) dX2_readSum_58 (by decide) (fun h58 => ?_) (fun h58 => absurd h58 (hne))
          refine bc_aload_n dX2_readSum_62 rfl ?_
          refine bc_aload_n dX2_readSum_63 rfl ?_
          refine bc_iload_n dX2_readSum_64 rfl ?_
          refine bc_callV (z := mX2_readProduct) (ci := 2) dX2_readSum_65 lX2_54 qX2_readProduct (by rfl) (by rfl) (by rfl) (by rfl) (Nat.le_of_ble_eq_true rfl) (hU _ _ _ h (fun x hx => by have hx := Sum.inr.inj hx; omega)) (fun r65 μ65 e65 => ?_)
          obtain ⟨rfl, h65⟩ := e65
          refine bc_aload_n dX2_readSum_68 rfl ?_
          refine bc_iload dX2_readSum_69 rfl ?_
          refine bc_callV (z := mX2_put) (ci := 2) dX2_readSum_71 lX2_31 qX2_put (by rfl) (by rfl) (by rfl) (by rfl) (Nat.le_of_ble_eq_true rfl) (s_lput (x := c) h65 (fun x hx => by obtain ⟨p1, e, b1, b2, b3, b4, b5, b6⟩ := hg x (fun y hy => by have hy := Sum.inr.inj hy; omega) hx; have b1 := Sum.inr.inj b1; refine ⟨rfl, ?_⟩; rw [b2, List.length_append]; omega)) (fun r71 μ71 e71 => ?_)
          obtain ⟨rfl, h71⟩ := e71
          refine bc_iinc1 dX2_readSum_74 rfl (by decide) rfl ?_
          refine bc_goto (tgt := 8) dX2_readSum_77 (by decide) ?_
          rw [bn_add1]
          refine ih (i + 1) _ _ _ _ (by omega) rfl h71 (fun x hx => ?_)
          obtain ⟨p1, e, b1, b2, b3, b4, b5, b6⟩ := hg x (fun y hy => by have hy := Sum.inr.inj hy; omega) hx
          have b1 := Sum.inr.inj b1
          rw [b2]
          simp only [List.length_append, List.length_cons, List.length_nil]
          omega
        have hop := opL2 (n := n) (t := μ0 2) (p := p)
        by_cases x1 : p < n ∧ μ0 2 p = 43
        · rw [if_pos x1] at hop
          refine bc_iload_n dX2_readSum_8 rfl ?_
          refine bc_sipush (v := 150) dX2_readSum_9 (by decide) ?_
          refine bc_icmp_ge (tgt := 80) dX2_readSum_12 (by decide) (fun h12 => absurd h12 (by rw [show (150 : Int32) = nI 150 from rfl, bn_leN (by omega) (by omega)]; omega)) (fun h12 => ?_)
          refine bc_aload_n dX2_readSum_15 rfl ?_
          refine bc_callV (z := mX7_isSound) (ci := 7) dX2_readSum_16 lX2_57 qX7_isSound (by rfl) (by rfl) (by rfl) (by rfl) (Nat.le_of_ble_eq_true rfl) (s_lsound h) (fun r16 μ16 e16 => ?_)
          obtain ⟨rfl, q16⟩ := e16
          obtain rfl := q16.symm
          refine bc_if_eq (tgt := 80) dX2_readSum_19 (by decide) (fun h19 => absurd h19 (fun x => absurd (show (1 : Int32) = 0 from x) (by decide))) (fun h19 => ?_)
          refine bc_aload_n dX2_readSum_22 rfl ?_
          refine bc_bipush (v := 43) dX2_readSum_23 (by decide) ?_
          refine bc_callV (z := mX7_takes) (ci := 7) dX2_readSum_25 lX2_61 qX7_takes (by rfl) (by rfl) (by rfl) (by rfl) (Nat.le_of_ble_eq_true rfl) (s_ltY (by omega) h2 h (by decide) x1) (fun r25 μ25 e25 => ?_)
          obtain ⟨rfl, h25⟩ := e25
          refine bc_if_eq (tgt := 37) dX2_readSum_28 (by decide) (fun h28 => absurd h28 (by decide)) (fun h28 => ?_)
          refine bc_sipush (v := 1007) dX2_readSum_31 (by decide) ?_
          refine bc_goto (tgt := 53) dX2_readSum_34 (by decide) ?_
          exact next 1007 _ _ (by decide) (by decide) hop h25 hv
        rw [if_neg x1] at hop
        by_cases x2 : p < n ∧ μ0 2 p = 45
        · rw [if_pos x2] at hop
          refine bc_iload_n dX2_readSum_8 rfl ?_
          refine bc_sipush (v := 150) dX2_readSum_9 (by decide) ?_
          refine bc_icmp_ge (tgt := 80) dX2_readSum_12 (by decide) (fun h12 => absurd h12 (by rw [show (150 : Int32) = nI 150 from rfl, bn_leN (by omega) (by omega)]; omega)) (fun h12 => ?_)
          refine bc_aload_n dX2_readSum_15 rfl ?_
          refine bc_callV (z := mX7_isSound) (ci := 7) dX2_readSum_16 lX2_57 qX7_isSound (by rfl) (by rfl) (by rfl) (by rfl) (Nat.le_of_ble_eq_true rfl) (s_lsound h) (fun r16 μ16 e16 => ?_)
          obtain ⟨rfl, q16⟩ := e16
          obtain rfl := q16.symm
          refine bc_if_eq (tgt := 80) dX2_readSum_19 (by decide) (fun h19 => absurd h19 (fun x => absurd (show (1 : Int32) = 0 from x) (by decide))) (fun h19 => ?_)
          refine bc_aload_n dX2_readSum_22 rfl ?_
          refine bc_bipush (v := 43) dX2_readSum_23 (by decide) ?_
          refine bc_callV (z := mX7_takes) (ci := 7) dX2_readSum_25 lX2_61 qX7_takes (by rfl) (by rfl) (by rfl) (by rfl) (Nat.le_of_ble_eq_true rfl) (s_ltN (by omega) h2 h (by decide) x1) (fun r25 μ25 e25 => ?_)
          obtain ⟨rfl, q25⟩ := e25
          obtain rfl := q25.symm
          refine bc_if_eq (tgt := 37) dX2_readSum_28 (by decide) (fun h28 => ?_) (fun h28 => absurd h28 (fun x => x rfl))
          refine bc_aload_n dX2_readSum_37 rfl ?_
          refine bc_bipush (v := 45) dX2_readSum_38 (by decide) ?_
          refine bc_callV (z := mX7_takes) (ci := 7) dX2_readSum_40 lX2_61 qX7_takes (by rfl) (by rfl) (by rfl) (by rfl) (Nat.le_of_ble_eq_true rfl) (s_ltY (by omega) h2 h (by decide) x2) (fun r40 μ40 e40 => ?_)
          obtain ⟨rfl, h40⟩ := e40
          refine bc_if_eq (tgt := 52) dX2_readSum_43 (by decide) (fun h43 => absurd h43 (by decide)) (fun h43 => ?_)
          refine bc_sipush (v := 1008) dX2_readSum_46 (by decide) ?_
          refine bc_goto (tgt := 53) dX2_readSum_49 (by decide) ?_
          exact next 1008 _ _ (by decide) (by decide) hop h40 hv
        · rw [if_neg x2] at hop
          have hdef : pLp (μ0 2) n ops2 u (m + 1) (.inr p, l) = (.inr p, l) := by simp only [pLp, hop]
          rw [hdef]
          refine bc_iload_n dX2_readSum_8 rfl ?_
          refine bc_sipush (v := 150) dX2_readSum_9 (by decide) ?_
          refine bc_icmp_ge (tgt := 80) dX2_readSum_12 (by decide) (fun h12 => absurd h12 (by rw [show (150 : Int32) = nI 150 from rfl, bn_leN (by omega) (by omega)]; omega)) (fun h12 => ?_)
          refine bc_aload_n dX2_readSum_15 rfl ?_
          refine bc_callV (z := mX7_isSound) (ci := 7) dX2_readSum_16 lX2_57 qX7_isSound (by rfl) (by rfl) (by rfl) (by rfl) (Nat.le_of_ble_eq_true rfl) (s_lsound h) (fun r16 μ16 e16 => ?_)
          obtain ⟨rfl, q16⟩ := e16
          obtain rfl := q16.symm
          refine bc_if_eq (tgt := 80) dX2_readSum_19 (by decide) (fun h19 => absurd h19 (fun x => absurd (show (1 : Int32) = 0 from x) (by decide))) (fun h19 => ?_)
          refine bc_aload_n dX2_readSum_22 rfl ?_
          refine bc_bipush (v := 43) dX2_readSum_23 (by decide) ?_
          refine bc_callV (z := mX7_takes) (ci := 7) dX2_readSum_25 lX2_61 qX7_takes (by rfl) (by rfl) (by rfl) (by rfl) (Nat.le_of_ble_eq_true rfl) (s_ltN (by omega) h2 h (by decide) x1) (fun r25 μ25 e25 => ?_)
          obtain ⟨rfl, q25⟩ := e25
          obtain rfl := q25.symm
          refine bc_if_eq (tgt := 37) dX2_readSum_28 (by decide) (fun h28 => ?_) (fun h28 => absurd h28 (fun x => x rfl))
          refine bc_aload_n dX2_readSum_37 rfl ?_
          refine bc_bipush (v := 45) dX2_readSum_38 (by decide) ?_
          refine bc_callV (z := mX7_takes) (ci := 7) dX2_readSum_40 lX2_61 qX7_takes (by rfl) (by rfl) (by rfl) (by rfl) (Nat.le_of_ble_eq_true rfl) (s_ltN (by omega) h2 h (by decide) x2) (fun r40 μ40 e40 => ?_)
          obtain ⟨rfl, q40⟩ := e40
          obtain rfl := q40.symm
          refine bc_if_eq (tgt := 52) dX2_readSum_43 (by decide) (fun h43 => ?_) (fun h43 => absurd h43 (fun x => x rfl))
          refine bc_iconst (v := (-1)) dX2_readSum_52 (by decide) ?_
          refine bc_istore dX2_readSum_53 (by decide) rfl ?_
          refine bc_iload dX2_readSum_55 rfl ?_
          refine bc_iconst (v := (-1)) dX2_readSum_57 (by decide) ?_
          refine bc_icmp_ne (tgt := 62) dX2_readSum_58 (by decide) (fun h58 => absurd h58 (fun x => x rfl)) (fun h58 => ?_)
          exact bc_return dX2_readSum_61 rfl (⟨rfl, h⟩)
  refine bc_aload_n dX2_readSum_0 rfl ?_
  refine bc_aload_n dX2_readSum_1 rfl ?_
  refine bc_iload_n dX2_readSum_2 rfl ?_
  refine bc_callV (z := mX2_readProduct) (ci := 2) dX2_readSum_3 lX2_54 qX2_readProduct (by rfl) (by rfl) (by rfl) (by rfl) (Nat.le_of_ble_eq_true rfl) (hU _ _ _ h0 hinv) (fun r3 μ3 e3 => ?_)
  obtain ⟨rfl, h3⟩ := e3
  refine bc_iconst (v := 0) dX2_readSum_6 (by decide) ?_
  refine bc_istore_n dX2_readSum_7 (by decide) rfl ?_
  refine loop 150 0 _ _ _ _ rfl rfl h3 (fun x hx => ?_)
  obtain ⟨p1, e, b1, b2, b3, b4, b5, b6⟩ := hu.2 S l x (fun y hy => (hinv y hy).2) hx
  have := hinv p1 b1
  rw [show (u (S, l)).2 = l ++ e from b2, List.length_append]
  omega
theorem s_readPair {o : Int32} {g : LSt → LSt} {c : Nat} (hn : n ≤ 150) (h2 : μ0 1 2 = nI n) (hg : good n g) (hG : Lok n μ0 (d + 8) mX2_readSum [.ref 19, .ref 1, .int o] g) (hc : c ≤ 2000) : ∀ (μ : bc_M) (S : TS) (l : List Nat), lS n μ0 S l μ → (∀ p, S = .inr p → l.length ≤ p ∧ p ≤ n) → bc_C (d + 9) LC mX2_readPair [.ref 19, .ref 1, .int o, .int (nI c)] μ (fun r ν => r = none ∧ lS n μ0 (pTwo (μ0 2) n g c (S, l)).1 (pTwo (μ0 2) n g c (S, l)).2 ν) := by
  intro μ S l h0 hinv
  have i1 : ∀ p, sNeed (μ0 2) n 91 S = .inr p → l.length ≤ p ∧ p ≤ n := by
    intro p hp
    obtain ⟨p0, e0, l0, m0⟩ := sNeed_ok hp
    have := hinv p0 e0
    omega
  have i2 : ∀ p, sNeed (μ0 2) n 44 (g (sNeed (μ0 2) n 91 S, l)).1 = .inr p → (g (sNeed (μ0 2) n 91 S, l)).2.length ≤ p ∧ p ≤ n := by
    intro p hp
    obtain ⟨p0, e0, l0, m0⟩ := sNeed_ok hp
    obtain ⟨p1, e, b1, b2, b3, b4, b5, b6⟩ := hg.2 _ _ _ (fun x hx => (i1 x hx).2) e0
    have := i1 p1 b1
    rw [b2, List.length_append]
    omega
  have i3 : ∀ p, sNeed (μ0 2) n 93 (g (sNeed (μ0 2) n 44 (g (sNeed (μ0 2) n 91 S, l)).1, (g (sNeed (μ0 2) n 91 S, l)).2)).1 = .inr p → (g (sNeed (μ0 2) n 44 (g (sNeed (μ0 2) n 91 S, l)).1, (g (sNeed (μ0 2) n 91 S, l)).2)).2.length < 150 := by
    intro p hp
    obtain ⟨p0, e0, l0, m0⟩ := sNeed_ok hp
    obtain ⟨p1, e, b1, b2, b3, b4, b5, b6⟩ := hg.2 _ _ _ (fun x hx => (i2 x hx).2) e0
    have := i2 p1 b1
    rw [b2, List.length_append]
    omega
  refine bc_enter (by decide) (Nat.le_of_ble_eq_true rfl) rfl ?_
  refine bc_aload_n dX2_readPair_0 rfl ?_
  refine bc_bipush (v := 91) dX2_readPair_1 (by decide) ?_
  refine bc_callV (z := mX7_need) (ci := 7) dX2_readPair_3 lX2_88 qX7_need (by rfl) (by rfl) (by rfl) (by rfl) (Nat.le_of_ble_eq_true rfl) (s_lneed (by omega) h2 h0 (by decide)) (fun r3 μ3 e3 => ?_)
  obtain ⟨rfl, h3⟩ := e3
  refine bc_aload_n dX2_readPair_6 rfl ?_
  refine bc_aload_n dX2_readPair_7 rfl ?_
  refine bc_iload_n dX2_readPair_8 rfl ?_
  refine bc_callV (z := mX2_readSum) (ci := 2) dX2_readPair_9 lX2_45 qX2_readSum (by rfl) (by rfl) (by rfl) (by rfl) (Nat.le_of_ble_eq_true rfl) (hG _ _ _ h3 i1) (fun r9 μ9 e9 => ?_)
  obtain ⟨rfl, h9⟩ := e9
  refine bc_aload_n dX2_readPair_12 rfl ?_
  refine bc_bipush (v := 44) dX2_readPair_13 (by decide) ?_
  refine bc_callV (z := mX7_need) (ci := 7) dX2_readPair_15 lX2_88 qX7_need (by rfl) (by rfl) (by rfl) (by rfl) (Nat.le_of_ble_eq_true rfl) (s_lneed (by omega) h2 h9 (by decide)) (fun r15 μ15 e15 => ?_)
  obtain ⟨rfl, h15⟩ := e15
  refine bc_aload_n dX2_readPair_18 rfl ?_
  refine bc_aload_n dX2_readPair_19 rfl ?_
  refine bc_iload_n dX2_readPair_20 rfl ?_
  refine bc_callV (z := mX2_readSum) (ci := 2) dX2_readPair_21 lX2_45 qX2_readSum (by rfl) (by rfl) (by rfl) (by rfl) (Nat.le_of_ble_eq_true rfl) (hG _ _ _ h15 i2) (fun r21 μ21 e21 => ?_)
  obtain ⟨rfl, h21⟩ := e21
  refine bc_aload_n dX2_readPair_24 rfl ?_
  refine bc_bipush (v := 93) dX2_readPair_25 (by decide) ?_
  refine bc_callV (z := mX7_need) (ci := 7) dX2_readPair_27 lX2_88 qX7_need (by rfl) (by rfl) (by rfl) (by rfl) (Nat.le_of_ble_eq_true rfl) (s_lneed (by omega) h2 h21 (by decide)) (fun r27 μ27 e27 => ?_)
  obtain ⟨rfl, h27⟩ := e27
  refine bc_aload_n dX2_readPair_30 rfl ?_
  refine bc_iload_n dX2_readPair_31 rfl ?_
  refine bc_callV (z := mX2_put) (ci := 2) dX2_readPair_32 lX2_31 qX2_put (by rfl) (by rfl) (by rfl) (by rfl) (Nat.le_of_ble_eq_true rfl) (s_lput (x := c) h27 (fun p hp => ⟨rfl, i3 p hp⟩)) (fun r32 μ32 e32 => ?_)
  obtain ⟨rfl, h32⟩ := e32
  exact bc_return dX2_readPair_35 rfl (⟨rfl, h32⟩)
end RDL
