/-! the reference: words -/
def cd (f : Nat → Nat) : Nat → Nat
  | 0 => 0
  | i + 1 => 32 * cd f i + f i
theorem cd_lt {f : Nat → Nat} : ∀ L, (∀ i, i < L → f i < 32) → cd f L < 32 ^ L := by
  intro L
  induction L with
  | zero => intro _; show 0 < 1; omega
  | succ L ih =>
    intro h
    have h1 := ih (fun i hi => h i (by omega))
    have h2 := h L (by omega)
    rw [cd, Nat.pow_succ]
    omega
theorem cd_inj {f g : Nat → Nat} : ∀ L L', (∀ i, i < L → 1 ≤ f i ∧ f i < 32) → (∀ i, i < L' → 1 ≤ g i ∧ g i < 32) → (cd f L = cd g L' ↔ L = L' ∧ ∀ i, i < L → f i = g i) := by
  intro L
  induction L with
  | zero =>
    intro L' _ hg
    cases L' with
    | zero => exact ⟨fun _ => ⟨rfl, fun i hi => absurd hi (by omega)⟩, fun _ => rfl⟩
    | succ L' =>
      have := hg L' (by omega)
      rw [cd, cd]
      exact ⟨fun q => by omega, fun q => by omega⟩
  | succ L ih =>
    intro L' hf hg
    cases L' with
    | zero =>
      have := hf L (by omega)
      rw [cd, cd]
      exact ⟨fun q => by omega, fun q => by omega⟩
    | succ L' =>
      have h1 := hf L (by omega)
      have h2 := hg L' (by omega)
      have i1 := ih L' (fun i hi => hf i (by omega)) (fun i hi => hg i (by omega))
      rw [cd, cd]
      constructor
      · intro q
        have q1 : f L = g L' := by omega
        have q2 : cd f L = cd g L' := by omega
        obtain ⟨q3, q4⟩ := i1.mp q2
        subst q3
        refine ⟨rfl, fun i hi => ?_⟩
        by_cases e : i = L
        · subst e; exact q1
        · exact q4 i (by omega)
      · rintro ⟨q1, q2⟩
        have q3 : L = L' := by omega
        subst q3
        rw [q2 L (by omega), i1.mpr ⟨rfl, fun i hi => q2 i (by omega)⟩]
theorem bt_nI {k : Nat} (hk : k < 2 ^ 31) (i : Nat) : bt (nI k) i = k.testBit i := by
  have e : (nI k).toBitVec = BitVec.ofNat 32 k := rfl
  unfold bt
  rw [e, BitVec.getLsbD_ofNat]
  by_cases hi : i < 32
  · rw [decide_eq_true hi, Bool.true_and]
  · rw [decide_eq_false hi, Bool.false_and]
    rw [Nat.testBit_lt_two_pow (Nat.lt_of_lt_of_le hk (Nat.pow_le_pow_right (by omega) (by omega)))]
theorem shor {a b : Nat} (ha : a < 2 ^ 25) (hb : b < 32) : nI a <<< ((5 : Int32) &&& 31) ||| nI b = nI (32 * a + b) := by
  refine b_ext (fun i hi => ?_)
  have e5 : bt (nI a <<< ((5 : Int32) &&& 31)) i = (decide (5 ≤ i) && bt (nI a) (i - 5)) := b_shl 5 (by omega) (nI a) hi
  rw [b_or, e5, bt_nI (by omega), bt_nI (by omega), bt_nI (by omega)]
  have e : 32 * a + b = a <<< 5 ||| b := by
    rw [← Nat.shiftLeft_add_eq_or_of_lt (show b < 2 ^ 5 by omega), Nat.shiftLeft_eq]
    omega
  rw [e, Nat.testBit_or, Nat.testBit_shiftLeft]
def lv (c : Int32) : Nat := (c - 96).toNatClampNeg
theorem lv_in {c : Int32} (h : isLt c = true) : c - 96 = nI (lv c) ∧ 1 ≤ lv c ∧ lv c < 32 ∧ c = nI (lv c + 96) := by
  rw [isLt_iff, bn_le, bn_le, bn_ti (by omega), bn_ti (by omega)] at h
  have e : (c - 96).toInt = c.toInt - 96 := by
    rw [Int32.toInt_sub, show (96 : Int32).toInt = 96 from rfl, Int.bmod_eq_of_le (by omega) (by omega)]
  have e2 : lv c = (c.toInt - 96).toNat := by unfold lv; rw [bn_clamp, e]
  refine ⟨?_, by omega, by omega, ?_⟩
  · rw [bn_eq, bn_ti (by omega), e, e2]; omega
  · rw [bn_eq, bn_ti (by omega), e2]; omega
theorem lv_inj {c c' : Int32} (h : isLt c = true) (h' : isLt c' = true) : lv c = lv c' ↔ c = c' := by
  constructor
  · intro q; rw [(lv_in h).2.2.2, (lv_in h').2.2.2, q]
  · intro q; rw [q]
/-- a constant's letters -/
theorem sch_lt : ∀ K, K < 24 → 5 ≤ K → ∀ i, i < bc_len.getD K 0 → isLt (sch K i) = true := by decide +kernel
theorem byt_get : ∀ K, K < 24 → 5 ≤ K → bc_byt.getD K [] = (List.range (bc_len.getD K 0)).map (fun i => sch K i) := by decide +kernel
section T73
variable {d : Nat} {m μ ν M : bc_M} {n p a : Nat} {t : Nat → Int32}
theorem rn_run {P : Int32 → Bool} {q : Nat} : ∀ c, p + c = q → (∀ i, p ≤ i → i < q → i < n ∧ P (t i) = true) → rn P t n p = rn P t n q := by
  intro c
  induction c generalizing p with
  | zero => intro h _; rw [show p = q by omega]
  | succ c ih =>
    intro h hh
    rw [rn_go (hh p (Nat.le_refl _) (by omega)).1 (hh p (Nat.le_refl _) (by omega)).2]
    exact ih (by omega) (fun i h1 h2 => hh i (by omega) h2)
theorem wd_iff {K : Nat} (hK : K < 24) (hK5 : 5 ≤ K) (hp : p ≤ n) : wd t n p = bc_byt.getD K [] ↔ (ltE t n p - p = bc_len.getD K 0 ∧ ∀ i, i < bc_len.getD K 0 → t (p + i) = sch K i) := by
  rw [byt_get K hK hK5]
  unfold wd
  constructor
  · intro h
    have hl : ltE t n p - p = bc_len.getD K 0 := by
      have := congrArg List.length h
      rw [wdF_len, List.length_map, List.length_range] at this
      exact this
    refine ⟨hl, fun i hi => ?_⟩
    have h1 := wdF_get t (ltE t n p - p) p i (by omega)
    rw [h, List.getElem?_map, List.getElem?_range hi] at h1
    exact (Option.some.inj h1).symm
  · rintro ⟨hl, h⟩
    apply List.ext_getElem?
    intro i
    by_cases hi : i < bc_len.getD K 0
    · rw [wdF_get t _ p i (by omega), List.getElem?_map, List.getElem?_range hi, h i hi]; rfl
    · rw [List.getElem?_eq_none (by rw [wdF_len]; omega), List.getElem?_eq_none (by rw [List.length_map, List.length_range]; omega)]
theorem wd_iff2 {K : Nat} (hK : K < 24) (hK5 : 5 ≤ K) (hp : p ≤ n) : wd t n p = bc_byt.getD K [] ↔ ((∀ i, i < bc_len.getD K 0 → p + i < n ∧ t (p + i) = sch K i) ∧ (n ≤ p + bc_len.getD K 0 ∨ ¬ isLt (t (p + bc_len.getD K 0)) = true)) := by
  rw [wd_iff hK hK5 hp]
  have hge : p ≤ ltE t n p := rn_ge _ _ _ _
  have hle : ltE t n p ≤ n := rn_le hp
  constructor
  · rintro ⟨hl, h⟩
    refine ⟨fun i hi => ⟨by omega, h i hi⟩, ?_⟩
    by_cases q : n ≤ p + bc_len.getD K 0
    · exact .inl q
    · refine .inr ?_
      rw [show p + bc_len.getD K 0 = ltE t n p by omega]
      exact rn_at hp (show rn isLt t n p < n from by show ltE t n p < n; omega)
  · rintro ⟨h1, h2⟩
    refine ⟨?_, fun i hi => (h1 i hi).2⟩
    have hrun : ltE t n p = ltE t n (p + bc_len.getD K 0) := rn_run (bc_len.getD K 0) rfl (fun i a b => by
      have h3 := h1 (i - p) (by omega)
      rw [show p + (i - p) = i by omega] at h3
      exact ⟨h3.1, by rw [h3.2]; exact sch_lt K hK hK5 (i - p) (by omega)⟩)
    have hs : ltE t n (p + bc_len.getD K 0) = p + bc_len.getD K 0 := by
      rcases h2 with q | q
      · exact rn_end q
      · exact rn_stop q
    omega
/-- a word's code -/
def wcV (t : Nat → Int32) (n p : Nat) : Int32 := if ltE t n p - p ≤ 6 then nI (cd (fun i => lv (t (p + i))) (ltE t n p - p)) else 0
def ofV (K : Nat) : Int32 := nI (cd (fun i => lv (sch K i)) (bc_len.getD K 0))
theorem len6 : ∀ K, K < 24 → 7 ≤ K → bc_len.getD K 0 ≤ 6 ∧ 1 ≤ bc_len.getD K 0 := by decide +kernel
theorem p32 : ∀ L, L ≤ 6 → 32 ^ L ≤ 2 ^ 30 := by decide
theorem wc_iff {K : Nat} (hK : K < 24) (hK7 : 7 ≤ K) (hp : p ≤ n) : wcV t n p = ofV K ↔ wd t n p = bc_byt.getD K [] := by
  have hl6 := len6 K hK hK7
  have hge : p ≤ ltE t n p := rn_ge _ _ _ _
  have hg : ∀ i, i < bc_len.getD K 0 → 1 ≤ lv (sch K i) ∧ lv (sch K i) < 32 := fun i hi => by
    have := lv_in (sch_lt K hK (by omega) i hi)
    exact ⟨this.2.1, this.2.2.1⟩
  have hgl := cd_lt (f := fun i => lv (sch K i)) (bc_len.getD K 0) (fun i hi => (hg i hi).2)
  have h32 := p32 (bc_len.getD K 0) hl6.1
  rw [wd_iff hK (by omega) hp]
  unfold wcV ofV
  have hlt : ∀ i, i < ltE t n p - p → isLt (t (p + i)) = true := fun i hi => rn_all (n := n) (p := p) (by omega) (show p + i < rn isLt t n p from by show p + i < ltE t n p; omega)
  by_cases h6 : ltE t n p - p ≤ 6
  · have hf : ∀ i, i < ltE t n p - p → 1 ≤ lv (t (p + i)) ∧ lv (t (p + i)) < 32 := fun i hi => by
      have := lv_in (hlt i hi)
      exact ⟨this.2.1, this.2.2.1⟩
    have hfl := cd_lt (f := fun i => lv (t (p + i))) (ltE t n p - p) (fun i hi => (hf i hi).2)
    have h33 := p32 (ltE t n p - p) h6
    rw [if_pos h6, bn_eqN (by omega) (by omega), cd_inj _ _ hf hg]
    constructor
    · rintro ⟨q1, q2⟩
      exact ⟨q1, fun i hi => (lv_inj (hlt i (by omega)) (sch_lt K hK (by omega) i hi)).mp (q2 i (by omega))⟩
    · rintro ⟨q1, q2⟩
      exact ⟨q1, fun i hi => by rw [q2 i (by omega)]⟩
  · rw [if_neg h6]
    constructor
    · intro q
      rw [show (0 : Int32) = nI 0 from rfl, bn_eqN (by omega) (by omega)] at q
      have hpos : 1 ≤ cd (fun i => lv (sch K i)) (bc_len.getD K 0) := by
        obtain ⟨L, hL⟩ : ∃ L, bc_len.getD K 0 = L + 1 := ⟨bc_len.getD K 0 - 1, by omega⟩
        rw [hL, cd]
        have := (hg L (by omega)).1
        omega
      omega
    · rintro ⟨q1, -⟩
      omega
theorem t_of {K : Nat} (hK : K < 24) (hK7 : 7 ≤ K) : bc_C (d + 4) LM mX10_of [.ref (1000 + K)] μ (fun r ν => r = some (.int (ofV K)) ∧ ν = μ) := by
  refine bc_enter (by decide) (Nat.le_of_ble_eq_true rfl) rfl ?_
  have hl6 := len6 K hK hK7
  have hg : ∀ i, i < bc_len.getD K 0 → _ := fun i hi => lv_in (sch_lt K hK (by omega) i hi)
  have loop : ∀ (c k : Nat), k + c = bc_len.getD K 0 → bc_W (d + 4) LM mX10_of 4 [.ref (1000 + K), .int (nI (cd (fun i => lv (sch K i)) k)), .int (nI k)] [] μ (fun r ν => r = some (.int (ofV K)) ∧ ν = μ) := by
    intro c
    induction c with
    | zero =>
      intro k hk
      have hk : k = bc_len.getD K 0 := by omega
      subst hk
      refine bc_iload_n dX10_of_4 rfl ?_
      refine bc_aload_n dX10_of_5 rfl ?_
      refine bc_callVS (z := mJ0_length_8abf5) (hK) dX10_of_6 lX10_138 qJ0_length_8abf5 rfl (by rfl) (by rfl) (Nat.le_of_ble_eq_true rfl) (s_length hK) (fun r6 μ6 e6 => ?_)
      obtain ⟨rfl, q6⟩ := e6
      obtain rfl := q6.symm
      refine bc_icmp_ge (tgt := 31) dX10_of_9 (by decide) (fun h9 => ?_) (fun h9 => absurd h9 (fun q => q (Int32.le_refl _)))
      refine bc_iload_n dX10_of_31 rfl ?_
      exact bc_ireturn dX10_of_32 rfl rfl (⟨rfl, rfl⟩)
    | succ c ih =>
      intro k hk
      have h2 := ih (k + 1) (by omega)
      have g := hg k (by omega)
      have hcl := cd_lt (f := fun i => lv (sch K i)) k (fun i hi => (hg i (by omega)).2.2.1)
      have h32 : 32 ^ k ≤ 2 ^ 25 := (by decide : ∀ k, k ≤ 5 → 32 ^ k ≤ 2 ^ 25) k (by omega)
      have e : nI (cd (fun i => lv (sch K i)) k) <<< ((5 : Int32) &&& 31) ||| (sch K k - 96) = nI (cd (fun i => lv (sch K i)) (k + 1)) := by
        rw [g.1, shor (by omega) g.2.2.1]; rfl
      refine bc_iload_n dX10_of_4 rfl ?_
      refine bc_aload_n dX10_of_5 rfl ?_
      refine bc_callVS (z := mJ0_length_8abf5) (hK) dX10_of_6 lX10_138 qJ0_length_8abf5 rfl (by rfl) (by rfl) (Nat.le_of_ble_eq_true rfl) (s_length hK) (fun r6 μ6 e6 => ?_)
      obtain ⟨rfl, q6⟩ := e6
      obtain rfl := q6.symm
      refine bc_icmp_ge (tgt := 31) dX10_of_9 (by decide) (fun h9 => absurd h9 (bx_in rfl (by omega) (by omega))) (fun h9 => ?_)
      refine bc_iload_n dX10_of_12 rfl ?_
      refine bc_iconst (v := 5) dX10_of_13 (by decide) ?_
      refine bc_ishl dX10_of_14 ?_
      refine bc_aload_n dX10_of_15 rfl ?_
      refine bc_iload_n dX10_of_16 rfl ?_
      refine bc_callVS (z := mJ0_charAt_5068e) (hK) dX10_of_17 lX10_143 qJ0_charAt_5068e rfl (by rfl) (by rfl) (Nat.le_of_ble_eq_true rfl) (s_charAt hK rfl (by omega)) (fun r17 μ17 e17 => ?_)
      obtain ⟨rfl, q17⟩ := e17
      obtain rfl := q17.symm
      refine bc_bipush (v := 96) dX10_of_20 (by decide) ?_
      refine bc_isub dX10_of_22 ?_
      refine bc_ior dX10_of_23 ?_
      rw [e]
      refine bc_istore_n dX10_of_24 (by decide) rfl ?_
      refine bc_iinc1 dX10_of_25 rfl (by decide) rfl ?_
      refine bc_goto (tgt := 4) dX10_of_28 (by decide) ?_
      rw [bn_add1]
      exact h2
  refine bc_iconst (v := 0) dX10_of_0 (by decide) ?_
  refine bc_istore_n dX10_of_1 (by decide) rfl ?_
  refine bc_iconst (v := 0) dX10_of_2 (by decide) ?_
  refine bc_istore_n dX10_of_3 (by decide) rfl ?_
  exact loop (bc_len.getD K 0) 0 (by omega)
theorem t_word (h : rS t n (.inr p) μ) : bc_C (d + 1) LM mX10_word [.ref 0] μ (fun r ν => r = some (.int (wcV t n p)) ∧ ν = bc_u μ 0 4 (nI p)) := by
  refine bc_enter (by decide) (Nat.le_of_ble_eq_true rfl) rfl ?_
  have hpn := h.le
  obtain ⟨h3, h6, hb8⟩ := id h.1
  obtain ⟨μ1, hμ1⟩ : ∃ μ1, μ1 = bc_u μ 0 4 (nI p) := ⟨_, rfl⟩
  have q4 : μ1 0 4 = nI p := by rw [hμ1, bc_u_r, if_pos ⟨rfl, rfl⟩]
  have q3 : μ1 0 3 = nI n := by rw [hμ1]; exact h3
  have q2 : μ1 2 = μ 2 := by rw [hμ1]; rfl
  rw [← hμ1]
  obtain ⟨E, hE⟩ : ∃ E, E = ltE t n p := ⟨_, rfl⟩
  have hEn : E ≤ n := by rw [hE]; exact rn_le hpn
  have hpE : p ≤ E := by rw [hE]; exact rn_ge _ _ _ _
  have hall : ∀ i, p ≤ i → i < E → isLt (t i) = true := fun i h1 h2 => by rw [hE] at h2; exact rn_all h1 h2
  have hend : E < n → ¬ isLt (t E) = true := fun q => by rw [hE] at q ⊢; exact rn_at hpn q
  obtain ⟨f, hf⟩ : ∃ f : Nat → Nat, f = fun i => lv (t (p + i)) := ⟨_, rfl⟩
  have hwc : wcV t n p = if E - p ≤ 6 then nI (cd f (E - p)) else 0 := by unfold wcV; rw [← hE, ← hf]
  rw [hwc]
  have fin : ∀ (L : Nat) (v : Int32) (v3 : Value), L = E - p → v = (if L ≤ 6 then nI (cd f L) else 0) → bc_W (d + 1) LM mX10_word 67 [.ref 0, .int v, .int (nI L), v3] [] μ1 (fun r ν => r = some (.int (if E - p ≤ 6 then nI (cd f (E - p)) else 0)) ∧ ν = μ1) := by
    intro L v v3 hL hv
    have c6 : nI L ≤ 6 ↔ L ≤ 6 := bn_leN (b := 6) (by omega) (by omega)
    rw [← hL]
    refine bc_iload_n dX10_word_67 rfl ?_
    refine bc_bipush (v := 6) dX10_word_68 (by decide) ?_
    refine bc_icmp_le (tgt := 77) dX10_word_70 (by decide) (fun h70 => ?_) (fun h70 => ?_)
    · refine bc_iload_n dX10_word_77 rfl ?_
      exact bc_ireturn dX10_word_78 rfl rfl (⟨by rw [hv], rfl⟩)
    · refine bc_iconst (v := 0) dX10_word_73 (by decide) ?_
      refine bc_goto (tgt := 78) dX10_word_74 (by decide) ?_
      exact bc_ireturn dX10_word_78 rfl rfl (⟨by rw [if_neg (fun q => h70 (c6.mpr q))], rfl⟩)
  have loop : ∀ (c a L : Nat) (v : Int32), a + c = E → a = p + L → v = (if L ≤ 6 then nI (cd f L) else 0) → bc_W (d + 1) LM mX10_word 14 [.ref 0, .int v, .int (nI L), .int (nI a)] [] μ1 (fun r ν => r = some (.int (if E - p ≤ 6 then nI (cd f (E - p)) else 0)) ∧ ν = μ1) := by
    intro c
    induction c with
    | zero =>
      intro a L v ha hL hv
      have ha : a = E := by omega
      by_cases hlt : a < n
      · have h32 : ¬ (nI 97 ≤ μ 2 a ∧ μ 2 a ≤ nI 122) := fun q => hend (by omega) (by rw [← ha]; exact (b8_lt (hb8 a hlt)).mp q)
        refine bc_iload_n dX10_word_14 rfl ?_
        refine bc_aload_n dX10_word_15 rfl ?_
        refine bc_geti dX10_word_16 fX10_127 (rfl) rfl ?_
        rw [q3]
        refine bc_icmp_ge (tgt := 67) dX10_word_19 (by decide) (fun h19 => absurd h19 (bx_in rfl (by omega) (by omega))) (fun h19 => ?_)
        refine bc_aload_n dX10_word_22 rfl ?_
        refine bc_getr dX10_word_23 fX10_20 (rfl) rfl ?_
        refine bc_iload_n dX10_word_26 rfl ?_
        refine bc_ialdE (k := a) dX10_word_27 (rfl) (rfl) (⟨by omega, by decide⟩) ?_
        rw [q2]
        refine bc_callS (z := mX10_isSmall) dX10_word_28 lX10_134 qX10_isSmall (by rfl) (by rfl) (Nat.le_of_ble_eq_true rfl) (t_isSmall _) (fun r28 μ28 e28 => ?_)
        obtain ⟨rfl, q28⟩ := e28
        obtain rfl := q28.symm
        refine bc_if_eq (tgt := 67) dX10_word_31 (by decide) (fun h31 => ?_) (fun h31 => absurd h31 (fun q => q (ite0.mpr h32)))
        exact fin L v _ (by omega) hv
      · skip
        refine bc_iload_n dX10_word_14 rfl ?_
        refine bc_aload_n dX10_word_15 rfl ?_
        refine bc_geti dX10_word_16 fX10_127 (rfl) rfl ?_
        rw [q3]
        refine bc_icmp_ge (tgt := 67) dX10_word_19 (by decide) (fun h19 => ?_) (fun h19 => absurd h19 (fun q => q (bx_out rfl (by omega) (by omega))))
        exact fin L v _ (by omega) hv
    | succ c ih =>
      intro a L v ha hL hv
      have hda := hall a (by omega) (by omega)
      have h32 : nI 97 ≤ μ 2 a ∧ μ 2 a ≤ nI 122 := (b8_lt (hb8 a (by omega))).mpr hda
      have hu : μ 2 a = t a := (b8_rg (hb8 a (by omega)) (a := 97) (b := 122) (by omega) (by omega) (by omega)).2 (isLt_iff.mp hda)
      have g := lv_in hda
      have c6 : nI 6 ≤ nI L ↔ 6 ≤ L := bn_leN (by omega) (by omega)
      have next : ∀ v' : Int32, v' = (if L + 1 ≤ 6 then nI (cd f (L + 1)) else 0) → bc_W (d + 1) LM mX10_word 57 [.ref 0, .int v, .int (nI L), .int (nI a)] [.int v'] μ1 (fun r ν => r = some (.int (if E - p ≤ 6 then nI (cd f (E - p)) else 0)) ∧ ν = μ1) := by
        intro v' hv'
        have h2 := ih (a + 1) (L + 1) v' (by omega) (by omega) hv'
        refine bc_istore_n dX10_word_57 (by decide) rfl ?_
        refine bc_iinc1 dX10_word_58 rfl (by decide) rfl ?_
        refine bc_iinc1 dX10_word_61 rfl (by decide) rfl ?_
        refine bc_goto (tgt := 14) dX10_word_64 (by decide) ?_
        rw [bn_add1, bn_add1]
        exact h2
      refine bc_iload_n dX10_word_14 rfl ?_
      refine bc_aload_n dX10_word_15 rfl ?_
      refine bc_geti dX10_word_16 fX10_127 (rfl) rfl ?_
      rw [q3]
      refine bc_icmp_ge (tgt := 67) dX10_word_19 (by decide) (fun h19 => absurd h19 (bx_in rfl (by omega) (by omega))) (fun h19 => ?_)
      refine bc_aload_n dX10_word_22 rfl ?_
      refine bc_getr dX10_word_23 fX10_20 (rfl) rfl ?_
      refine bc_iload_n dX10_word_26 rfl ?_
      refine bc_ialdE (k := a) dX10_word_27 (rfl) (rfl) (⟨by omega, by decide⟩) ?_
      rw [q2]
      refine bc_callS (z := mX10_isSmall) dX10_word_28 lX10_134 qX10_isSmall (by rfl) (by rfl) (Nat.le_of_ble_eq_true rfl) (t_isSmall _) (fun r28 μ28 e28 => ?_)
      obtain ⟨rfl, q28⟩ := e28
      obtain rfl := q28.symm
      refine bc_if_eq (tgt := 67) dX10_word_31 (by decide) (fun h31 => absurd h31 (fun q => ite0.mp q h32)) (fun h31 => ?_)
      refine bc_iload_n dX10_word_34 rfl ?_
      refine bc_bipush (v := 6) dX10_word_35 (by decide) ?_
      refine bc_icmp_ge (tgt := 56) dX10_word_37 (by decide) (fun h37 => ?_) (fun h37 => ?_)
      · refine bc_iconst (v := 0) dX10_word_56 (by decide) ?_
        exact next 0 (by have q : 6 ≤ L := c6.mp h37; rw [if_neg (by omega)])
      · refine bc_iload_n dX10_word_40 rfl ?_
        refine bc_iconst (v := 5) dX10_word_41 (by decide) ?_
        refine bc_ishl dX10_word_42 ?_
        refine bc_aload_n dX10_word_43 rfl ?_
        refine bc_getr dX10_word_44 fX10_20 (rfl) rfl ?_
        refine bc_iload_n dX10_word_47 rfl ?_
        refine bc_ialdE (k := a) dX10_word_48 (rfl) (rfl) (⟨by omega, by decide⟩) ?_
        rw [q2, hu]
        refine bc_bipush (v := 96) dX10_word_49 (by decide) ?_
        refine bc_isub dX10_word_51 ?_
        refine bc_ior dX10_word_52 ?_
        refine bc_goto (tgt := 57) dX10_word_53 (by decide) ?_
        have q : ¬ 6 ≤ L := fun z => h37 (c6.mpr z)
        refine next _ ?_
        have hcl := cd_lt (f := f) L (fun i hi => by rw [hf]; exact (lv_in (hall (p + i) (by omega) (by omega))).2.2.1)
        have h32 : 32 ^ L ≤ 2 ^ 25 := (by decide : ∀ k, k ≤ 5 → 32 ^ k ≤ 2 ^ 25) L (by omega)
        rw [hv, if_pos (by omega), if_pos (by omega), g.1, shor (by omega) g.2.2.1, cd, hf, hL]
  refine bc_aload_n dX10_word_0 rfl ?_
  refine bc_callV (z := mX10_here) (ci := 10) dX10_word_1 lX10_130 qX10_here (by rfl) (by rfl) (by rfl) (by rfl) (Nat.le_of_ble_eq_true rfl) (t_here h) (fun r1 μ1 e1 => ?_)
  obtain ⟨rfl, q1⟩ := e1
  obtain rfl := q1.symm
  rw [← hμ1]
  refine bc_pop dX10_word_4 rfl ?_
  refine bc_iconst (v := 0) dX10_word_5 (by decide) ?_
  refine bc_istore_n dX10_word_6 (by decide) rfl ?_
  refine bc_iconst (v := 0) dX10_word_7 (by decide) ?_
  refine bc_istore_n dX10_word_8 (by decide) rfl ?_
  refine bc_aload_n dX10_word_9 rfl ?_
  refine bc_geti dX10_word_10 fX10_124 (rfl) rfl ?_
  rw [q4]
  refine bc_istore_n dX10_word_13 (by decide) rfl ?_
  exact loop (E - p) p 0 0 (by omega) rfl rfl
theorem t_standsHere {K : Nat} (hK : K < 24) (hK5 : 5 ≤ K) (h : rS t n (.inr p) μ) : bc_C (d + 4) LM mX10_standsHere [.ref 0, .ref (1000 + K)] μ (fun r ν => r = some (.int (if wd t n p = bc_byt.getD K [] then 1 else 0)) ∧ ν = bc_u μ 0 4 (nI p)) := by
  refine bc_enter (by decide) (Nat.le_of_ble_eq_true rfl) rfl ?_
  have hpn := h.le
  obtain ⟨h3, h6, hb8⟩ := id h.1
  obtain ⟨μ1, hμ1⟩ : ∃ μ1, μ1 = bc_u μ 0 4 (nI p) := ⟨_, rfl⟩
  have q4 : μ1 0 4 = nI p := by rw [hμ1, bc_u_r, if_pos ⟨rfl, rfl⟩]
  have q3 : μ1 0 3 = nI n := by rw [hμ1]; exact h3
  have q2 : μ1 2 = μ 2 := by rw [hμ1]; rfl
  rw [← hμ1]
  have hiff := wd_iff2 (t := t) hK hK5 hpn
  have hlen : bc_len.getD K 0 < 1000 := (by decide +kernel : ∀ K, K < 24 → bc_len.getD K 0 < 1000) K hK
  have no' : ∀ v2 : Value, ¬ wd t n p = bc_byt.getD K [] → bc_W (d + 4) LM mX10_standsHere 47 [.ref 0, .ref (1000 + K), v2] [] μ1 (fun r ν => r = some (.int (if wd t n p = bc_byt.getD K [] then 1 else 0)) ∧ ν = μ1) := by
    intro v2 hn
    rw [if_neg hn]
    refine bc_iconst (v := 0) dX10_standsHere_47 (by decide) ?_
    exact bc_ireturn dX10_standsHere_48 rfl rfl (⟨rfl, rfl⟩)
  have loop : ∀ (c k : Nat), k + c = bc_len.getD K 0 → (∀ i, i < k → p + i < n ∧ t (p + i) = sch K i) → bc_W (d + 4) LM mX10_standsHere 7 [.ref 0, .ref (1000 + K), .int (nI k)] [] μ1 (fun r ν => r = some (.int (if wd t n p = bc_byt.getD K [] then 1 else 0)) ∧ ν = μ1) := by
    intro c
    induction c with
    | zero =>
      intro k hk hI
      have hk : k = bc_len.getD K 0 := by omega
      subst hk
      have yes : ∀ v2 : Value, (n ≤ p + bc_len.getD K 0 ∨ ¬ isLt (t (p + bc_len.getD K 0)) = true) → bc_W (d + 4) LM mX10_standsHere 91 [.ref 0, .ref (1000 + K), v2] [] μ1 (fun r ν => r = some (.int (if wd t n p = bc_byt.getD K [] then 1 else 0)) ∧ ν = μ1) := by
        intro v2 hq
        rw [if_pos (hiff.mpr ⟨hI, hq⟩)]
        refine bc_iconst (v := 1) dX10_standsHere_91 (by decide) ?_
        refine bc_goto (tgt := 96) dX10_standsHere_92 (by decide) ?_
        exact bc_ireturn dX10_standsHere_96 rfl rfl (⟨rfl, rfl⟩)
      by_cases hlt : p + bc_len.getD K 0 < n
      · have hb := b8_lt (hb8 _ hlt)
        refine bc_iload_n dX10_standsHere_7 rfl ?_
        refine bc_aload_n dX10_standsHere_8 rfl ?_
        refine bc_callVS (z := mJ0_length_8abf5) (hK) dX10_standsHere_9 lX10_138 qJ0_length_8abf5 rfl (by rfl) (by rfl) (Nat.le_of_ble_eq_true rfl) (s_length hK) (fun r9 μ9 e9 => ?_)
        obtain ⟨rfl, q9⟩ := e9
        obtain rfl := q9.symm
        refine bc_icmp_ge (tgt := 55) dX10_standsHere_12 (by decide) (fun h12 => ?_) (fun h12 => absurd h12 (fun q => q (Int32.le_refl _)))
        refine bc_aload_n dX10_standsHere_55 rfl ?_
        refine bc_geti dX10_standsHere_56 fX10_124 (rfl) rfl ?_
        rw [q4]
        refine bc_aload_n dX10_standsHere_59 rfl ?_
        refine bc_callVS (z := mJ0_length_8abf5) (hK) dX10_standsHere_60 lX10_138 qJ0_length_8abf5 rfl (by rfl) (by rfl) (Nat.le_of_ble_eq_true rfl) (s_length hK) (fun r60 μ60 e60 => ?_)
        obtain ⟨rfl, q60⟩ := e60
        obtain rfl := q60.symm
        refine bc_iadd dX10_standsHere_63 ?_
        rw [bn_add]
        refine bc_aload_n dX10_standsHere_64 rfl ?_
        refine bc_geti dX10_standsHere_65 fX10_127 (rfl) rfl ?_
        rw [q3]
        refine bc_icmp_ge (tgt := 91) dX10_standsHere_68 (by decide) (fun h68 => absurd h68 (bx_in rfl (by omega) (by omega))) (fun h68 => ?_)
        refine bc_aload_n dX10_standsHere_71 rfl ?_
        refine bc_getr dX10_standsHere_72 fX10_20 (rfl) rfl ?_
        refine bc_aload_n dX10_standsHere_75 rfl ?_
        refine bc_geti dX10_standsHere_76 fX10_124 (rfl) rfl ?_
        rw [q4]
        refine bc_aload_n dX10_standsHere_79 rfl ?_
        refine bc_callVS (z := mJ0_length_8abf5) (hK) dX10_standsHere_80 lX10_138 qJ0_length_8abf5 rfl (by rfl) (by rfl) (Nat.le_of_ble_eq_true rfl) (s_length hK) (fun r80 μ80 e80 => ?_)
        obtain ⟨rfl, q80⟩ := e80
        obtain rfl := q80.symm
        refine bc_iadd dX10_standsHere_83 ?_
        rw [bn_add]
        refine bc_ialdE dX10_standsHere_84 (rfl) (rfl) (⟨by omega, by decide⟩) ?_
        rw [q2]
        refine bc_callS (z := mX10_isSmall) dX10_standsHere_85 lX10_134 qX10_isSmall (by rfl) (by rfl) (Nat.le_of_ble_eq_true rfl) (t_isSmall _) (fun r85 μ85 e85 => ?_)
        obtain ⟨rfl, q85⟩ := e85
        obtain rfl := q85.symm
        refine bc_if_ne (tgt := 95) dX10_standsHere_88 (by decide) (fun h88 => ?_) (fun h88 => ?_)
        · refine bc_iconst (v := 0) dX10_standsHere_95 (by decide) ?_
          exact bc_ireturn dX10_standsHere_96 rfl rfl (⟨by rw [if_neg (fun q => ((hiff.mp q).2).elim (by omega) (fun z => z (hb.mp (Decidable.not_not.mp (fun y => h88 (ite0.mpr y))))))], rfl⟩)
        · exact yes _ (.inr (fun q => ite0.mp h88 (hb.mpr q)))
      · skip
        refine bc_iload_n dX10_standsHere_7 rfl ?_
        refine bc_aload_n dX10_standsHere_8 rfl ?_
        refine bc_callVS (z := mJ0_length_8abf5) (hK) dX10_standsHere_9 lX10_138 qJ0_length_8abf5 rfl (by rfl) (by rfl) (Nat.le_of_ble_eq_true rfl) (s_length hK) (fun r9 μ9 e9 => ?_)
        obtain ⟨rfl, q9⟩ := e9
        obtain rfl := q9.symm
        refine bc_icmp_ge (tgt := 55) dX10_standsHere_12 (by decide) (fun h12 => ?_) (fun h12 => absurd h12 (fun q => q (Int32.le_refl _)))
        refine bc_aload_n dX10_standsHere_55 rfl ?_
        refine bc_geti dX10_standsHere_56 fX10_124 (rfl) rfl ?_
        rw [q4]
        refine bc_aload_n dX10_standsHere_59 rfl ?_
        refine bc_callVS (z := mJ0_length_8abf5) (hK) dX10_standsHere_60 lX10_138 qJ0_length_8abf5 rfl (by rfl) (by rfl) (Nat.le_of_ble_eq_true rfl) (s_length hK) (fun r60 μ60 e60 => ?_)
        obtain ⟨rfl, q60⟩ := e60
        obtain rfl := q60.symm
        refine bc_iadd dX10_standsHere_63 ?_
        rw [bn_add]
        refine bc_aload_n dX10_standsHere_64 rfl ?_
        refine bc_geti dX10_standsHere_65 fX10_127 (rfl) rfl ?_
        rw [q3]
        refine bc_icmp_ge (tgt := 91) dX10_standsHere_68 (by decide) (fun h68 => ?_) (fun h68 => absurd h68 (fun q => q (bx_out rfl (by omega) (by omega))))
        exact yes _ (.inl (by omega))
    | succ c ih =>
      intro k hk hI
      by_cases hlt : p + k < n
      · by_cases hc : t (p + k) = sch K k
        · have h2 := ih (k + 1) (by omega) (fun i hi => by
            by_cases e : i = k
            · subst e; exact ⟨hlt, hc⟩
            · exact hI i (by omega))
          have hsl := lv_in (sch_lt K hK hK5 k (by omega))
          have hu : μ 2 (p + k) = sch K k := by
            rw [hsl.2.2.2]
            exact (b8_eq (hb8 _ hlt) (by omega)).mp (hc.trans hsl.2.2.2)
          refine bc_iload_n dX10_standsHere_7 rfl ?_
          refine bc_aload_n dX10_standsHere_8 rfl ?_
          refine bc_callVS (z := mJ0_length_8abf5) (hK) dX10_standsHere_9 lX10_138 qJ0_length_8abf5 rfl (by rfl) (by rfl) (Nat.le_of_ble_eq_true rfl) (s_length hK) (fun r9 μ9 e9 => ?_)
          obtain ⟨rfl, q9⟩ := e9
          obtain rfl := q9.symm
          refine bc_icmp_ge (tgt := 55) dX10_standsHere_12 (by decide) (fun h12 => absurd h12 (bx_in rfl (by omega) (by omega))) (fun h12 => ?_)
          refine bc_aload_n dX10_standsHere_15 rfl ?_
          refine bc_geti dX10_standsHere_16 fX10_124 (rfl) rfl ?_
          rw [q4]
          refine bc_iload_n dX10_standsHere_19 rfl ?_
          refine bc_iadd dX10_standsHere_20 ?_
          rw [bn_add]
          refine bc_aload_n dX10_standsHere_21 rfl ?_
          refine bc_geti dX10_standsHere_22 fX10_127 (rfl) rfl ?_
          rw [q3]
          refine bc_icmp_ge (tgt := 47) dX10_standsHere_25 (by decide) (fun h25 => absurd h25 (bx_in rfl (by omega) (by omega))) (fun h25 => ?_)
          refine bc_aload_n dX10_standsHere_28 rfl ?_
          refine bc_getr dX10_standsHere_29 fX10_20 (rfl) rfl ?_
          refine bc_aload_n dX10_standsHere_32 rfl ?_
          refine bc_geti dX10_standsHere_33 fX10_124 (rfl) rfl ?_
          rw [q4]
          refine bc_iload_n dX10_standsHere_36 rfl ?_
          refine bc_iadd dX10_standsHere_37 ?_
          rw [bn_add]
          refine bc_ialdE dX10_standsHere_38 (rfl) (rfl) (⟨by omega, by decide⟩) ?_
          rw [q2, hu]
          refine bc_aload_n dX10_standsHere_39 rfl ?_
          refine bc_iload_n dX10_standsHere_40 rfl ?_
          refine bc_callVS (z := mJ0_charAt_5068e) (hK) dX10_standsHere_41 lX10_143 qJ0_charAt_5068e rfl (by rfl) (by rfl) (Nat.le_of_ble_eq_true rfl) (s_charAt hK rfl (by omega)) (fun r41 μ41 e41 => ?_)
          obtain ⟨rfl, q41⟩ := e41
          obtain rfl := q41.symm
          refine bc_icmp_eq (tgt := 49) dX10_standsHere_44 (by decide) (fun h44 => ?_) (fun h44 => absurd h44 (fun q => q rfl))
          refine bc_iinc1 dX10_standsHere_49 rfl (by decide) rfl ?_
          refine bc_goto (tgt := 7) dX10_standsHere_52 (by decide) ?_
          rw [bn_add1]
          exact h2
        · have hsl := lv_in (sch_lt K hK hK5 k (by omega))
          have hu : ¬ μ 2 (p + k) = sch K k := by
            intro q
            rw [hsl.2.2.2] at q
            exact hc (((b8_eq (hb8 _ hlt) (by omega)).mpr q).trans hsl.2.2.2.symm)
          refine bc_iload_n dX10_standsHere_7 rfl ?_
          refine bc_aload_n dX10_standsHere_8 rfl ?_
          refine bc_callVS (z := mJ0_length_8abf5) (hK) dX10_standsHere_9 lX10_138 qJ0_length_8abf5 rfl (by rfl) (by rfl) (Nat.le_of_ble_eq_true rfl) (s_length hK) (fun r9 μ9 e9 => ?_)
          obtain ⟨rfl, q9⟩ := e9
          obtain rfl := q9.symm
          refine bc_icmp_ge (tgt := 55) dX10_standsHere_12 (by decide) (fun h12 => absurd h12 (bx_in rfl (by omega) (by omega))) (fun h12 => ?_)
          refine bc_aload_n dX10_standsHere_15 rfl ?_
          refine bc_geti dX10_standsHere_16 fX10_124 (rfl) rfl ?_
          rw [q4]
          refine bc_iload_n dX10_standsHere_19 rfl ?_
          refine bc_iadd dX10_standsHere_20 ?_
          rw [bn_add]
          refine bc_aload_n dX10_standsHere_21 rfl ?_
          refine bc_geti dX10_standsHere_22 fX10_127 (rfl) rfl ?_
          rw [q3]
          refine bc_icmp_ge (tgt := 47) dX10_standsHere_25 (by decide) (fun h25 => absurd h25 (bx_in rfl (by omega) (by omega))) (fun h25 => ?_)
          refine bc_aload_n dX10_standsHere_28 rfl ?_
          refine bc_getr dX10_standsHere_29 fX10_20 (rfl) rfl ?_
          refine bc_aload_n dX10_standsHere_32 rfl ?_
          refine bc_geti dX10_standsHere_33 fX10_124 (rfl) rfl ?_
          rw [q4]
          refine bc_iload_n dX10_standsHere_36 rfl ?_
          refine bc_iadd dX10_standsHere_37 ?_
          rw [bn_add]
          refine bc_ialdE dX10_standsHere_38 (rfl) (rfl) (⟨by omega, by decide⟩) ?_
          rw [q2]
          refine bc_aload_n dX10_standsHere_39 rfl ?_
          refine bc_iload_n dX10_standsHere_40 rfl ?_
          refine bc_callVS (z := mJ0_charAt_5068e) (hK) dX10_standsHere_41 lX10_143 qJ0_charAt_5068e rfl (by rfl) (by rfl) (Nat.le_of_ble_eq_true rfl) (s_charAt hK rfl (by omega)) (fun r41 μ41 e41 => ?_)
          obtain ⟨rfl, q41⟩ := e41
          obtain rfl := q41.symm
          refine bc_icmp_eq (tgt := 49) dX10_standsHere_44 (by decide) (fun h44 => absurd h44 (hu)) (fun h44 => ?_)
          exact no' _ (fun q => hc ((hiff.mp q).1 k (by omega)).2)
      · skip
        refine bc_iload_n dX10_standsHere_7 rfl ?_
        refine bc_aload_n dX10_standsHere_8 rfl ?_
        refine bc_callVS (z := mJ0_length_8abf5) (hK) dX10_standsHere_9 lX10_138 qJ0_length_8abf5 rfl (by rfl) (by rfl) (Nat.le_of_ble_eq_true rfl) (s_length hK) (fun r9 μ9 e9 => ?_)
        obtain ⟨rfl, q9⟩ := e9
        obtain rfl := q9.symm
        refine bc_icmp_ge (tgt := 55) dX10_standsHere_12 (by decide) (fun h12 => absurd h12 (bx_in rfl (by omega) (by omega))) (fun h12 => ?_)
        refine bc_aload_n dX10_standsHere_15 rfl ?_
        refine bc_geti dX10_standsHere_16 fX10_124 (rfl) rfl ?_
        rw [q4]
        refine bc_iload_n dX10_standsHere_19 rfl ?_
        refine bc_iadd dX10_standsHere_20 ?_
        rw [bn_add]
        refine bc_aload_n dX10_standsHere_21 rfl ?_
        refine bc_geti dX10_standsHere_22 fX10_127 (rfl) rfl ?_
        rw [q3]
        refine bc_icmp_ge (tgt := 47) dX10_standsHere_25 (by decide) (fun h25 => ?_) (fun h25 => absurd h25 (fun q => q (bx_out rfl (by omega) (by omega))))
        exact no' _ (fun q => absurd ((hiff.mp q).1 k (by omega)).1 hlt)
  refine bc_aload_n dX10_standsHere_0 rfl ?_
  refine bc_callV (z := mX10_here) (ci := 10) dX10_standsHere_1 lX10_130 qX10_here (by rfl) (by rfl) (by rfl) (by rfl) (Nat.le_of_ble_eq_true rfl) (t_here h) (fun r1 μ1 e1 => ?_)
  obtain ⟨rfl, q1⟩ := e1
  obtain rfl := q1.symm
  rw [← hμ1]
  refine bc_pop dX10_standsHere_4 rfl ?_
  refine bc_iconst (v := 0) dX10_standsHere_5 (by decide) ?_
  refine bc_istore_n dX10_standsHere_6 (by decide) rfl ?_
  exact loop (bc_len.getD K 0) 0 (by omega) (fun i hi => by omega)
theorem wV_no {W : List (List Int32)} {l : List Int32} (h : l ∉ W) : wV W l = -1 := by
  unfold wV
  rw [if_neg (fun q => h (List.idxOf_lt_length_iff.mp q))]
theorem t_rowOf (h : rS t n (.inr p) μ) : bc_C (d + 5) LM mX10_rowOf [.ref 0] μ (fun r ν => r = some (.int (wV (bw 1) (wd t n p))) ∧ ν = bc_u μ 0 4 (nI p)) := by
  refine bc_enter (by decide) (Nat.le_of_ble_eq_true rfl) rfl ?_
  have hat := h.at'
  have hpn := h.le
  have u4 : bc_u (bc_u μ 0 4 (nI p)) 0 4 (nI p) = bc_u μ 0 4 (nI p) := u_uu
  refine bc_aload_n dX10_rowOf_0 rfl ?_
  refine bc_ldcS (tx := "quarter") (k := 5) dX10_rowOf_1 (by decide) ?_
  refine bc_callV (z := mX10_standsHere) (ci := 10) dX10_rowOf_3 lX10_214 qX10_standsHere (by rfl) (by rfl) (by rfl) (by rfl) (Nat.le_of_ble_eq_true rfl) (t_standsHere (K := 5) (by decide) (by decide) h) (fun r3 μ3 e3 => ?_)
  obtain ⟨rfl, q3⟩ := e3
  obtain rfl := q3.symm
  refine bc_if_eq (tgt := 11) dX10_rowOf_6 (by decide) (fun h6 => ?_) (fun h6 => ?_)
  · refine bc_aload_n dX10_rowOf_11 rfl ?_
    refine bc_ldcS (tx := "mooring") (k := 6) dX10_rowOf_12 (by decide) ?_
    refine bc_callV (z := mX10_standsHere) (ci := 10) dX10_rowOf_14 lX10_214 qX10_standsHere (by rfl) (by rfl) (by rfl) (by rfl) (Nat.le_of_ble_eq_true rfl) (t_standsHere (K := 6) (by decide) (by decide) hat) (fun r14 μ14 e14 => ?_)
    obtain ⟨rfl, q14⟩ := e14
    obtain rfl := q14.symm
    rw [u4]
    refine bc_if_eq (tgt := 22) dX10_rowOf_17 (by decide) (fun h17 => ?_) (fun h17 => ?_)
    · refine bc_aload_n dX10_rowOf_22 rfl ?_
      refine bc_callV (z := mX10_word) (ci := 10) dX10_rowOf_23 lX10_219 qX10_word (by rfl) (by rfl) (by rfl) (by rfl) (Nat.le_of_ble_eq_true rfl) (t_word hat) (fun r23 μ23 e23 => ?_)
      obtain ⟨rfl, q23⟩ := e23
      obtain rfl := q23.symm
      rw [u4]
      refine bc_istore_n dX10_rowOf_26 (by decide) rfl ?_
      refine bc_iload_n dX10_rowOf_27 rfl ?_
      refine bc_ldcS (tx := "oven") (k := 7) dX10_rowOf_28 (by decide) ?_
      refine bc_callS (z := mX10_of) dX10_rowOf_30 lX10_223 qX10_of (by rfl) (by rfl) (Nat.le_of_ble_eq_true rfl) (t_of (K := 7) (by decide) (by decide)) (fun r30 μ30 e30 => ?_)
      obtain ⟨rfl, q30⟩ := e30
      obtain rfl := q30.symm
      refine bc_icmp_ne (tgt := 40) dX10_rowOf_33 (by decide) (fun h33 => ?_) (fun h33 => ?_)
      · refine bc_iload_n dX10_rowOf_40 rfl ?_
        refine bc_ldcS (tx := "reed") (k := 8) dX10_rowOf_41 (by decide) ?_
        refine bc_callS (z := mX10_of) dX10_rowOf_43 lX10_223 qX10_of (by rfl) (by rfl) (Nat.le_of_ble_eq_true rfl) (t_of (K := 8) (by decide) (by decide)) (fun r43 μ43 e43 => ?_)
        obtain ⟨rfl, q43⟩ := e43
        obtain rfl := q43.symm
        refine bc_icmp_ne (tgt := 53) dX10_rowOf_46 (by decide) (fun h46 => ?_) (fun h46 => ?_)
        · refine bc_iload_n dX10_rowOf_53 rfl ?_
          refine bc_ldcS (tx := "city") (k := 9) dX10_rowOf_54 (by decide) ?_
          refine bc_callS (z := mX10_of) dX10_rowOf_56 lX10_223 qX10_of (by rfl) (by rfl) (Nat.le_of_ble_eq_true rfl) (t_of (K := 9) (by decide) (by decide)) (fun r56 μ56 e56 => ?_)
          obtain ⟨rfl, q56⟩ := e56
          obtain rfl := q56.symm
          refine bc_icmp_ne (tgt := 66) dX10_rowOf_59 (by decide) (fun h59 => ?_) (fun h59 => ?_)
          · refine bc_iload_n dX10_rowOf_66 rfl ?_
            refine bc_ldcS (tx := "flour") (k := 10) dX10_rowOf_67 (by decide) ?_
            refine bc_callS (z := mX10_of) dX10_rowOf_69 lX10_223 qX10_of (by rfl) (by rfl) (Nat.le_of_ble_eq_true rfl) (t_of (K := 10) (by decide) (by decide)) (fun r69 μ69 e69 => ?_)
            obtain ⟨rfl, q69⟩ := e69
            obtain rfl := q69.symm
            refine bc_icmp_ne (tgt := 79) dX10_rowOf_72 (by decide) (fun h72 => ?_) (fun h72 => ?_)
            · refine bc_iconst (v := (-1)) dX10_rowOf_79 (by decide) ?_
              exact bc_ireturn dX10_rowOf_80 rfl rfl (⟨by
rw [wV_no]
intro q
simp only [bw, List.mem_cons, List.not_mem_nil, or_false] at q
rcases q with q | q | q | q | q | q
· exact ite0.mp h6 q
· exact h33 ((wc_iff (by decide) (by decide) hpn).mpr q)
· exact h46 ((wc_iff (by decide) (by decide) hpn).mpr q)
· exact ite0.mp h17 q
· exact h59 ((wc_iff (by decide) (by decide) hpn).mpr q)
· exact h72 ((wc_iff (by decide) (by decide) hpn).mpr q), rfl⟩)
            · refine bc_iconst (v := 5) dX10_rowOf_75 (by decide) ?_
              refine bc_goto (tgt := 80) dX10_rowOf_76 (by decide) ?_
              exact bc_ireturn dX10_rowOf_80 rfl rfl (⟨by rw [(wc_iff (by decide) (by decide) hpn).mp h72]; rfl, rfl⟩)
          · refine bc_iconst (v := 4) dX10_rowOf_62 (by decide) ?_
            refine bc_goto (tgt := 80) dX10_rowOf_63 (by decide) ?_
            exact bc_ireturn dX10_rowOf_80 rfl rfl (⟨by rw [(wc_iff (by decide) (by decide) hpn).mp h59]; rfl, rfl⟩)
        · refine bc_iconst (v := 2) dX10_rowOf_49 (by decide) ?_
          refine bc_goto (tgt := 80) dX10_rowOf_50 (by decide) ?_
          exact bc_ireturn dX10_rowOf_80 rfl rfl (⟨by rw [(wc_iff (by decide) (by decide) hpn).mp h46]; rfl, rfl⟩)
      · refine bc_iconst (v := 1) dX10_rowOf_36 (by decide) ?_
        refine bc_goto (tgt := 80) dX10_rowOf_37 (by decide) ?_
        exact bc_ireturn dX10_rowOf_80 rfl rfl (⟨by rw [(wc_iff (by decide) (by decide) hpn).mp h33]; rfl, rfl⟩)
    · refine bc_iconst (v := 3) dX10_rowOf_20 (by decide) ?_
      exact bc_ireturn dX10_rowOf_21 rfl rfl (⟨by rw [show wd t n p = bc_byt.getD 6 [] from Decidable.not_not.mp (fun q => h17 (ite0.mpr q))]; rfl, rfl⟩)
  · refine bc_iconst (v := 0) dX10_rowOf_9 (by decide) ?_
    exact bc_ireturn dX10_rowOf_10 rfl rfl (⟨by rw [show wd t n p = bc_byt.getD 5 [] from Decidable.not_not.mp (fun q => h6 (ite0.mpr q))]; rfl, rfl⟩)
end T73
