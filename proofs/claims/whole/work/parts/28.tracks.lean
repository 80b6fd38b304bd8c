/-! BreadCity$Tracks: where the city would lie, by sets of ovens -/
def ush (x : Int32) (n : Int32) : Int32 := (x.toUInt32 >>> (n.toUInt32 &&& Int32.toUInt32 31)).toInt32
def bcnt (x : Int32) : Int32 :=
  let a := x - (ush x 1 &&& 1431655765)
  let b := (a &&& 858993459) + (ush a 2 &&& 858993459)
  let c := (b + ush b 4) &&& 252645135
  let e := c + ush c 8
  let f := e + ush e 16
  f &&& 63
theorem s_bitCount {d : Nat} {L : bc_L} {μ : bc_M} (x : Int32) : bc_C d L mJ6_bitCount_0f7a4 [.int x] μ (fun r μ' => r = some (.int (bcnt x)) ∧ μ' = μ) := by
  refine bc_enter (by decide) (Nat.le_of_ble_eq_true rfl) rfl ?_
  refine bc_iload_n dJ6_bitCount_0f7a4_0 rfl ?_
  refine bc_iload_n dJ6_bitCount_0f7a4_1 rfl ?_
  refine bc_iconst (v := 1) dJ6_bitCount_0f7a4_2 (by decide) ?_
  refine bc_iushr dJ6_bitCount_0f7a4_3 rfl ?_
  refine bc_ldc_w dJ6_bitCount_0f7a4_4 nJ6_265 ?_
  refine bc_iand dJ6_bitCount_0f7a4_7 ?_
  refine bc_isub dJ6_bitCount_0f7a4_8 ?_
  refine bc_istore_n dJ6_bitCount_0f7a4_9 (by decide) rfl ?_
  refine bc_iload_n dJ6_bitCount_0f7a4_10 rfl ?_
  refine bc_ldc_w dJ6_bitCount_0f7a4_11 nJ6_266 ?_
  refine bc_iand dJ6_bitCount_0f7a4_14 ?_
  refine bc_iload_n dJ6_bitCount_0f7a4_15 rfl ?_
  refine bc_iconst (v := 2) dJ6_bitCount_0f7a4_16 (by decide) ?_
  refine bc_iushr dJ6_bitCount_0f7a4_17 rfl ?_
  refine bc_ldc_w dJ6_bitCount_0f7a4_18 nJ6_266 ?_
  refine bc_iand dJ6_bitCount_0f7a4_21 ?_
  refine bc_iadd dJ6_bitCount_0f7a4_22 ?_
  refine bc_istore_n dJ6_bitCount_0f7a4_23 (by decide) rfl ?_
  refine bc_iload_n dJ6_bitCount_0f7a4_24 rfl ?_
  refine bc_iload_n dJ6_bitCount_0f7a4_25 rfl ?_
  refine bc_iconst (v := 4) dJ6_bitCount_0f7a4_26 (by decide) ?_
  refine bc_iushr dJ6_bitCount_0f7a4_27 rfl ?_
  refine bc_iadd dJ6_bitCount_0f7a4_28 ?_
  refine bc_ldc_w dJ6_bitCount_0f7a4_29 nJ6_267 ?_
  refine bc_iand dJ6_bitCount_0f7a4_32 ?_
  refine bc_istore_n dJ6_bitCount_0f7a4_33 (by decide) rfl ?_
  refine bc_iload_n dJ6_bitCount_0f7a4_34 rfl ?_
  refine bc_iload_n dJ6_bitCount_0f7a4_35 rfl ?_
  refine bc_bipush (v := 8) dJ6_bitCount_0f7a4_36 (by decide) ?_
  refine bc_iushr dJ6_bitCount_0f7a4_38 rfl ?_
  refine bc_iadd dJ6_bitCount_0f7a4_39 ?_
  refine bc_istore_n dJ6_bitCount_0f7a4_40 (by decide) rfl ?_
  refine bc_iload_n dJ6_bitCount_0f7a4_41 rfl ?_
  refine bc_iload_n dJ6_bitCount_0f7a4_42 rfl ?_
  refine bc_bipush (v := 16) dJ6_bitCount_0f7a4_43 (by decide) ?_
  refine bc_iushr dJ6_bitCount_0f7a4_45 rfl ?_
  refine bc_iadd dJ6_bitCount_0f7a4_46 ?_
  refine bc_istore_n dJ6_bitCount_0f7a4_47 (by decide) rfl ?_
  refine bc_iload_n dJ6_bitCount_0f7a4_48 rfl ?_
  refine bc_bipush (v := 63) dJ6_bitCount_0f7a4_49 (by decide) ?_
  refine bc_iand dJ6_bitCount_0f7a4_51 ?_
  exact bc_ireturn dJ6_bitCount_0f7a4_52 rfl rfl (⟨rfl, rfl⟩)
/-- how many of the low 8 bits are set -/
def pop8 (k : Nat) : Nat := k % 2 + k / 2 % 2 + k / 4 % 2 + k / 8 % 2 + k / 16 % 2 + k / 32 % 2 + k / 64 % 2 + k / 128 % 2
theorem bcnt_pop : ∀ k, k < 256 → bcnt (nI k) = nI (pop8 k) := by decide +kernel
theorem ovs : ∀ n, n ≤ 8 → (1 : Int32) <<< (nI n &&& 31) = nI (2 ^ n) ∧ 2 ^ n ≤ 256 := by decide +kernel
/-- a set that is offered: none of its ovens is lit, there is flour for it -/
def offP (μ : bc_M) (s : Int32) : Prop := s &&& (μ 117 8 ^^^ -1) = 0 ∧ bcnt s ≤ μ 31 5
theorem s_isOffered {d : Nat} {μ : bc_M} (s : Int32) : bc_C (d + 1) LC mX8_isOffered [.ref 117, .int s] μ (fun r ν => ((offP μ s ∧ r = some (.int 1)) ∨ (¬ offP μ s ∧ r = some (.int 0))) ∧ ν = μ) := by
  refine bc_enter (by decide) (Nat.le_of_ble_eq_true rfl) rfl ?_
  refine bc_iload_n dX8_isOffered_0 rfl ?_
  refine bc_aload_n dX8_isOffered_1 rfl ?_
  refine bc_geti dX8_isOffered_2 fX8_49 (rfl) rfl ?_
  refine bc_iconst (v := (-1)) dX8_isOffered_5 (by decide) ?_
  refine bc_ixor dX8_isOffered_6 ?_
  refine bc_iand dX8_isOffered_7 ?_
  refine bc_if_ne (tgt := 29) dX8_isOffered_8 (by decide) (fun h8 => ?_) (fun h8 => ?_)
  · refine bc_iconst (v := 0) dX8_isOffered_29 (by decide) ?_
    exact bc_ireturn dX8_isOffered_30 rfl rfl (⟨Or.inr ⟨fun q => h8 q.1, rfl⟩, rfl⟩)
  · refine bc_iload_n dX8_isOffered_11 rfl ?_
    refine bc_callS (z := mJ6_bitCount_0f7a4) dX8_isOffered_12 lX8_101 qJ6_bitCount_0f7a4 (by rfl) (by rfl) (Nat.le_of_ble_eq_true rfl) (s_bitCount s) (fun r12 μ12 e12 => ?_)
    obtain ⟨rfl, q12⟩ := e12
    obtain rfl := q12.symm
    refine bc_aload_n dX8_isOffered_15 rfl ?_
    refine bc_getr dX8_isOffered_16 fX8_32 (rfl) rfl ?_
    refine bc_geti dX8_isOffered_19 fX8_106 (rfl) rfl ?_
    refine bc_icmp_gt (tgt := 29) dX8_isOffered_22 (by decide) (fun h22 => ?_) (fun h22 => ?_)
    · refine bc_iconst (v := 0) dX8_isOffered_29 (by decide) ?_
      exact bc_ireturn dX8_isOffered_30 rfl rfl (⟨Or.inr ⟨fun q => absurd q.2 (by rw [bn_le]; have q : μ 31 5 < bcnt s := h22; rw [bn_lt] at q; omega), rfl⟩, rfl⟩)
    · refine bc_iconst (v := 1) dX8_isOffered_25 (by decide) ?_
      refine bc_goto (tgt := 30) dX8_isOffered_26 (by decide) ?_
      exact bc_ireturn dX8_isOffered_30 rfl rfl (⟨Or.inl ⟨⟨h8, bn_nlt h22⟩, rfl⟩, rfl⟩)
theorem s_tput {d : Nat} {μ : bc_M} {h s : Nat} (hh : h < 13) (hs : s < 256) (v : Int32) : bc_C d LC mX8_put [.ref 117, .int (nI h), .int (nI s), .int v] μ (fun r ν => r = none ∧ ν = bc_u μ (119 + h) s v) := by
  refine bc_enter (by decide) (Nat.le_of_ble_eq_true rfl) rfl ?_
  refine bc_iload_n dX8_put_0 rfl ?_
  refine bc_if_lt (tgt := 37) dX8_put_1 (by decide) (fun h1 => absurd h1 (bn_nn (by omega))) (fun h1 => ?_)
  refine bc_iload_n dX8_put_4 rfl ?_
  refine bc_aload_n dX8_put_5 rfl ?_
  refine bc_getr dX8_put_6 fX8_11 (rfl) rfl ?_
  refine bc_len4 dX8_put_9 (rfl) ?_
  refine bc_icmp_ge (tgt := 37) dX8_put_10 (by decide) (fun h10 => absurd h10 (by rw [bn_leN (by omega) (by omega)]; omega)) (fun h10 => ?_)
  refine bc_iload_n dX8_put_13 rfl ?_
  refine bc_if_lt (tgt := 37) dX8_put_14 (by decide) (fun h14 => absurd h14 (bn_nn (by omega))) (fun h14 => ?_)
  refine bc_iload_n dX8_put_17 rfl ?_
  refine bc_aload_n dX8_put_18 rfl ?_
  refine bc_getr dX8_put_19 fX8_11 (rfl) rfl ?_
  refine bc_iload_n dX8_put_22 rfl ?_
  refine bc_aaldE dX8_put_23 (rfl) (rfl) (⟨hh, by decide⟩) (LC_g118 h hh) ?_
  refine bc_len0 dX8_put_24 (LC_r118 h hh) ?_
  refine bc_icmp_ge (tgt := 37) dX8_put_25 (by decide) (fun h25 => absurd h25 (by rw [bn_leN (by omega) (by omega)]; omega)) (fun h25 => ?_)
  refine bc_aload_n dX8_put_28 rfl ?_
  refine bc_getr dX8_put_29 fX8_11 (rfl) rfl ?_
  refine bc_iload_n dX8_put_32 rfl ?_
  refine bc_aaldE dX8_put_33 (rfl) (rfl) (⟨hh, by decide⟩) (LC_g118 h hh) ?_
  refine bc_iload_n dX8_put_34 rfl ?_
  refine bc_iload_n dX8_put_35 rfl ?_
  refine bc_iastE dX8_put_36 (LC_r118 h hh) (rfl) (⟨hs, by decide⟩) ?_
  exact bc_return dX8_put_37 rfl (⟨rfl, rfl⟩)
theorem s_cellAt {d : Nat} {μ : bc_M} {h s : Nat} (hh : h < 13) (hs : s < 256) : bc_C (d + 1) LC mX8_cellAt [.ref 117, .int (nI h), .int (nI s)] μ (fun r ν => r = some (.int (μ (119 + h) s)) ∧ ν = μ) := by
  refine bc_enter (by decide) (Nat.le_of_ble_eq_true rfl) rfl ?_
  refine bc_iload_n dX8_cellAt_0 rfl ?_
  refine bc_if_lt (tgt := 26) dX8_cellAt_1 (by decide) (fun h1 => absurd h1 (bn_nn (by omega))) (fun h1 => ?_)
  refine bc_iload_n dX8_cellAt_4 rfl ?_
  refine bc_aload_n dX8_cellAt_5 rfl ?_
  refine bc_getr dX8_cellAt_6 fX8_11 (rfl) rfl ?_
  refine bc_len4 dX8_cellAt_9 (rfl) ?_
  refine bc_icmp_ge (tgt := 26) dX8_cellAt_10 (by decide) (fun h10 => absurd h10 (by rw [bn_leN (by omega) (by omega)]; omega)) (fun h10 => ?_)
  refine bc_aload_n dX8_cellAt_13 rfl ?_
  refine bc_getr dX8_cellAt_14 fX8_11 (rfl) rfl ?_
  refine bc_iload_n dX8_cellAt_17 rfl ?_
  refine bc_aaldE dX8_cellAt_18 (rfl) (rfl) (⟨hh, by decide⟩) (LC_g118 h hh) ?_
  refine bc_iload_n dX8_cellAt_19 rfl ?_
  refine bc_callSN (z := mX9_entry) dX8_cellAt_20 lX8_109 qX9_entry (by rfl) (by rfl) (Nat.le_of_ble_eq_true rfl) (s_entryN (LC_r118 h hh) (by decide) hs) (fun r20 μ20 e20 => ?_)
  obtain ⟨rfl, q20⟩ := e20
  obtain rfl := q20.symm
  refine bc_goto (tgt := 27) dX8_cellAt_23 (by decide) ?_
  exact bc_ireturn dX8_cellAt_27 rfl rfl (⟨rfl, rfl⟩)
theorem s_tforget {d : Nat} {μ : bc_M} : bc_C d LC mX8_forget [.ref 117] μ (fun r ν => r = none ∧ ν = bc_u μ 117 7 0) := by
  refine bc_enter (by decide) (Nat.le_of_ble_eq_true rfl) rfl ?_
  refine bc_aload_n dX8_forget_0 rfl ?_
  refine bc_iconst (v := 0) dX8_forget_1 (by decide) ?_
  refine bc_put dX8_forget_2 fX8_39 ftX8 fpX8_7 rfl rfl (rfl) rfl ?_
  exact bc_return dX8_forget_5 rfl (⟨rfl, rfl⟩)
/-! positions alone -/
def rng (p : Int32 × Int32) : Prop := ∃ a b, a ≤ 30 ∧ b ≤ 30 ∧ p = (nI a, nI b)
def cel (p : Int32 × Int32) : Int32 := p.1 * 31 + p.2
def xy2 (s : Int32 × Int32 × Int32) : Int32 × Int32 := (s.1, s.2.1)
def mv2 (O : Int32 → Int32 → Bool) (e n : Int32) (p : Int32 × Int32) : Int32 × Int32 := xy2 (mvM O e n (p.1, p.2, 0))
theorem goM_xy (O : Int32 → Int32 → Bool) (wx wy : Int32) : ∀ (m : Nat) (s t : Int32 × Int32 × Int32), xy2 s = xy2 t → xy2 (goM O wx wy m s) = xy2 (goM O wx wy m t)
  | 0, _, _, h => h
  | m + 1, s, t, h => by
    have h' : (s.1, s.2.1) = (t.1, t.2.1) := h
    have h1 : s.1 = t.1 := (Prod.mk.inj h').1
    have h2 : s.2.1 = t.2.1 := (Prod.mk.inj h').2
    unfold goM
    rw [h1, h2]
    split
    · exact goM_xy O wx wy m _ _ rfl
    · rfl
theorem mvM_xy (O : Int32 → Int32 → Bool) (e n : Int32) (s : Int32 × Int32 × Int32) : xy2 (mvM O e n s) = mv2 O e n (xy2 s) := by
  unfold mv2 mvM
  exact goM_xy O _ _ _ _ _ (goM_xy O _ _ _ _ _ rfl)
theorem opB_rng {μ : bc_M} {x y : Int32} (h : opB μ x y = true) : rng (x, y) := by
  unfold opB at h
  rw [decide_eq_true_iff] at h
  obtain ⟨h1, h2, h3, h4, -⟩ := h
  obtain ⟨a, ha, ea⟩ := nI_of2 (x := x) (M := 30) (n := 30) rfl (by rw [bn_lt]; rw [bn_le] at h1; omega) h2
  obtain ⟨b, hb, eb⟩ := nI_of2 (x := y) (M := 30) (n := 30) rfl (by rw [bn_lt]; rw [bn_le] at h3; omega) h4
  exact ⟨a, b, ha, hb, by rw [ea, eb]⟩
theorem goM_rng {μ : bc_M} (wx wy : Int32) : ∀ (m : Nat) (s : Int32 × Int32 × Int32), rng (xy2 s) → rng (xy2 (goM (opB μ) wx wy m s))
  | 0, _, h => h
  | m + 1, s, h => by
    unfold goM
    split
    · rename_i h1; exact goM_rng wx wy m _ (opB_rng h1)
    · exact h
theorem mv2_rng {μ : bc_M} (e n : Int32) {p : Int32 × Int32} (h : rng p) : rng (mv2 (opB μ) e n p) := goM_rng _ _ _ _ (goM_rng _ _ _ _ h)
theorem cel_xy {p : Int32 × Int32} (h : rng p) : cel p / 31 = p.1 ∧ cel p - cel p / 31 * 31 = p.2 := by
  obtain ⟨a, b, ha, hb, rfl⟩ := h
  have e : cel (nI a, nI b) = nI (a * 31 + b) := by
    unfold cel
    rw [show (31 : Int32) = nI 31 from rfl, bn_mul, bn_add]
  rw [e, show (31 : Int32) = nI 31 from rfl, pk_div (by omega) (by decide) (by decide)]
  refine ⟨by congr 1; omega, ?_⟩
  rw [← pk_div (a := a * 31 + b) (by omega) (by decide) (by decide), pk_rem (by omega) (by decide) (by decide)]
  congr 1
  omega
/-! what may change by a reckoning of tracks: the trial, the tracks -/
def tkc (i k : Nat) : Prop := i = 22 ∨ i = 23 ∨ (38 ≤ i ∧ i ≤ 44) ∨ (119 ≤ i ∧ i ≤ 131) ∨ (i = 117 ∧ (k = 7 ∨ k = 8))
def tS (μ ν : bc_M) : Prop := ∀ i k, ¬ tkc i k → ν i k = μ i k
theorem tS.rf (μ : bc_M) : tS μ μ := fun _ _ _ => rfl
theorem tS.tr {μ ν ξ : bc_M} (h : tS μ ν) (h2 : tS ν ξ) : tS μ ξ := fun i k q => (h2 i k q).trans (h i k q)
theorem tS.u {μ ν : bc_M} (h : tS μ ν) {i k : Nat} (v : Int32) (hs : tkc i k) : tS μ (bc_u ν i k v) := by
  intro a b hn
  rw [bc_u_r, if_neg (fun q => hn (by rw [q.1, q.2]; exact hs))]
  exact h a b hn
theorem tS.okB {μ ν : bc_M} {n no nq : Nat} (h : tS μ ν) (hB : okB μ n no nq) : okB ν n no nq := by
  obtain ⟨⟨a1, a2, a3⟩, ⟨b1, b2, b3⟩, c1, c2⟩ := hB
  have e20 : ν 20 = μ 20 := funext fun q => h 20 q (by unfold tkc; omega)
  refine ⟨⟨(h 3 1 (by unfold tkc; omega)).trans a1, a2, fun o ho => ?_⟩, ⟨(h 3 0 (by unfold tkc; omega)).trans b1, b2, fun q hq => ?_⟩, (h 19 1 (by unfold tkc; omega)).trans c1, by rw [e20]; exact c2⟩
  · obtain ⟨j, hj, e⟩ := a3 o ho
    exact ⟨j, hj, (h 6 o (by unfold tkc; omega)).trans e⟩
  · obtain ⟨j, hj, e⟩ := b3 q hq
    exact ⟨j, hj, (h 4 q (by unfold tkc; omega)).trans e⟩
/-- the trial leans as the city does -/
def trE (μ ν : bc_M) : Prop := ν 38 7 = μ 31 7 ∧ ∀ j, j < 6 → ν 41 j = μ 34 j
theorem mS_tr {μ ν : bc_M} (h : tS μ ν) (he : trE μ ν) (n no : Nat) (lit H : Int32) (j q : Nat) (hq : q ≤ 6) : mS ν 38 n no lit H j q = mS μ 31 n no lit H j q := by
  induction q with
  | zero => simp only [mS, sm]
  | succ q ih =>
    have ih := ih (by omega)
    have g20 : ν 20 = μ 20 := funext fun q => h 20 q (by unfold tkc; omega)
    have g6 : ν 6 = μ 6 := funext fun q => h 6 q (by unfold tkc; omega)
    have g7 : ν 7 = μ 7 := funext fun q => h 7 q (by unfold tkc; omega)
    have g5 : ν 5 q = μ 5 q := h 5 q (by unfold tkc; omega)
    have g4 : ν 4 q = μ 4 q := h 4 q (by unfold tkc; omega)
    have gL : mL ν 38 n no lit H q = mL μ 31 n no lit H q := by
      unfold mL
      rw [g20, g6, g7, g5, g4, he.1, show ν (38 + 3) q = μ (31 + 3) q from he.2 q (by omega)]
    unfold mS at ih ⊢
    unfold sm
    dsimp only
    rw [ih, gL, g4]
theorem opB_u (μ : bc_M) {i : Nat} (h : i ≠ 10) (k : Nat) (v : Int32) : opB (bc_u μ i k v) = opB μ := by
  funext x y
  unfold opB en
  rw [bc_u_ne μ k v (fun q => h q.symm)]
theorem ea_tr {μ ν : bc_M} (h : tS μ ν) (he : trE μ ν) (n no : Nat) {nq : Nat} (hq : nq ≤ 6) (lit H : Int32) : eaM ν 38 n no nq lit H = eaM μ 31 n no nq lit H ∧ noM ν 38 n no nq lit H = noM μ 31 n no nq lit H := by
  unfold eaM noM
  rw [mS_tr h he n no lit H 1 nq hq, mS_tr h he n no lit H 3 nq hq, mS_tr h he n no lit H 0 nq hq, mS_tr h he n no lit H 2 nq hq]
  exact ⟨rfl, rfl⟩
theorem tS.op {μ ν : bc_M} (h : tS μ ν) : opB ν = opB μ := by
  funext x y
  unfold opB en
  rw [h 10 _ (by unfold tkc; omega)]
/-- which ovens are lit in the h-th hour, were the set s lit now -/
def litH (μ : bc_M) (no h s : Nat) : Int32 := lbM (μ 32) (nI h) no ||| (if h < 4 then nI s else 0)
def stp (μ : bc_M) (n no nq h s : Nat) (p : Int32 × Int32) : Int32 × Int32 := mv2 (opB μ) (eaM μ 31 n no nq (litH μ no h s) (μ 31 4 + nI h)) (noM μ 31 n no nq (litH μ no h s) (μ 31 4 + nI h)) p
def trP (μ : bc_M) (n no nq : Nat) : Nat → Nat → Int32 × Int32
  | 0, _ => (μ 31 2, μ 31 3)
  | h + 1, s => stp μ n no nq h s (trP μ n no nq h s)
theorem trP_rng {μ : bc_M} {n no nq : Nat} (h0 : rng (μ 31 2, μ 31 3)) (s : Nat) : ∀ h, rng (trP μ n no nq h s)
  | 0 => h0
  | h + 1 => mv2_rng _ _ (trP_rng h0 s h)
theorem b_31 {k : Nat} (hk : k < 256) : bt (nI k) 31 = false := (by decide +kernel : ∀ k, k < 256 → bt (nI k) 31 = false) k hk
theorem litH_ne {μ : bc_M} {no h s : Nat} (hno : no ≤ 8) (hs : s < 256) : ¬ litH μ no h s = -1 := by
  intro e
  have h1 : bt (litH μ no h s) 31 = true := by rw [e]; exact b_m1 31 (by decide)
  unfold litH at h1
  rw [b_or, lbM_bt _ _ _ (by omega) 31 (by decide)] at h1
  have h2 : ¬ 31 < no := by omega
  by_cases h4 : h < 4
  · simp [h2, h4, b_31 hs] at h1
  · simp [h2, h4, b_0] at h1
/-- the tracks' row of the hour h is being laid: k sets done -/
def rhI (n no nq h : Nat) (μ ν0 : bc_M) (k : Nat) (lst : Int32) (ξ : bc_M) : Prop := tS μ ξ ∧ trE μ ξ ∧ (∀ j, ξ 117 j = ν0 117 j) ∧ (∀ i j, 119 ≤ i → i ≤ 131 → i ≠ 120 + h → ξ i j = ν0 i j) ∧ (∀ s, s < k → offP ν0 (nI s) → ξ (120 + h) s = cel (trP μ n no nq (h + 1) s)) ∧ (lst = -1 ∨ (ξ 38 15 = eaM μ 31 n no nq lst (μ 31 4 + nI h) ∧ ξ 38 16 = noM μ 31 n no nq lst (μ 31 4 + nI h)))
theorem rhI.off {n no nq h : Nat} {μ ν0 : bc_M} {k : Nat} {lst : Int32} {ξ : bc_M} (hI : rhI n no nq h μ ν0 k lst ξ) (hT : tS μ ν0) (s : Int32) : offP ξ s ↔ offP ν0 s := by
  unfold offP
  rw [hI.2.2.1 8, hI.1 31 5 (by unfold tkc; omega), hT 31 5 (by unfold tkc; omega)]
theorem s_reckonHour {d : Nat} {μ ν0 : bc_M} {n no nq h : Nat} (hh : h < 12) (hB : okB μ n no nq) (h0 : rng (μ 31 2, μ 31 3)) (hT : tS μ ν0) (hE : trE μ ν0) (hrow : ∀ s, s < 2 ^ no → offP ν0 (nI s) → ν0 (119 + h) s = cel (trP μ n no nq h s)) : bc_C (d + 5) LC mX8_reckonHour [.ref 117, .int (nI h)] ν0 (fun r ν => r = none ∧ ∃ lst, rhI n no nq h μ ν0 (2 ^ no) lst ν) := by
  have hno8 : no ≤ 8 := hB.1.2.1
  have hov := ovs no hno8
  have e31 : ν0 3 1 = nI no := (hT 3 1 (by unfold tkc; omega)).trans hB.1.1
  have e32 : ν0 32 = μ 32 := funext fun q => hT 32 q (by unfold tkc; omega)
  refine bc_enter (by decide) (Nat.le_of_ble_eq_true rfl) rfl ?_
  have loop : ∀ (m k : Nat) (lst : Int32) (v w : Value) (ξ : bc_M), k + m = 2 ^ no → v.category = 1 → rhI n no nq h μ ν0 k lst ξ → bc_W (d + 5) LC mX8_reckonHour 14 [.ref 117, .int (nI h), .int (lbM (μ 32) (nI h) no), .int lst, .int (nI k), v, w] [] ξ (fun r ν => r = none ∧ ∃ lst, rhI n no nq h μ ν0 (2 ^ no) lst ν) := by
    intro m
    induction m with
    | zero =>
      intro k lst v w ξ hk hv hI
      have hk : k = 2 ^ no := by omega
      subst hk
      have e1 : ξ 3 1 = nI no := (hI.1 3 1 (by unfold tkc; omega)).trans hB.1.1
      refine bc_iload dX8_reckonHour_14 rfl ?_
      refine bc_aload_n dX8_reckonHour_16 rfl ?_
      refine bc_getr dX8_reckonHour_17 fX8_24 (rfl) rfl ?_
      refine bc_callV (z := mX0_ovenSets) (ci := 0) dX8_reckonHour_20 lX8_57 qX0_ovenSets (by rfl) (by rfl) (by rfl) (by rfl) (Nat.le_of_ble_eq_true rfl) (s_ovenSets LC_b3) (fun r20 μ20 e20 => ?_)
      obtain ⟨rfl, q20⟩ := e20
      obtain rfl := q20.symm
      refine bc_icmp_ge (tgt := 151) dX8_reckonHour_23 (by decide) (fun h23 => ?_) (fun h23 => absurd h23 (fun q => q (by rw [e1, hov.1]; exact Int32.le_refl _)))
      exact bc_return dX8_reckonHour_151 rfl (⟨rfl, lst, hI⟩)
    | succ m ih =>
      intro k lst v w ξ hk hv hI
      have e1 : ξ 3 1 = nI no := (hI.1 3 1 (by unfold tkc; omega)).trans hB.1.1
      have hk256 : k < 256 := by omega
      have rest : ∀ (ξ1 : bc_M) (w : Value), offP ν0 (nI k) → rhI n no nq h μ ν0 k (litH μ no h k) ξ1 → bc_W (d + 5) LC mX8_reckonHour 79 [.ref 117, .int (nI h), .int (lbM (μ 32) (nI h) no), .int (litH μ no h k), .int (nI k), .int (litH μ no h k), w] [] ξ1 (fun r ν => r = none ∧ ∃ lst, rhI n no nq h μ ν0 (2 ^ no) lst ν) := by
        intro ξ1 w hoff hI1
        obtain ⟨i1, i2, i3, i4, i5, i6⟩ := hI1
        have hea := i6.resolve_left (litH_ne hno8 hk256)
        have hcell : ξ1 (119 + h) k = cel (trP μ n no nq h k) := (i4 (119 + h) k (by omega) (by omega) (by omega)).trans (hrow k (by omega) hoff)
        have hxy := cel_xy (trP_rng (n := n) (no := no) (nq := nq) h0 k h)
        refine bc_aload_n dX8_reckonHour_79 rfl ?_
        refine bc_iload_n dX8_reckonHour_80 rfl ?_
        refine bc_iload dX8_reckonHour_81 rfl ?_
        refine bc_callV (z := mX8_cellAt) (ci := 8) dX8_reckonHour_83 lX8_95 qX8_cellAt (by rfl) (by rfl) (by rfl) (by rfl) (Nat.le_of_ble_eq_true rfl) (s_cellAt (by omega) hk256) (fun r83 μ83 e83 => ?_)
        obtain ⟨rfl, q83⟩ := e83
        obtain rfl := q83.symm
        rw [hcell]
        refine bc_istore dX8_reckonHour_86 (by decide) rfl ?_
        refine bc_aload_n dX8_reckonHour_88 rfl ?_
        refine bc_getr dX8_reckonHour_89 fX8_36 (rfl) rfl ?_
        refine bc_iload dX8_reckonHour_92 rfl ?_
        refine bc_bipush (v := 31) dX8_reckonHour_94 (by decide) ?_
        refine bc_idiv dX8_reckonHour_96 (by decide) ?_
        refine bc_put dX8_reckonHour_97 fX8_62 ftX1 fpX1_2 rfl rfl (rfl) rfl ?_
        refine bc_aload_n dX8_reckonHour_100 rfl ?_
        refine bc_getr dX8_reckonHour_101 fX8_36 (rfl) rfl ?_
        refine bc_iload dX8_reckonHour_104 rfl ?_
        refine bc_bipush (v := 31) dX8_reckonHour_106 (by decide) ?_
        refine bc_irem dX8_reckonHour_108 (by decide) ?_
        refine bc_put dX8_reckonHour_109 fX8_65 ftX1 fpX1_3 rfl rfl (rfl) rfl ?_
        refine bc_aload_n dX8_reckonHour_112 rfl ?_
        refine bc_getr dX8_reckonHour_113 fX8_36 (rfl) rfl ?_
        refine bc_callV (z := mX1_move) (ci := 1) dX8_reckonHour_116 lX8_98 qX1_move (by rfl) (by rfl) (by rfl) (by rfl) (Nat.le_of_ble_eq_true rfl) (s_move (Or.inr rfl) (by rw [bc_u_r, if_neg (by omega), bc_u_r, if_neg (by omega), hea.1]; exact pc3_in _) (by rw [bc_u_r, if_neg (by omega), bc_u_r, if_neg (by omega), hea.2]; exact pc3_in _)) (fun r116 μ116 e116 => ?_)
        obtain ⟨rfl, j1, j2⟩ := e116
        refine bc_aload_n dX8_reckonHour_119 rfl ?_
        refine bc_iload_n dX8_reckonHour_120 rfl ?_
        refine bc_iconst (v := 1) dX8_reckonHour_121 (by decide) ?_
        refine bc_iadd dX8_reckonHour_122 ?_
        refine bc_iload dX8_reckonHour_123 rfl ?_
        refine bc_aload_n dX8_reckonHour_125 rfl ?_
        refine bc_getr dX8_reckonHour_126 fX8_36 (rfl) rfl ?_
        refine bc_geti dX8_reckonHour_129 fX8_62 (rfl) rfl ?_
        refine bc_aload_n dX8_reckonHour_132 rfl ?_
        refine bc_getr dX8_reckonHour_133 fX8_36 (rfl) rfl ?_
        refine bc_geti dX8_reckonHour_136 fX8_65 (rfl) rfl ?_
        refine bc_callSN (z := mX9_cellOf) dX8_reckonHour_139 lX8_68 qX9_cellOf (by rfl) (by rfl) (Nat.le_of_ble_eq_true rfl) (s_cellOf _ _) (fun r139 μ139 e139 => ?_)
        obtain ⟨rfl, q139⟩ := e139
        obtain rfl := q139.symm
        rw [bn_add1]
        refine bc_callV (z := mX8_put) (ci := 8) dX8_reckonHour_142 lX8_72 qX8_put (by rfl) (by rfl) (by rfl) (by rfl) (Nat.le_of_ble_eq_true rfl) (s_tput (by omega) hk256 _) (fun r142 μ142 e142 => ?_)
        obtain ⟨rfl, q142⟩ := e142
        obtain rfl := q142.symm
        refine bc_iinc1 dX8_reckonHour_145 rfl (by decide) rfl ?_
        refine bc_goto (tgt := 14) dX8_reckonHour_148 (by decide) ?_
        rw [bn_add1]
        have hx2 : xy2 (xya 38 μ116) = trP μ n no nq (h + 1) k := by
          rw [j2, mvM_xy, show trP μ n no nq (h + 1) k = stp μ n no nq h k (trP μ n no nq h k) from rfl, stp]
          have o1 : opB (bc_u (bc_u ξ1 38 2 (cel (trP μ n no nq h k) / 31)) 38 3 (cel (trP μ n no nq h k) - cel (trP μ n no nq h k) / 31 * 31)) = opB μ := by
            rw [opB_u _ (by decide), opB_u _ (by decide), i1.op]
          rw [o1, bc_u_r, if_neg (by omega), bc_u_r, if_neg (by omega), bc_u_r, if_neg (by omega), bc_u_r, if_neg (by omega), hea.1, hea.2]
          congr 1
          unfold xya xy2
          simp only [bc_u_r]
          rw [if_neg (by omega), if_pos ⟨trivial, trivial⟩, if_pos ⟨trivial, trivial⟩, hxy.2, hxy.1]
        have hcel : μ116 38 2 * 31 + μ116 38 3 = cel (trP μ n no nq (h + 1) k) := by rw [← hx2]; rfl
        rw [hcel]
        have jj : ∀ i j, ¬ (i = 38 ∧ (j = 2 ∨ j = 3 ∨ j = 6)) → μ116 i j = ξ1 i j := fun i j q => (j1 i j q).trans (by rw [bc_u_r, if_neg (by omega), bc_u_r, if_neg (by omega)])
        refine ih (k + 1) (litH μ no h k) (.int (litH μ no h k)) _ _ (by omega) rfl ⟨fun i j q => ?_, ⟨?_, fun j hj => ?_⟩, fun j => ?_, fun i j a1 a2 a3 => ?_, fun s hs ho => ?_, Or.inr ⟨?_, ?_⟩⟩
        · rw [bc_u_r, if_neg (fun e => q (by unfold tkc; omega)), jj i j (fun e => q (by unfold tkc; omega))]; exact i1 i j q
        · rw [bc_u_r, if_neg (by omega), jj 38 7 (by omega)]; exact i2.1
        · rw [bc_u_r, if_neg (by omega), jj 41 j (by omega)]; exact i2.2 j hj
        · rw [bc_u_r, if_neg (by omega), jj 117 j (by omega)]; exact i3 j
        · rw [bc_u_r, if_neg (by omega), jj i j (by omega)]; exact i4 i j a1 a2 a3
        · rw [bc_u_r]
          by_cases e : s = k
          · subst e; rw [if_pos (by omega)]
          · rw [if_neg (by omega), jj _ s (by omega)]; exact i5 s (by omega) ho
        · rw [bc_u_r, if_neg (by omega), jj 38 15 (by omega)]; exact hea.1
        · rw [bc_u_r, if_neg (by omega), jj 38 16 (by omega)]; exact hea.2
      have again : ∀ (w : Value), offP ν0 (nI k) → bc_W (d + 5) LC mX8_reckonHour 53 [.ref 117, .int (nI h), .int (lbM (μ 32) (nI h) no), .int lst, .int (nI k), .int (litH μ no h k), w] [] ξ (fun r ν => r = none ∧ ∃ lst, rhI n no nq h μ ν0 (2 ^ no) lst ν) := by
        intro w hoff
        refine bc_iload dX8_reckonHour_53 rfl ?_
        refine bc_iload_n dX8_reckonHour_55 rfl ?_
        refine bc_icmp_eq (tgt := 79) dX8_reckonHour_56 (by decide) (fun h56 => ?_) (fun h56 => ?_)
        · have e : litH μ no h k = lst := h56
          have h9 := rest ξ w hoff (by rw [e]; exact hI)
          rw [e] at h9 ⊢
          exact h9
        · refine bc_iload dX8_reckonHour_59 rfl ?_
          refine bc_istore_n dX8_reckonHour_61 (by decide) rfl ?_
          refine bc_aload_n dX8_reckonHour_62 rfl ?_
          refine bc_getr dX8_reckonHour_63 fX8_36 (rfl) rfl ?_
          refine bc_iload_n dX8_reckonHour_66 rfl ?_
          refine bc_aload_n dX8_reckonHour_67 rfl ?_
          refine bc_getr dX8_reckonHour_68 fX8_32 (rfl) rfl ?_
          refine bc_geti dX8_reckonHour_71 fX8_88 (rfl) rfl ?_
          refine bc_iload_n dX8_reckonHour_74 rfl ?_
          refine bc_iadd dX8_reckonHour_75 ?_
          refine bc_callV (z := mX1_reckon) (ci := 1) dX8_reckonHour_76 lX8_91 qX1_reckon (by rfl) (by rfl) (by rfl) (by rfl) (Nat.le_of_ble_eq_true rfl) (s_reckon (Or.inr rfl) (hI.1.okB hB).1 (hI.1.okB hB).2.1 (hI.1.okB hB).2.2 _ _) (fun r76 μ76 e76 => ?_)
          obtain ⟨rfl, g1, -, g3, g4⟩ := e76
          have hH : ξ 31 4 = μ 31 4 := hI.1 31 4 (by unfold tkc; omega)
          have het := ea_tr hI.1 hI.2.1 n no hB.2.1.2.1 (litH μ no h k) (μ 31 4 + nI h)
          refine rest μ76 w hoff ⟨fun i j q => (g1 i j (fun e => q (by unfold scr at e; unfold tkc; omega))).trans (hI.1 i j q), ⟨(g1 38 7 (by unfold scr; omega)).trans hI.2.1.1, fun j hj => (g1 41 j (by unfold scr; omega)).trans (hI.2.1.2 j hj)⟩, fun j => (g1 117 j (by unfold scr; omega)).trans (hI.2.2.1 j), fun i j a1 a2 a3 => (g1 i j (by unfold scr; omega)).trans (hI.2.2.2.1 i j a1 a2 a3), fun s hs ho => (g1 _ s (by unfold scr; omega)).trans (hI.2.2.2.2.1 s hs ho), Or.inr ⟨?_, ?_⟩⟩
          · rw [g3, hH]; exact het.1
          · rw [g4, hH]; exact het.2
      refine bc_iload dX8_reckonHour_14 rfl ?_
      refine bc_aload_n dX8_reckonHour_16 rfl ?_
      refine bc_getr dX8_reckonHour_17 fX8_24 (rfl) rfl ?_
      refine bc_callV (z := mX0_ovenSets) (ci := 0) dX8_reckonHour_20 lX8_57 qX0_ovenSets (by rfl) (by rfl) (by rfl) (by rfl) (Nat.le_of_ble_eq_true rfl) (s_ovenSets LC_b3) (fun r20 μ20 e20 => ?_)
      obtain ⟨rfl, q20⟩ := e20
      obtain rfl := q20.symm
      refine bc_icmp_ge (tgt := 151) dX8_reckonHour_23 (by decide) (fun h23 => absurd h23 (by rw [e1, hov.1, bn_leN (by omega) (by omega)]; omega)) (fun h23 => ?_)
      refine bc_aload_n dX8_reckonHour_26 rfl ?_
      refine bc_iload dX8_reckonHour_27 rfl ?_
      refine bc_callV (z := mX8_isOffered) (ci := 8) dX8_reckonHour_29 lX8_84 qX8_isOffered (by rfl) (by rfl) (by rfl) (by rfl) (Nat.le_of_ble_eq_true rfl) (s_isOffered (nI k)) (fun r29 μ29 e29 => ?_)
      obtain ⟨ho, q29⟩ := e29
      obtain rfl := q29.symm
      rcases ho with ⟨ho, rfl⟩ | ⟨ho, rfl⟩
      · have ho := (hI.off hT (nI k)).mp ho
        refine bc_if_ne (tgt := 38) dX8_reckonHour_32 (by decide) (fun h32 => ?_) (fun h32 => absurd h32 (fun q => absurd q (by decide)))
        refine bc_iload_n dX8_reckonHour_38 rfl ?_
        refine bc_iload_n dX8_reckonHour_39 rfl ?_
        refine bc_iconst (v := 4) dX8_reckonHour_40 (by decide) ?_
        refine bc_icmp_ge (tgt := 49) dX8_reckonHour_41 (by decide) (fun h41 => ?_) (fun h41 => ?_)
        · refine bc_iconst (v := 0) dX8_reckonHour_49 (by decide) ?_
          refine bc_ior dX8_reckonHour_50 ?_
          refine bc_istore dX8_reckonHour_51 (by decide) rfl ?_
          have e : litH μ no h k = lbM (μ 32) (nI h) no ||| 0 := by
            unfold litH
            rw [if_neg (by rw [show (4 : Int32) = nI 4 from rfl, bn_leN (by omega) (by omega)] at h41; omega)]
          have h9 := again w ho
          rw [e] at h9
          exact h9
        · refine bc_iload dX8_reckonHour_44 rfl ?_
          refine bc_goto (tgt := 50) dX8_reckonHour_46 (by decide) ?_
          refine bc_ior dX8_reckonHour_50 ?_
          refine bc_istore dX8_reckonHour_51 (by decide) rfl ?_
          have e : litH μ no h k = lbM (μ 32) (nI h) no ||| nI k := by
            unfold litH
            rw [if_pos (by rw [show (4 : Int32) = nI 4 from rfl, bn_leN (by omega) (by omega)] at h41; omega)]
          have h9 := again w ho
          rw [e] at h9
          exact h9
      · have ho : ¬ offP ν0 (nI k) := fun q => ho ((hI.off hT (nI k)).mpr q)
        refine bc_if_ne (tgt := 38) dX8_reckonHour_32 (by decide) (fun h32 => absurd h32 (fun q => q rfl)) (fun h32 => ?_)
        refine bc_goto (tgt := 145) dX8_reckonHour_35 (by decide) ?_
        refine bc_iinc1 dX8_reckonHour_145 rfl (by decide) rfl ?_
        refine bc_goto (tgt := 14) dX8_reckonHour_148 (by decide) ?_
        rw [bn_add1]
        exact ih (k + 1) lst v w ξ (by omega) hv ⟨hI.1, hI.2.1, hI.2.2.1, hI.2.2.2.1, fun s hs hof => by
          by_cases e : s = k
          · subst e; exact absurd hof ho
          · exact hI.2.2.2.2.1 s (by omega) hof, hI.2.2.2.2.2⟩
  refine bc_aload_n dX8_reckonHour_0 rfl ?_
  refine bc_getr dX8_reckonHour_1 fX8_32 (rfl) rfl ?_
  refine bc_iload_n dX8_reckonHour_4 rfl ?_
  refine bc_callV (z := mX1_litBits) (ci := 1) dX8_reckonHour_5 lX8_80 qX1_litBits (by rfl) (by rfl) (by rfl) (by rfl) (Nat.le_of_ble_eq_true rfl) (s_litBits (Or.inl rfl) e31 hno8 (nI h)) (fun r5 μ5 e5 => ?_)
  obtain ⟨rfl, q5⟩ := e5
  obtain rfl := q5.symm
  rw [show ν0 (31 + 1) = μ 32 from e32]
  refine bc_istore_n dX8_reckonHour_8 (by decide) rfl ?_
  refine bc_iconst (v := (-1)) dX8_reckonHour_9 (by decide) ?_
  refine bc_istore_n dX8_reckonHour_10 (by decide) rfl ?_
  refine bc_iconst (v := 0) dX8_reckonHour_11 (by decide) ?_
  refine bc_istore dX8_reckonHour_12 (by decide) rfl ?_
  exact loop (2 ^ no) 0 (-1) .null .null ν0 (by omega) rfl ⟨hT, hE, fun _ => rfl, fun _ _ _ _ _ => rfl, fun s hs => absurd hs (by omega), Or.inl rfl⟩
