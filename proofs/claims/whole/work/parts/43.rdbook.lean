/-! BreadCity$Lines: the book -/
section RDK
variable {d : Nat} {μ μ0 : bc_M} {n a k : Nat} {f q : Int32}
abbrev BK : Type := Nat × (Nat → Int32)
def bkC (x y : Nat) : Int32 := nI x * 31 + nI y
/-- behind the hour of a line that began at p -/
def sLn (p : Nat) (B : BK) (z : TS × Nat) : TS := if 6 ≤ B.1 then sAcc 3 p (match z.1 with | .inl f => .inl f | .inr x => if B.2 z.2 = -1 then .inr x else .inl (2, p)) else (match z.1 with | .inl f => .inl f | .inr x => if B.2 z.2 = -1 then .inr x else .inl (2, p))
def pLn (t : Nat → Int32) (n p : Nat) (B : BK) : TS × BK := ((sTwo t n 0 31 0 31 (sLn p B (sNum t n 1 13 (.inr p)))).1, B.1 + 1, upd B.2 (sNum t n 1 13 (.inr p)).2 (bkC (sTwo t n 0 31 0 31 (sLn p B (sNum t n 1 13 (.inr p)))).2.1 (sTwo t n 0 31 0 31 (sLn p B (sNum t n 1 13 (.inr p)))).2.2))
def pBk (t : Nat → Int32) (n : Nat) : Nat → TS × BK → TS × BK
  | 0, s => s
  | _ + 1, (.inl f, B) => (.inl f, B)
  | m + 1, (.inr p, B) => if p < n then pBk t n m (sNeed t n 59 (pLn t n p B).1, (pLn t n p B).2) else (.inr p, B)
def bk0 : BK := (0, fun _ => -1)
def kR (μ : bc_M) (B : BK) : Prop := μ 28 3 = nI B.1 ∧ ∀ h, h < 13 → μ 30 h = B.2 h
def fr28 (μ μ' : bc_M) : Prop := (∀ i, i ≠ 28 → i ≠ 30 → μ' i = μ i) ∧ ∀ j, j ≠ 3 → μ' 28 j = μ 28 j
theorem fr28.refl (μ : bc_M) : fr28 μ μ := ⟨fun _ _ _ => rfl, fun _ _ => rfl⟩
theorem fr28.trans {μ μ' μ'' : bc_M} (h : fr28 μ μ') (h' : fr28 μ' μ'') : fr28 μ μ'' := ⟨fun i a b => (h'.1 i a b).trans (h.1 i a b), fun j b => (h'.2 j b).trans (h.2 j b)⟩
def kS (n : Nat) (μ0 : bc_M) (S : TS) (B : BK) (ν : bc_M) : Prop := ∃ μ' a' k' f' q', ν = tx μ' a' k' f' q' ∧ fr28 μ0 μ' ∧ tq n S a' f' q' ∧ (∀ p, S = .inr p → kR μ' B)
theorem s_readLine {B : BK} {p : Nat} (hn : n ≤ 600) (h2 : μ 1 2 = nI n) (hS : tq n (.inr p) a f q) (hR : kR μ B) (hc : B.1 ≤ 6) : bc_C (d + 4) LC mX3_readLine [.ref 28, .ref 1] (tx μ a k f q) (fun r ν => r = none ∧ kS n μ (pLn (μ 2) n p B).1 (pLn (μ 2) n p B).2 ν) := by
  obtain ⟨rfl, b1, b2, b3⟩ := id hS
  refine bc_enter (by decide) (Nat.le_of_ble_eq_true rfl) rfl ?_
  have tail : ∀ (a1 : Nat) (f1 q1 : Int32) (hv : Int32) (v3 v4 : Value), v3.category = 1 → v4.category = 1 → tq n (sLn a B (sNum (μ 2) n 1 13 (.inr a))) a1 f1 q1 → (∀ x, (sNum (μ 2) n 1 13 (.inr a)).1 = .inr x → hv = nI (sNum (μ 2) n 1 13 (.inr a)).2) → bc_W (d + 4) LC mX3_readLine 54 [.ref 28, .ref 1, .int hv, v3, v4] [] (tx μ a1 a f1 q1) (fun r ν => r = none ∧ kS n μ (pLn (μ 2) n a B).1 (pLn (μ 2) n a B).2 ν) := by
    intro a1 f1 q1 hv v3 v4 hv3 hv4 t1 w1
    refine bc_aload_n dX3_readLine_54 rfl ?_
    refine bc_iconst (v := 0) dX3_readLine_55 (by decide) ?_
    refine bc_bipush (v := 30) dX3_readLine_56 (by decide) ?_
    refine bc_callV (z := mX7_number) (ci := 7) dX3_readLine_58 lX3_52 qX7_number (by rfl) (by rfl) (by rfl) (by rfl) (Nat.le_of_ble_eq_true rfl) (s_number (d := d + 1) (LO := 0) (HI := 31) hn h2 t1 (by decide) (by decide) (by omega) (by omega)) (fun r58 μ58 e58 => ?_)
    obtain ⟨a2, f2, q2, v2, rfl, rfl, t2, w2⟩ := e58
    refine bc_istore_n dX3_readLine_61 (by decide) rfl ?_
    refine bc_aload_n dX3_readLine_62 rfl ?_
    refine bc_iconst (v := 0) dX3_readLine_63 (by decide) ?_
    refine bc_bipush (v := 30) dX3_readLine_64 (by decide) ?_
    refine bc_callV (z := mX7_number) (ci := 7) dX3_readLine_66 lX3_52 qX7_number (by rfl) (by rfl) (by rfl) (by rfl) (Nat.le_of_ble_eq_true rfl) (s_number (d := d + 1) (LO := 0) (HI := 31) hn h2 t2 (by decide) (by decide) (by omega) (by omega)) (fun r66 μ66 e66 => ?_)
    obtain ⟨a5, f5, q5, v5, rfl, rfl, t5, w5⟩ := e66
    refine bc_istore dX3_readLine_69 (by decide) rfl ?_
    refine bc_aload_n dX3_readLine_71 rfl ?_
    refine bc_callV (z := mX7_isSound) (ci := 7) dX3_readLine_72 lX3_56 qX7_isSound (by rfl) (by rfl) (by rfl) (by rfl) (Nat.le_of_ble_eq_true rfl) (s_sound) (fun r72 μ72 e72 => ?_)
    obtain ⟨rfl, q72⟩ := e72
    obtain rfl := q72.symm
    refine bc_if_eq (tgt := 113) dX3_readLine_75 (by decide) (fun h75 => ?_) (fun h75 => ?_)
    · exact bc_return dX3_readLine_113 rfl ⟨rfl, μ, a5, a2, f5, q5, rfl, fr28.refl μ, t5, fun p hp => absurd hp (tq_uns t5 (i10 h75))⟩
    · have hf5 := i11 h75
      obtain ⟨p5, hp5⟩ := tq_snd t5 hf5
      obtain ⟨⟨p2, hp2, -, -⟩, -, -⟩ := sNum_ok hp5
      obtain ⟨⟨p1, hp1, -, -⟩, -, -⟩ := sNum_ok hp2
      have hs1 : ∃ x, (sNum (μ 2) n 1 13 (.inr a)).1 = .inr x ∧ B.1 < 6 := by
        unfold sLn at hp1
        by_cases h6 : 6 ≤ B.1
        · rw [if_pos h6] at hp1; exact (sAcc_inr hp1).elim
        · rw [if_neg h6] at hp1
          revert hp1
          cases (sNum (μ 2) n 1 13 (.inr a)).1 with
          | inl g => intro x; cases x
          | inr x => intro _; exact ⟨x, rfl, by omega⟩
      obtain ⟨x1, hx1, hc6⟩ := hs1
      obtain ⟨-, hh1, hh2⟩ := sNum_ok hx1
      have ev1 := w1 x1 hx1
      have ev2 := w2 p2 hp2
      have ev5 := w5 p5 hp5
      subst ev1
      subst ev2
      subst ev5
      refine bc_iload_n dX3_readLine_78 rfl ?_
      refine bc_if_lt (tgt := 113) dX3_readLine_79 (by decide) (fun h79 => absurd h79 (nI_pos (by omega))) (fun h79 => ?_)
      refine bc_iload_n dX3_readLine_82 rfl ?_
      refine bc_aload_n dX3_readLine_83 rfl ?_
      refine bc_getr dX3_readLine_84 fX3_15 (rfl) rfl ?_
      refine bc_len0 dX3_readLine_87 (rfl) ?_
      refine bc_icmp_ge (tgt := 113) dX3_readLine_88 (by decide) (fun h88 => absurd h88 (by rw [bn_leN (by omega) (by omega)]; omega)) (fun h88 => ?_)
      refine bc_aload_n dX3_readLine_91 rfl ?_
      refine bc_getr dX3_readLine_92 fX3_15 (rfl) rfl ?_
      refine bc_iload_n dX3_readLine_95 rfl ?_
      refine bc_iload_n dX3_readLine_96 rfl ?_
      refine bc_iload dX3_readLine_97 rfl ?_
      refine bc_callSN (z := mX9_cellOf) dX3_readLine_99 lX3_70 qX9_cellOf (by rfl) (by rfl) (Nat.le_of_ble_eq_true rfl) (s_cellOf _ _) (fun r99 μ99 e99 => ?_)
      obtain ⟨rfl, q99⟩ := e99
      obtain rfl := q99.symm
      refine bc_iastE dX3_readLine_102 (rfl) (rfl) (by omega) ?_
      refine bc_aload_n dX3_readLine_103 rfl ?_
      refine bc_dup dX3_readLine_104 rfl ?_
      refine bc_geti dX3_readLine_105 fX3_27 (rfl) rfl ?_
      refine bc_iconst (v := 1) dX3_readLine_108 (by decide) ?_
      refine bc_iadd dX3_readLine_109 ?_
      refine bc_put dX3_readLine_110 fX3_27 ftX3 fpX3_3 rfl rfl (rfl) rfl ?_
      refine bc_return dX3_readLine_113 rfl ⟨rfl, bc_u (bc_u μ 30 (sNum (μ 2) n 1 13 (.inr a)).2 (bkC (sTwo (μ 2) n 0 31 0 31 (sLn a B (sNum (μ 2) n 1 13 (.inr a)))).2.1 (sTwo (μ 2) n 0 31 0 31 (sLn a B (sNum (μ 2) n 1 13 (.inr a)))).2.2)) 28 3 (nI (B.1 + 1)), a5, a2, f5, q5, ?_, ⟨fun i x y => by rw [bc_u_i x, bc_u_i y], fun j y => by rw [bc_u_s]; simp only [upd, if_neg y]; rw [bc_u_i (by decide)]⟩, t5, fun p hp => ⟨by rw [bc_u_s]; simp [upd, pLn], fun h hh => ?_⟩⟩
      · rw [bc_u_i (by decide), tx_i _ _ _ _ _ (by decide), hR.1, bn_add1, tx_u _ _ _ _ _ (by decide), tx_u _ _ _ _ _ (by decide)]
        rfl
      · rw [bc_u_i (by decide), bc_u_s]
        simp only [upd, pLn]
        by_cases e : h = (sNum (μ 2) n 1 13 (.inr a)).2
        · rw [if_pos e, if_pos e]
        · rw [if_neg e, if_neg e]; exact hR.2 h hh
  have mid : ∀ (S2 : TS) (a1 : Nat) (f1 q1 : Int32) (hv : Int32) (v3 v4 : Value), v3.category = 1 → v4.category = 1 → tq n S2 a1 f1 q1 → sLn a B (sNum (μ 2) n 1 13 (.inr a)) = (if 6 ≤ B.1 then sAcc 3 a S2 else S2) → (∀ x, (sNum (μ 2) n 1 13 (.inr a)).1 = .inr x → hv = nI (sNum (μ 2) n 1 13 (.inr a)).2) → bc_W (d + 4) LC mX3_readLine 36 [.ref 28, .ref 1, .int hv, v3, v4] [] (tx μ a1 a f1 q1) (fun r ν => r = none ∧ kS n μ (pLn (μ 2) n a B).1 (pLn (μ 2) n a B).2 ν) := by
    intro S2 a1 f1 q1 hv v3 v4 hv3 hv4 t1 es w1
    by_cases h6 : 6 ≤ B.1
    · rw [if_pos h6] at es
      refine bc_aload_n dX3_readLine_36 rfl ?_
      refine bc_geti dX3_readLine_37 fX3_27 (rfl) rfl ?_
      refine bc_bipush (v := 6) dX3_readLine_40 (by decide) ?_
      refine bc_icmp_lt (tgt := 54) dX3_readLine_42 (by decide) (fun h42 => absurd h42 (by rw [tx_i _ _ _ _ _ (by decide), hR.1]; exact nI_nlt (b := 6) h6 (by omega))) (fun h42 => ?_)
      refine bc_aload_n dX3_readLine_45 rfl ?_
      refine bc_iconst (v := 3) dX3_readLine_46 (by decide) ?_
      refine bc_aload_n dX3_readLine_47 rfl ?_
      refine bc_geti dX3_readLine_48 fX3_63 (rfl) rfl ?_
      refine bc_callV (z := mX7_accuse) (ci := 7) dX3_readLine_51 lX3_66 qX7_accuse (by rfl) (by rfl) (by rfl) (by rfl) (Nat.le_of_ble_eq_true rfl) (s_accuse _ _) (fun r51 μ51 e51 => ?_)
      obtain ⟨rfl, q51⟩ := e51
      obtain rfl := q51.symm
      rw [tx_4]
      exact tail _ _ _ _ _ _ hv3 hv4 (by rw [es]; exact tq_acc (kd := 3) (pl := a) t1 (by omega) (by omega) b1) w1
    · rw [if_neg h6] at es
      refine bc_aload_n dX3_readLine_36 rfl ?_
      refine bc_geti dX3_readLine_37 fX3_27 (rfl) rfl ?_
      refine bc_bipush (v := 6) dX3_readLine_40 (by decide) ?_
      refine bc_icmp_lt (tgt := 54) dX3_readLine_42 (by decide) (fun h42 => ?_) (fun h42 => absurd h42 (by rw [tx_i _ _ _ _ _ (by decide), hR.1]; exact fun x => x (nI_lt (b := 6) (by omega) (by omega))))
      exact tail _ _ _ _ _ _ hv3 hv4 (by rw [es]; exact t1) w1
  refine bc_aload_n dX3_readLine_0 rfl ?_
  refine bc_iconst (v := 1) dX3_readLine_1 (by decide) ?_
  refine bc_bipush (v := 12) dX3_readLine_2 (by decide) ?_
  refine bc_callV (z := mX7_number) (ci := 7) dX3_readLine_4 lX3_52 qX7_number (by rfl) (by rfl) (by rfl) (by rfl) (Nat.le_of_ble_eq_true rfl) (s_number (d := d + 1) (LO := 1) (HI := 13) hn h2 hS (by decide) (by decide) (by omega) (by omega)) (fun r4 μ4 e4 => ?_)
  obtain ⟨a2, f2, q2, v2, rfl, rfl, t2, w2⟩ := e4
  refine bc_istore_n dX3_readLine_7 (by decide) rfl ?_
  refine bc_aload_n dX3_readLine_8 rfl ?_
  refine bc_callV (z := mX7_isSound) (ci := 7) dX3_readLine_9 lX3_56 qX7_isSound (by rfl) (by rfl) (by rfl) (by rfl) (Nat.le_of_ble_eq_true rfl) (s_sound) (fun r9 μ9 e9 => ?_)
  obtain ⟨rfl, q9⟩ := e9
  obtain rfl := q9.symm
  refine bc_if_eq (tgt := 36) dX3_readLine_12 (by decide) (fun h12 => ?_) (fun h12 => ?_)
  · refine mid (sNum (μ 2) n 1 13 (.inr a)).1 _ _ _ _ _ _ rfl rfl t2 ?_ w2
    unfold sLn
    cases hz : (sNum (μ 2) n 1 13 (.inr a)).1 with
    | inl g => rfl
    | inr x => exact absurd hz (tq_uns t2 (i10 h12))
  · obtain ⟨p2, hp2⟩ := tq_snd t2 (i11 h12)
    obtain ⟨-, hh1, hh2⟩ := sNum_ok hp2
    have ev := w2 p2 hp2
    subst ev
    have hent : en (tx μ a2 a f2 q2) 30 13 (nI (sNum (μ 2) n 1 13 (.inr a)).2) = B.2 (sNum (μ 2) n 1 13 (.inr a)).2 := by
      rw [en_N hh2 (by decide), tx_i _ _ _ _ _ (by decide)]
      exact hR.2 _ hh2
    refine bc_aload_n dX3_readLine_15 rfl ?_
    refine bc_getr dX3_readLine_16 fX3_15 (rfl) rfl ?_
    refine bc_iload_n dX3_readLine_19 rfl ?_
    refine bc_callSN (z := mX9_entry) dX3_readLine_20 lX3_59 qX9_entry (by rfl) (by rfl) (Nat.le_of_ble_eq_true rfl) (s_entry (n := 13) rfl (by decide) _) (fun r20 μ20 e20 => ?_)
    obtain ⟨rfl, q20⟩ := e20
    obtain rfl := q20.symm
    refine bc_iconst (v := (-1)) dX3_readLine_23 (by decide) ?_
    refine bc_icmp_eq (tgt := 36) dX3_readLine_24 (by decide) (fun h24 => ?_) (fun h24 => ?_)
    · rw [hent] at h24
      refine mid (sNum (μ 2) n 1 13 (.inr a)).1 _ _ _ _ _ _ rfl rfl t2 ?_ w2
      unfold sLn
      rw [hp2]
      simp only [if_pos h24]
    · refine bc_aload_n dX3_readLine_27 rfl ?_
      refine bc_iconst (v := 2) dX3_readLine_28 (by decide) ?_
      refine bc_aload_n dX3_readLine_29 rfl ?_
      refine bc_geti dX3_readLine_30 fX3_63 (rfl) rfl ?_
      refine bc_callV (z := mX7_accuse) (ci := 7) dX3_readLine_33 lX3_66 qX7_accuse (by rfl) (by rfl) (by rfl) (by rfl) (Nat.le_of_ble_eq_true rfl) (s_accuse _ _) (fun r33 μ33 e33 => ?_)
      obtain ⟨rfl, q33⟩ := e33
      obtain rfl := q33.symm
      rw [hent] at h24
      rw [tx_4]
      refine mid (sAcc 2 a (sNum (μ 2) n 1 13 (.inr a)).1) _ _ _ _ _ _ rfl rfl (tq_acc (kd := 2) (pl := a) t2 (by omega) (by omega) b1) ?_ w2
      unfold sLn
      rw [hp2]
      simp only [if_neg h24, sAcc]
theorem pLn_inr {t : Nat → Int32} {p p' : Nat} {B : BK} (h : (pLn t n p B).1 = .inr p') : B.1 < 6 ∧ 1 ≤ (sNum t n 1 13 (.inr p)).2 ∧ (sNum t n 1 13 (.inr p)).2 < 13 ∧ p < p' ∧ p' ≤ n := by
  obtain ⟨⟨p1, hp1, l1, m1⟩, -⟩ := sTwo_ok (show (sTwo t n 0 31 0 31 (sLn p B (sNum t n 1 13 (.inr p)))).1 = .inr p' from h)
  unfold sLn at hp1
  by_cases h6 : 6 ≤ B.1
  · rw [if_pos h6] at hp1; exact (sAcc_inr hp1).elim
  · rw [if_neg h6] at hp1
    cases hz : (sNum t n 1 13 (.inr p)).1 with
    | inl g => rw [hz] at hp1; cases hp1
    | inr x =>
      obtain ⟨⟨p0, e0, l0, m0⟩, v1, v2⟩ := sNum_ok hz
      have e0 := Sum.inr.inj e0
      rw [hz] at hp1
      simp only at hp1
      split at hp1
      · have hp1 := Sum.inr.inj hp1
        exact ⟨by omega, v1, v2, by omega, m1⟩
      · cases hp1
theorem s_beginDraft : bc_C d LC mX3_beginDraft [.ref 28] μ (fun r ν => r = none ∧ fr28 μ ν ∧ kR ν bk0) := by
  refine bc_enter (by decide) (Nat.le_of_ble_eq_true rfl) rfl ?_
  have loop : ∀ (m h : Nat) (ν : bc_M), h + m = 13 → fr28 μ ν → ν 28 3 = 0 → (∀ j, j < h → ν 30 j = -1) → bc_W d LC mX3_beginDraft 7 [.ref 28, .int (nI h)] [] ν (fun r ν => r = none ∧ fr28 μ ν ∧ kR ν bk0) := by
    intro m
    induction m with
    | zero =>
      intro h ν hh hf h3 hj
      have hh : h = 13 := by omega
      subst hh
      refine bc_iload_n dX3_beginDraft_7 rfl ?_
      refine bc_aload_n dX3_beginDraft_8 rfl ?_
      refine bc_getr dX3_beginDraft_9 fX3_15 (rfl) rfl ?_
      refine bc_len0 dX3_beginDraft_12 (rfl) ?_
      refine bc_icmp_ge (tgt := 29) dX3_beginDraft_13 (by decide) (fun h13 => ?_) (fun h13 => absurd h13 (fun x => x (Int32.le_refl _)))
      exact bc_return dX3_beginDraft_29 rfl (⟨rfl, hf, h3, hj⟩)
    | succ m ih =>
      intro h ν hh hf h3 hj
      refine bc_iload_n dX3_beginDraft_7 rfl ?_
      refine bc_aload_n dX3_beginDraft_8 rfl ?_
      refine bc_getr dX3_beginDraft_9 fX3_15 (rfl) rfl ?_
      refine bc_len0 dX3_beginDraft_12 (rfl) ?_
      refine bc_icmp_ge (tgt := 29) dX3_beginDraft_13 (by decide) (fun h13 => absurd h13 (by rw [bn_leN (by omega) (by omega)]; omega)) (fun h13 => ?_)
      refine bc_aload_n dX3_beginDraft_16 rfl ?_
      refine bc_getr dX3_beginDraft_17 fX3_15 (rfl) rfl ?_
      refine bc_iload_n dX3_beginDraft_20 rfl ?_
      refine bc_iconst (v := (-1)) dX3_beginDraft_21 (by decide) ?_
      refine bc_iastE dX3_beginDraft_22 (rfl) (rfl) (by omega) ?_
      refine bc_iinc1 dX3_beginDraft_23 rfl (by decide) rfl ?_
      refine bc_goto (tgt := 7) dX3_beginDraft_26 (by decide) ?_
      rw [bn_add1]
      refine ih (h + 1) _ (by omega) ⟨fun i x y => by rw [bc_u_i y]; exact hf.1 i x y, fun j y => by rw [bc_u_i (by decide)]; exact hf.2 j y⟩ (by rw [bc_u_i (by decide)]; exact h3) (fun j hj2 => ?_)
      rw [bc_u_s]
      simp only [upd]
      by_cases e : j = h
      · rw [if_pos e]
      · rw [if_neg e]; exact hj j (by omega)
  refine bc_aload_n dX3_beginDraft_0 rfl ?_
  refine bc_iconst (v := 0) dX3_beginDraft_1 (by decide) ?_
  refine bc_put dX3_beginDraft_2 fX3_27 ftX3 fpX3_3 rfl rfl (rfl) rfl ?_
  refine bc_iconst (v := 0) dX3_beginDraft_5 (by decide) ?_
  refine bc_istore_n dX3_beginDraft_6 (by decide) rfl ?_
  exact loop 13 0 _ (by omega) ⟨fun i x y => bc_u_i x, fun j y => by rw [bc_u_s]; simp only [upd, if_neg y]⟩ (by rw [bc_u_s]; simp [upd]) (fun j hj => absurd hj (Nat.not_lt_zero _))
theorem kS_tx {B : BK} {μ ν : bc_M} (h : fr28 (tx μ a k f q) ν) (hR : kR ν B) : ∃ μ', ν = tx μ' a k f q ∧ fr28 μ μ' ∧ kR μ' B := by
  refine ⟨fun i => if i = 1 then μ 1 else ν i, ?_, ⟨?_, ?_⟩, ?_⟩
  · funext i
    by_cases h1 : i = 1
    · subst h1
      refine (h.1 1 (by decide) (by decide)).trans ?_
      exact (tx_base (μ := μ) (μ' := fun i => if i = 1 then μ 1 else ν i) rfl).symm
    · rw [tx_i _ _ _ _ _ h1]
      show ν i = if i = 1 then μ 1 else ν i
      rw [if_neg h1]
  · intro i x y
    show (if i = 1 then μ 1 else ν i) = μ i
    by_cases h1 : i = 1
    · subst h1; rw [if_pos rfl]
    · rw [if_neg h1, h.1 i x y, tx_i _ _ _ _ _ h1]
  · intro j y
    show ν 28 j = μ 28 j
    rw [h.2 j y, tx_i _ _ _ _ _ (by decide)]
  · exact hR
theorem s_bookFrom (hn : n ≤ 600) (h2 : μ 1 2 = nI n) (hS : tq n (.inr a) a f q) : bc_C (d + 5) LC mX3_readFrom [.ref 28, .ref 1] (tx μ a k f q) (fun r ν => r = none ∧ kS n μ (pBk (μ 2) n 7 (.inr a, bk0)).1 (pBk (μ 2) n 7 (.inr a, bk0)).2 ν) := by
  refine bc_enter (by decide) (Nat.le_of_ble_eq_true rfl) rfl ?_
  have loop : ∀ (m c a k : Nat) (f q : Int32) (S : TS) (B : BK) (μ' : bc_M), c + m = 7 → fr28 μ μ' → tq n S a f q → (∀ p, S = .inr p → kR μ' B ∧ B.1 ≤ 6) → bc_W (d + 5) LC mX3_readFrom 6 [.ref 28, .ref 1, .int (nI c)] [] (tx μ' a k f q) (fun r ν => r = none ∧ kS n μ (pBk (μ 2) n m (S, B)).1 (pBk (μ 2) n m (S, B)).2 ν) := by
    intro m
    induction m with
    | zero =>
      intro c a k f q S B μ' hc hfr hS hB
      have hc : c = 7 := by omega
      subst hc
      refine bc_iload_n dX3_readFrom_6 rfl ?_
      refine bc_bipush (v := 6) dX3_readFrom_7 (by decide) ?_
      refine bc_icmp_gt (tgt := 36) dX3_readFrom_9 (by decide) (fun h9 => ?_) (fun h9 => absurd h9 (fun x => x (by decide)))
      exact bc_return dX3_readFrom_36 rfl (⟨rfl, μ', a, k, f, q, rfl, hfr, hS, fun p hp => (hB p hp).1⟩)
    | succ m ih =>
      intro c a k f q S B μ' hc hfr hS hB
      have h2' : μ' 1 2 = nI n := by rw [hfr.1 1 (by omega) (by omega)]; exact h2
      have e2 : μ' 2 = μ 2 := hfr.1 2 (by omega) (by omega)
      have ha := tq_le hS
      cases S with
      | inl g =>
        obtain ⟨g1, g2⟩ := g
        refine bc_iload_n dX3_readFrom_6 rfl ?_
        refine bc_bipush (v := 6) dX3_readFrom_7 (by decide) ?_
        refine bc_icmp_gt (tgt := 36) dX3_readFrom_9 (by decide) (fun h9 => absurd h9 (nI_nlt (a := 6) (by omega) (by omega))) (fun h9 => ?_)
        refine bc_aload_n dX3_readFrom_12 rfl ?_
        refine bc_callV (z := mX7_goesOn) (ci := 7) dX3_readFrom_13 lX3_38 qX7_goesOn (by rfl) (by rfl) (by rfl) (by rfl) (Nat.le_of_ble_eq_true rfl) (s_goesOn (d := d + 3) hn h2' ha) (fun r13 μ13 e13 => ?_)
        obtain ⟨rfl, q13⟩ := e13
        obtain rfl := q13.symm
        refine bc_if_eq (tgt := 36) dX3_readFrom_16 (by decide) (fun h16 => ?_) (fun h16 => absurd h16 (by rw [if_neg (fun x => tq_f hS x.1)]; exact fun x => x rfl))
        exact bc_return dX3_readFrom_36 rfl (⟨rfl, μ', a, k, f, q, rfl, hfr, hS, fun p hp => absurd hp (by simp [pBk])⟩)
      | inr p =>
        obtain ⟨rfl, hpn, hf0, hq0⟩ := id hS
        by_cases hl : a < n
        · obtain ⟨hB1, hO1⟩ := hB a rfl
          simp only [pBk, if_pos hl]
          refine bc_iload_n dX3_readFrom_6 rfl ?_
          refine bc_bipush (v := 6) dX3_readFrom_7 (by decide) ?_
          refine bc_icmp_gt (tgt := 36) dX3_readFrom_9 (by decide) (fun h9 => absurd h9 (nI_nlt (a := 6) (by omega) (by omega))) (fun h9 => ?_)
          refine bc_aload_n dX3_readFrom_12 rfl ?_
          refine bc_callV (z := mX7_goesOn) (ci := 7) dX3_readFrom_13 lX3_38 qX7_goesOn (by rfl) (by rfl) (by rfl) (by rfl) (Nat.le_of_ble_eq_true rfl) (s_goesOn (d := d + 3) hn h2' ha) (fun r13 μ13 e13 => ?_)
          obtain ⟨rfl, q13⟩ := e13
          obtain rfl := q13.symm
          refine bc_if_eq (tgt := 36) dX3_readFrom_16 (by decide) (fun h16 => absurd h16 (by rw [if_pos ⟨hf0, hl⟩]; decide)) (fun h16 => ?_)
          refine bc_aload_n dX3_readFrom_19 rfl ?_
          refine bc_aload_n dX3_readFrom_20 rfl ?_
          refine bc_callV (z := mX3_readLine) (ci := 3) dX3_readFrom_21 lX3_44 qX3_readLine (by rfl) (by rfl) (by rfl) (by rfl) (Nat.le_of_ble_eq_true rfl) (s_readLine (d := d) hn h2' hS hB1 hO1) (fun r21 μ21 e21 => ?_)
          obtain ⟨rfl, ν1, a1, k1, f1, q1, rfl, g1, t1, w1⟩ := e21
          refine bc_aload_n dX3_readFrom_24 rfl ?_
          refine bc_bipush (v := 59) dX3_readFrom_25 (by decide) ?_
          refine bc_callV (z := mX7_need) (ci := 7) dX3_readFrom_27 lX3_48 qX7_need (by rfl) (by rfl) (by rfl) (by rfl) (Nat.le_of_ble_eq_true rfl) (s_need (d := d + 3) hn (show ν1 1 2 = nI n by rw [g1.1 1 (by omega) (by omega)]; exact h2') t1 (c := 59) (by decide)) (fun r27 μ27 e27 => ?_)
          obtain ⟨rfl, a2, f2, q2, rfl, t2⟩ := e27
          refine bc_iinc1 dX3_readFrom_30 rfl (by decide) rfl ?_
          refine bc_goto (tgt := 6) dX3_readFrom_33 (by decide) ?_
          rw [show ν1 2 = μ 2 from (g1.1 2 (by omega) (by omega)).trans e2] at t2
          rw [e2] at t2 w1
          rw [bn_add1]
          refine ih (c + 1) _ _ _ _ _ _ ν1 (by omega) (hfr.trans g1) t2 (fun p hp => ?_)
          obtain ⟨p0, hp0, -, -⟩ := sNeed_ok hp
          have := pLn_inr hp0
          exact ⟨w1 p0 hp0, by show B.1 + 1 ≤ 6; omega⟩
        · simp only [pBk, if_neg hl]
          refine bc_iload_n dX3_readFrom_6 rfl ?_
          refine bc_bipush (v := 6) dX3_readFrom_7 (by decide) ?_
          refine bc_icmp_gt (tgt := 36) dX3_readFrom_9 (by decide) (fun h9 => absurd h9 (nI_nlt (a := 6) (by omega) (by omega))) (fun h9 => ?_)
          refine bc_aload_n dX3_readFrom_12 rfl ?_
          refine bc_callV (z := mX7_goesOn) (ci := 7) dX3_readFrom_13 lX3_38 qX7_goesOn (by rfl) (by rfl) (by rfl) (by rfl) (Nat.le_of_ble_eq_true rfl) (s_goesOn (d := d + 3) hn h2' ha) (fun r13 μ13 e13 => ?_)
          obtain ⟨rfl, q13⟩ := e13
          obtain rfl := q13.symm
          refine bc_if_eq (tgt := 36) dX3_readFrom_16 (by decide) (fun h16 => ?_) (fun h16 => absurd h16 (by rw [if_neg (fun x => hl x.2)]; exact fun x => x rfl))
          exact bc_return dX3_readFrom_36 rfl (⟨rfl, μ', a, k, f, q, rfl, hfr, hS, fun p hp => (hB a rfl).1⟩)
  refine bc_aload_n dX3_readFrom_0 rfl ?_
  refine bc_callV (z := mX3_beginDraft) (ci := 3) dX3_readFrom_1 lX3_21 qX3_beginDraft (by rfl) (by rfl) (by rfl) (by rfl) (Nat.le_of_ble_eq_true rfl) (s_beginDraft) (fun r1 μ1 e1 => ?_)
  obtain ⟨rfl, e1, e2⟩ := e1
  refine bc_iconst (v := 0) dX3_readFrom_4 (by decide) ?_
  refine bc_istore_n dX3_readFrom_5 (by decide) rfl ?_
  obtain ⟨μ', rfl, g1, g2⟩ := kS_tx e1 e2
  exact loop 7 0 a k f q (.inr a) bk0 μ' rfl g1 hS (fun p hp => ⟨g2, by show 0 ≤ 6; omega⟩)
end RDK
