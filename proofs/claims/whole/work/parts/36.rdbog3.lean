/-! BreadCity$Bog reads its text: a clause, all -/
section RDB
variable {d : Nat} {μ : bc_M} {n a k : Nat} {f q : Int32}
theorem bw1_len : (bw 1).length = 6 := rfl
theorem sWrd1 {t : Nat → Int32} : ((sWrd t n (bw 1) (.inr a)).2 < 6 ∧ wV (bw 1) (wd t n a) = nI (sWrd t n (bw 1) (.inr a)).2) ∨ ((sWrd t n (bw 1) (.inr a)).2 = 99 ∧ wV (bw 1) (wd t n a) = -1) := by
  unfold sWrd wV
  by_cases h : (bw 1).idxOf (wd t n a) < (bw 1).length
  · simp only [if_pos h]
    exact .inl ⟨h, trivial⟩
  · simp only [if_neg h]
    exact .inr ⟨trivial, trivial⟩
theorem s_readClause {B : BG} {c : Nat} (hn : n ≤ 600) (h2 : μ 1 2 = nI n) (hS : tq n (.inr a) a f q) (hB : bR 11 μ B) (hO : bOk B) (hc : c ≤ 60) : bc_C (d + 6) LC mX0_readClause [.ref 11, .ref 1, .int (nI c)] (tx μ a k f q) (fun r ν => r = none ∧ ∃ μ' a' k' f' q', ν = tx μ' a' k' f' q' ∧ fr11 μ μ' ∧ tq n (pCl (μ 2) n c B (sWrd (μ 2) n (bw 1) (.inr a)).2 (sCl (μ 2) n c B a)).1 a' f' q' ∧ (∀ p, (pCl (μ 2) n c B (sWrd (μ 2) n (bw 1) (.inr a)).2 (sCl (μ 2) n c B a)).1 = .inr p → bR 11 μ' (pCl (μ 2) n c B (sWrd (μ 2) n (bw 1) (.inr a)).2 (sCl (μ 2) n c B a)).2)) := by
  have ha := tq_le hS
  have ecl := sCl_w (t := μ 2) (n := n) (a := a) (c := c) (B := B) rfl (Iff.refl (fullB (sWrd (μ 2) n (bw 1) (.inr a)).2 B = true))
  rw [ecl]
  refine bc_enter (by decide) (Nat.le_of_ble_eq_true rfl) rfl ?_
  by_cases h6 : 60 ≤ c
  · rw [if_pos h6]
    refine bc_aload_n dX0_readClause_0 rfl ?_
    refine bc_ldcS (tx := "quarter oven reed mooring city flour ") (k := 1) dX0_readClause_1 (by decide) ?_
    refine bc_callV (z := mX7_word) (ci := 7) dX0_readClause_3 lX0_78 qX7_word (by rfl) (by rfl) (by rfl) (by rfl) (Nat.le_of_ble_eq_true rfl) (s_word (d := d) (K := 1) (by decide) (by decide) hn h2 hS) (fun r3 μ3 e3 => ?_)
    obtain ⟨a1, f1, q1, rfl, rfl, t1⟩ := e3
    refine bc_istore_n dX0_readClause_6 (by decide) rfl ?_
    refine bc_iload_n dX0_readClause_7 rfl ?_
    refine bc_bipush (v := 60) dX0_readClause_8 (by decide) ?_
    refine bc_icmp_lt (tgt := 22) dX0_readClause_10 (by decide) (fun h10 => absurd h10 (nI_nlt (b := 60) h6 (by omega))) (fun h10 => ?_)
    refine bc_aload_n dX0_readClause_13 rfl ?_
    refine bc_iconst (v := 3) dX0_readClause_14 (by decide) ?_
    refine bc_aload_n dX0_readClause_15 rfl ?_
    refine bc_geti dX0_readClause_16 fX0_82 (rfl) rfl ?_
    refine bc_callV (z := mX7_accuse) (ci := 7) dX0_readClause_19 lX0_85 qX7_accuse (by rfl) (by rfl) (by rfl) (by rfl) (Nat.le_of_ble_eq_true rfl) (s_accuse _ _) (fun r19 μ19 e19 => ?_)
    obtain ⟨rfl, q19⟩ := e19
    obtain rfl := q19.symm
    rw [tx_4]
    exact s_readClauseT hn h2 (tq_acc (kd := 3) (pl := a) t1 (by omega) (by omega) ha) ha hB hO sWrd1
  · rw [if_neg h6]
    refine bc_aload_n dX0_readClause_0 rfl ?_
    refine bc_ldcS (tx := "quarter oven reed mooring city flour ") (k := 1) dX0_readClause_1 (by decide) ?_
    refine bc_callV (z := mX7_word) (ci := 7) dX0_readClause_3 lX0_78 qX7_word (by rfl) (by rfl) (by rfl) (by rfl) (Nat.le_of_ble_eq_true rfl) (s_word (d := d) (K := 1) (by decide) (by decide) hn h2 hS) (fun r3 μ3 e3 => ?_)
    obtain ⟨a1, f1, q1, rfl, rfl, t1⟩ := e3
    refine bc_istore_n dX0_readClause_6 (by decide) rfl ?_
    refine bc_iload_n dX0_readClause_7 rfl ?_
    refine bc_bipush (v := 60) dX0_readClause_8 (by decide) ?_
    refine bc_icmp_lt (tgt := 22) dX0_readClause_10 (by decide) (fun h10 => ?_) (fun h10 => absurd h10 (fun x => x (nI_lt (b := 60) (by omega) (by omega))))
    exact s_readClauseT hn h2 t1 ha hB hO sWrd1
theorem sCl_ok {t : Nat → Int32} {c : Nat} {B : BG} {p : Nat} (h : sCl t n c B a = .inr p) : c < 60 ∧ fullB (sWrd t n (bw 1) (.inr a)).2 B = false ∧ (sWrd t n (bw 1) (.inr a)).1 = .inr p := by
  unfold sCl at h
  by_cases h6 : 60 ≤ c ∨ fullB (sWrd t n (bw 1) (.inr a)).2 B = true
  · rw [if_pos h6] at h; exact (sAcc_inr h).elim
  · rw [if_neg h6] at h
    refine ⟨Nat.lt_of_not_le (fun x => h6 (.inl x)), ?_, h⟩
    cases hb : fullB (sWrd t n (bw 1) (.inr a)).2 B with
    | true => exact absurd (.inr hb) h6
    | false => rfl
theorem mem_snoc {α : Type} {P : α → Prop} {l : List α} {z : α} (h : ∀ x ∈ l, P x) (hz : P z) : ∀ x ∈ l ++ [z], P x := by
  intro x hx
  rcases List.mem_append.mp hx with h1 | h1
  · exact h x h1
  · rw [List.mem_singleton.mp h1]; exact hz
theorem pCl_ok {t : Nat → Int32} {c w : Nat} {B : BG} {S : TS} {p : Nat} (hO : bOk B) (hf : fullB w B = false) (h : (pCl t n c B w S).1 = .inr p) : bOk (pCl t n c B w S).2 := by
  obtain ⟨o1, o2, o3, o4, o5, o6, o7, o8, o9, o10, o11⟩ := hO
  match w with
  | 0 =>
    obtain ⟨-, b1, b2, b3, b4⟩ := sTwo_ok (show (sTwo t n 0 4 1 100 S).1 = .inr p from h)
    have hl : B.1.length < 6 := by simp [fullB] at hf; exact hf
    refine ⟨?_, o2, o3, o4, mem_snoc o5 ⟨b2, b3, b4⟩, ?_, o7, o8, o9, o10, o11⟩
    · show (B.1 ++ [_]).length ≤ 6; rw [List.length_append]; simp; omega
    · intro z hz
      have := o6 z hz
      refine ⟨?_, this.2⟩
      show z.1 < (B.1 ++ [_]).length
      rw [List.length_append]; simp; omega
  | 1 =>
    obtain ⟨-, b1, b2, b3, b4⟩ := sTwo_ok (show (sTwo t n 0 B.1.length 1 10 S).1 = .inr p from h)
    have hl : B.2.1.length < 8 := by simp [fullB] at hf; exact hf
    refine ⟨o1, ?_, o3, o4, o5, mem_snoc o6 ⟨b2, b3, b4⟩, o7, o8, o9, o10, o11⟩
    show (B.2.1 ++ [_]).length ≤ 8; rw [List.length_append]; simp; omega
  | 2 =>
    obtain ⟨-, b1, b2, b3, b4⟩ := sTwo_ok (show (sTwo t n 0 31 0 31 S).1 = .inr p from h)
    have hl : B.2.2.1.length < 12 := by simp [fullB] at hf; exact hf
    refine ⟨o1, o2, ?_, o4, o5, o6, mem_snoc o7 ⟨b2, b4⟩, o8, o9, o10, o11⟩
    show (B.2.2.1 ++ [_]).length ≤ 12; rw [List.length_append]; simp; omega
  | 3 =>
    obtain ⟨-, b1, b2, b3, b4⟩ := sTwo_ok (show (sTwo t n 0 31 0 31 S).1 = .inr p from h)
    have hl : B.2.2.2.1.length < 6 := by simp [fullB] at hf; exact hf
    refine ⟨o1, o2, o3, ?_, o5, o6, o7, mem_snoc o8 ⟨b2, b4⟩, o9, o10, o11⟩
    show (B.2.2.2.1 ++ [_]).length ≤ 6; rw [List.length_append]; simp; omega
  | 4 =>
    obtain ⟨-, b1, b2, b3, b4⟩ := sTwo_ok (show (sTwo t n 0 31 0 31 S).1 = .inr p from h)
    exact ⟨o1, o2, o3, o4, o5, o6, o7, o8, b2, b4, o11⟩
  | 5 =>
    obtain ⟨-, b1, b2⟩ := sNum_ok (show (sNum t n 0 100 S).1 = .inr p from h)
    exact ⟨o1, o2, o3, o4, o5, o6, o7, o8, o9, o10, b2⟩
  | w + 6 => exact ⟨o1, o2, o3, o4, o5, o6, o7, o8, o9, o10, o11⟩
theorem pCl_inr {t : Nat → Int32} {c w : Nat} {B : BG} {S : TS} {p : Nat} (h : (pCl t n c B w S).1 = .inr p) : ∃ p0, S = .inr p0 ∧ p0 ≤ p := by
  match w with
  | 0 => obtain ⟨⟨p0, e, l, -⟩, -⟩ := sTwo_ok (show (sTwo t n 0 4 1 100 S).1 = .inr p from h); exact ⟨p0, e, by omega⟩
  | 1 => obtain ⟨⟨p0, e, l, -⟩, -⟩ := sTwo_ok (show (sTwo t n 0 B.1.length 1 10 S).1 = .inr p from h); exact ⟨p0, e, by omega⟩
  | 2 => obtain ⟨⟨p0, e, l, -⟩, -⟩ := sTwo_ok (show (sTwo t n 0 31 0 31 S).1 = .inr p from h); exact ⟨p0, e, by omega⟩
  | 3 => obtain ⟨⟨p0, e, l, -⟩, -⟩ := sTwo_ok (show (sTwo t n 0 31 0 31 S).1 = .inr p from h); exact ⟨p0, e, by omega⟩
  | 4 => obtain ⟨⟨p0, e, l, -⟩, -⟩ := sTwo_ok (show (sTwo t n 0 31 0 31 S).1 = .inr p from h); exact ⟨p0, e, by omega⟩
  | 5 => obtain ⟨⟨p0, e, l, -⟩, -⟩ := sNum_ok (show (sNum t n 0 100 S).1 = .inr p from h); exact ⟨p0, e, by omega⟩
  | w + 6 => exact ⟨p, h, Nat.le_refl _⟩
theorem pBg_ok {t : Nat → Int32} : ∀ (m c : Nat) (S : TS) (B : BG) (p : Nat), bOk B → (pBg t n m c (S, B)).1 = .inr p → bOk (pBg t n m c (S, B)).2 := by
  intro m
  induction m with
  | zero => intro c S B p hO h; exact hO
  | succ m ih =>
    intro c S B p hO h
    cases S with
    | inl f => exact hO
    | inr p0 =>
      simp only [pBg] at h ⊢
      by_cases hp : p0 < n
      · rw [if_pos hp] at h ⊢
        by_cases hs : ∃ x, (pCl t n c B (sWrd t n (bw 1) (.inr p0)).2 (sCl t n c B p0)).1 = .inr x
        · obtain ⟨x, hx⟩ := hs
          obtain ⟨y, hy, -⟩ := pCl_inr hx
          exact ih _ _ _ p (pCl_ok hO (sCl_ok hy).2.1 hx) h
        · exfalso
          have hf : ∃ g, (pCl t n c B (sWrd t n (bw 1) (.inr p0)).2 (sCl t n c B p0)).1 = .inl g := by
            cases e : (pCl t n c B (sWrd t n (bw 1) (.inr p0)).2 (sCl t n c B p0)).1 with
            | inl g => exact ⟨g, rfl⟩
            | inr x => exact absurd ⟨x, e⟩ hs
          obtain ⟨g, hg⟩ := hf
          rw [hg] at h
          simp only [sNeed] at h
          cases m with
          | zero => simp only [pBg] at h; cases h
          | succ m => simp only [pBg] at h; cases h
      · rw [if_neg hp]; exact hO
theorem tx_base {μ μ' : bc_M} (h : μ' 1 = μ 1) : tx μ' a k f q 1 = tx μ a k f q 1 := by
  simp only [tx, bc_us, if_true, h]
theorem em_tx {μ ν : bc_M} (h : emS 11 (tx μ a k f q) ν) : ∃ μ', ν = tx μ' a k f q ∧ fr11 μ μ' ∧ bR 11 μ' bg0 := by
  obtain ⟨h0, e0, e1, e2, e3, e4, e5, e6, e7⟩ := h
  refine ⟨fun i => if i = 1 then μ 1 else ν i, ?_, ?_, ?_⟩
  · funext i
    by_cases h1 : i = 1
    · subst h1
      refine (funext (fun j => h0 1 j (by omega) (by omega)) : ν 1 = tx μ a k f q 1).trans ?_
      exact (tx_base (μ := μ) (μ' := fun i => if i = 1 then μ 1 else ν i) rfl).symm
    · rw [tx_i _ _ _ _ _ h1]
      show ν i = if i = 1 then μ 1 else ν i
      rw [if_neg h1]
  · intro i hi
    show (if i = 1 then μ 1 else ν i) = μ i
    by_cases h1 : i = 1
    · subst h1; rw [if_pos rfl]
    · rw [if_neg h1]
      funext j
      rw [h0 i j (by omega) (by omega), tx_i _ _ _ _ _ h1]
  · refine ⟨⟨?_, ?_⟩, ⟨?_, ?_⟩, ⟨?_, ?_⟩, ⟨?_, ?_⟩, ?_, ?_, ?_⟩
    · exact e0
    · intro i z hz; cases hz
    · exact e1
    · intro i z hz; cases hz
    · exact e2
    · intro y hy; exact e7 y hy
    · exact e3
    · intro i z hz; cases hz
    · exact e4
    · exact e5
    · exact e6
theorem s_readFrom (hn : n ≤ 600) (h2 : μ 1 2 = nI n) (hS : tq n (.inr a) a f q) : bc_C (d + 7) LC mX0_readFrom [.ref 11, .ref 1] (tx μ a k f q) (fun r ν => r = none ∧ ∃ μ' a' k' f' q', ν = tx μ' a' k' f' q' ∧ fr11 μ μ' ∧ tq n (pBg (μ 2) n 61 0 (.inr a, bg0)).1 a' f' q' ∧ (∀ p, (pBg (μ 2) n 61 0 (.inr a, bg0)).1 = .inr p → bR 11 μ' (pBg (μ 2) n 61 0 (.inr a, bg0)).2)) := by
  refine bc_enter (by decide) (Nat.le_of_ble_eq_true rfl) rfl ?_
  have loop : ∀ (m c a k : Nat) (f q : Int32) (S : TS) (B : BG) (μ' : bc_M), c + m = 61 → fr11 μ μ' → tq n S a f q → (∀ p, S = .inr p → bR 11 μ' B ∧ bOk B) → bc_W (d + 7) LC mX0_readFrom 6 [.ref 11, .ref 1, .int (nI c)] [] (tx μ' a k f q) (fun r ν => r = none ∧ ∃ μ' a' k' f' q', ν = tx μ' a' k' f' q' ∧ fr11 μ μ' ∧ tq n (pBg (μ 2) n m c (S, B)).1 a' f' q' ∧ (∀ p, (pBg (μ 2) n m c (S, B)).1 = .inr p → bR 11 μ' (pBg (μ 2) n m c (S, B)).2)) := by
    intro m
    induction m with
    | zero =>
      intro c a k f q S B μ' hc hfr hS hB
      have hc : c = 61 := by omega
      subst hc
      refine bc_iload_n dX0_readFrom_6 rfl ?_
      refine bc_bipush (v := 60) dX0_readFrom_7 (by decide) ?_
      refine bc_icmp_gt (tgt := 37) dX0_readFrom_9 (by decide) (fun h9 => ?_) (fun h9 => absurd h9 (fun x => x (by decide)))
      exact bc_return dX0_readFrom_37 rfl (⟨rfl, μ', a, k, f, q, rfl, hfr, hS, fun p hp => (hB p hp).1⟩)
    | succ m ih =>
      intro c a k f q S B μ' hc hfr hS hB
      have h2' : μ' 1 2 = nI n := by rw [hfr 1 (by omega)]; exact h2
      have e2 : μ' 2 = μ 2 := hfr 2 (by omega)
      have ha := tq_le hS
      cases S with
      | inl g =>
        obtain ⟨g1, g2⟩ := g
        refine bc_iload_n dX0_readFrom_6 rfl ?_
        refine bc_bipush (v := 60) dX0_readFrom_7 (by decide) ?_
        refine bc_icmp_gt (tgt := 37) dX0_readFrom_9 (by decide) (fun h9 => absurd h9 (nI_nlt (a := 60) (by omega) (by omega))) (fun h9 => ?_)
        refine bc_aload_n dX0_readFrom_12 rfl ?_
        refine bc_callV (z := mX7_goesOn) (ci := 7) dX0_readFrom_13 lX0_62 qX7_goesOn (by rfl) (by rfl) (by rfl) (by rfl) (Nat.le_of_ble_eq_true rfl) (s_goesOn hn h2' ha) (fun r13 μ13 e13 => ?_)
        obtain ⟨rfl, q13⟩ := e13
        obtain rfl := q13.symm
        refine bc_if_eq (tgt := 37) dX0_readFrom_16 (by decide) (fun h16 => ?_) (fun h16 => absurd h16 (by rw [if_neg (fun x => tq_f hS x.1)]; exact fun x => x rfl))
        exact bc_return dX0_readFrom_37 rfl (⟨rfl, μ', a, k, f, q, rfl, hfr, hS, fun p hp => absurd hp (by simp [pBg])⟩)
      | inr p =>
        obtain ⟨rfl, hpn, hf0, hq0⟩ := id hS
        by_cases hl : a < n
        · obtain ⟨hB1, hO1⟩ := hB a rfl
          simp only [pBg, if_pos hl]
          refine bc_iload_n dX0_readFrom_6 rfl ?_
          refine bc_bipush (v := 60) dX0_readFrom_7 (by decide) ?_
          refine bc_icmp_gt (tgt := 37) dX0_readFrom_9 (by decide) (fun h9 => absurd h9 (nI_nlt (a := 60) (by omega) (by omega))) (fun h9 => ?_)
          refine bc_aload_n dX0_readFrom_12 rfl ?_
          refine bc_callV (z := mX7_goesOn) (ci := 7) dX0_readFrom_13 lX0_62 qX7_goesOn (by rfl) (by rfl) (by rfl) (by rfl) (Nat.le_of_ble_eq_true rfl) (s_goesOn hn h2' ha) (fun r13 μ13 e13 => ?_)
          obtain ⟨rfl, q13⟩ := e13
          obtain rfl := q13.symm
          refine bc_if_eq (tgt := 37) dX0_readFrom_16 (by decide) (fun h16 => absurd h16 (by rw [if_pos ⟨hf0, hl⟩]; decide)) (fun h16 => ?_)
          refine bc_aload_n dX0_readFrom_19 rfl ?_
          refine bc_aload_n dX0_readFrom_20 rfl ?_
          refine bc_iload_n dX0_readFrom_21 rfl ?_
          refine bc_callV (z := mX0_readClause) (ci := 0) dX0_readFrom_22 lX0_68 qX0_readClause (by rfl) (by rfl) (by rfl) (by rfl) (Nat.le_of_ble_eq_true rfl) (s_readClause (d := d) hn h2' hS hB1 hO1 (by omega)) (fun r22 μ22 e22 => ?_)
          obtain ⟨rfl, ν1, a1, k1, f1, q1, rfl, g1, t1, w1⟩ := e22
          refine bc_aload_n dX0_readFrom_25 rfl ?_
          refine bc_bipush (v := 59) dX0_readFrom_26 (by decide) ?_
          refine bc_callV (z := mX7_need) (ci := 7) dX0_readFrom_28 lX0_72 qX7_need (by rfl) (by rfl) (by rfl) (by rfl) (Nat.le_of_ble_eq_true rfl) (s_need (d := d + 5) hn (show ν1 1 2 = nI n by rw [g1 1 (by omega)]; exact h2') t1 (c := 59) (by decide)) (fun r28 μ28 e28 => ?_)
          obtain ⟨rfl, a2, f2, q2, rfl, t2⟩ := e28
          refine bc_iinc1 dX0_readFrom_31 rfl (by decide) rfl ?_
          refine bc_goto (tgt := 6) dX0_readFrom_34 (by decide) ?_
          rw [show ν1 2 = μ 2 from (g1 2 (by omega)).trans e2] at t2
          rw [e2] at t2 w1
          rw [bn_add1]
          refine ih (c + 1) _ _ _ _ _ _ ν1 (by omega) (hfr.trans g1) t2 (fun p hp => ?_)
          obtain ⟨p0, hp0, -, -⟩ := sNeed_ok hp
          obtain ⟨p1, hp1, -⟩ := pCl_inr hp0
          exact ⟨w1 p0 hp0, pCl_ok hO1 (sCl_ok hp1).2.1 hp0⟩
        · simp only [pBg, if_neg hl]
          refine bc_iload_n dX0_readFrom_6 rfl ?_
          refine bc_bipush (v := 60) dX0_readFrom_7 (by decide) ?_
          refine bc_icmp_gt (tgt := 37) dX0_readFrom_9 (by decide) (fun h9 => absurd h9 (nI_nlt (a := 60) (by omega) (by omega))) (fun h9 => ?_)
          refine bc_aload_n dX0_readFrom_12 rfl ?_
          refine bc_callV (z := mX7_goesOn) (ci := 7) dX0_readFrom_13 lX0_62 qX7_goesOn (by rfl) (by rfl) (by rfl) (by rfl) (Nat.le_of_ble_eq_true rfl) (s_goesOn hn h2' ha) (fun r13 μ13 e13 => ?_)
          obtain ⟨rfl, q13⟩ := e13
          obtain rfl := q13.symm
          refine bc_if_eq (tgt := 37) dX0_readFrom_16 (by decide) (fun h16 => ?_) (fun h16 => absurd h16 (by rw [if_neg (fun x => hl x.2)]; exact fun x => x rfl))
          exact bc_return dX0_readFrom_37 rfl (⟨rfl, μ', a, k, f, q, rfl, hfr, hS, fun p hp => (hB a rfl).1⟩)
  refine bc_aload_n dX0_readFrom_0 rfl ?_
  refine bc_callV (z := mX0_empty) (ci := 0) dX0_readFrom_1 lX0_33 qX0_empty (by rfl) (by rfl) (by rfl) (by rfl) (Nat.le_of_ble_eq_true rfl) (s_empty LC_b11) (fun r1 μ1 e1 => ?_)
  obtain ⟨rfl, e1⟩ := e1
  refine bc_iconst (v := 0) dX0_readFrom_4 (by decide) ?_
  refine bc_istore_n dX0_readFrom_5 (by decide) rfl ?_
  obtain ⟨μ', rfl, g1, g2⟩ := em_tx e1
  exact loop 61 0 a k f q (.inr a) bg0 μ' rfl g1 hS (fun p hp => ⟨g2, by unfold bOk bg0; simp⟩)
end RDB
