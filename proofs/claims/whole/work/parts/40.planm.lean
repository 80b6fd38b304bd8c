/-! what the text of a work comes to -/
abbrev PE : Type := Nat × Nat × Nat
abbrev PSt : Type := TS × List PE
def pAgn (t : Nat → Int32) (n : Nat) (g : PSt → PSt) (S : TS) (l : List PE) : PSt :=
  (sNeed t n 93 (g (sNeed t n 91 (sNum t n 0 31 S).1, l ++ [(5, (sNum t n 0 31 S).2, 0)])).1, (g (sNeed t n 91 (sNum t n 0 31 S).1, l ++ [(5, (sNum t n 0 31 S).2, 0)])).2.set l.length (5, (sNum t n 0 31 S).2, (g (sNeed t n 91 (sNum t n 0 31 S).1, l ++ [(5, (sNum t n 0 31 S).2, 0)])).2.length))
/-- behind the word w that began at p -/
def pStW (t : Nat → Int32) (n no nq : Nat) (nest : Option (PSt → PSt)) (p w : Nat) (S : TS) (l : List PE) : PSt :=
  match w with
  | 0 => ((sNum t n 0 no S).1, l ++ [(0, (sNum t n 0 no S).2, 0)])
  | 1 => ((sNum t n 0 no S).1, l ++ [(1, (sNum t n 0 no S).2, 0)])
  | 2 => ((sTwo t n 0 nq 0 100 S).1, l ++ [(2, (sTwo t n 0 nq 0 100 S).2.1, (sTwo t n 0 nq 0 100 S).2.2)])
  | 3 => ((sNum t n 0 nq S).1, l ++ [(3, (sNum t n 0 nq S).2, 0)])
  | 4 => (S, l ++ [(4, 0, 0)])
  | 5 => match nest with
    | none => (sAcc 3 p S, l)
    | some g => pAgn t n g S l
  | _ => (S, l)
def pSt (t : Nat → Int32) (n no nq : Nat) (nest : Option (PSt → PSt)) : PSt → PSt
  | (.inl f, l) => (.inl f, l)
  | (.inr p, l) => pStW t n no nq nest p (sWrd t n (bw 3) (.inr p)).2 (sWrd t n (bw 3) (.inr p)).1 l
def pSs (t : Nat → Int32) (n : Nat) (over : Nat → Bool) (u : PSt → PSt) : Nat → PSt → PSt
  | 0, s => s
  | _ + 1, (.inl f, l) => (.inl f, l)
  | m + 1, (.inr p, l) => if over p = true then (.inr p, l) else pSs t n over u m (sNeed t n 59 (u (.inr p, l)).1, (u (.inr p, l)).2)
def ovB (t : Nat → Int32) (n p : Nat) : Bool := decide (p < n ∧ t p = 93)
def ovT (n p : Nat) : Bool := decide (n ≤ p)
def pStp (t : Nat → Int32) (n no nq : Nat) : Nat → PSt → PSt
  | 0 => pSt t n no nq none
  | dep + 1 => pSt t n no nq (some (pSs t n (ovB t n) (pStp t n no nq dep) 150))
def pWork (t : Nat → Int32) (n no nq p : Nat) : PSt := pSs t n (ovT n) (pStp t n no nq 6) 150 (.inr p, [])
/-! blocks of steps -/
def okE (no nq : Nat) (z : PE) : Prop := z.1 ≤ 4 ∧ (z.1 ≤ 1 → z.2.1 < no) ∧ (z.1 = 2 ∨ z.1 = 3 → z.2.1 < nq) ∧ z.2.1 < 1000 ∧ z.2.2 < 100
def Blk (no nq : Nat) (l : List PE) : Nat → Nat → Nat → Nat → Prop
  | 0, _, p, q => p = q
  | m + 1, dep, p, q => p = q ∨ (p < q ∧ ∃ z, l[p]? = some z ∧ ((okE no nq z ∧ Blk no nq l m dep (p + 1) q) ∨ (z.1 = 5 ∧ z.2.1 ≤ 30 ∧ ∃ dep', dep = dep' + 1 ∧ Blk no nq l m dep' (p + 1) z.2.2 ∧ z.2.2 ≤ q ∧ Blk no nq l m dep z.2.2 q)))
def BlkX (no nq : Nat) (l : List PE) (dep p q : Nat) : Prop := ∃ m, Blk no nq l m dep p q
theorem Blk_le {no nq : Nat} {l : List PE} : ∀ m dep p q, Blk no nq l m dep p q → p ≤ q := by
  intro m
  cases m with
  | zero => intro dep p q h; exact Nat.le_of_eq h
  | succ m =>
    intro dep p q h
    rcases h with h | ⟨h, -⟩ <;> omega
theorem Blk_mono {no nq : Nat} {l : List PE} : ∀ m dep p q, Blk no nq l m dep p q → Blk no nq l (m + 1) dep p q := by
  intro m
  induction m with
  | zero => intro dep p q h; exact .inl h
  | succ m ih =>
    intro dep p q h
    rcases h with h | ⟨h, z, hz, hc⟩
    · exact .inl h
    · refine .inr ⟨h, z, hz, ?_⟩
      rcases hc with ⟨h1, h2⟩ | ⟨h1, h2, dep', h3, h4, h5, h6⟩
      · exact .inl ⟨h1, ih _ _ _ h2⟩
      · exact .inr ⟨h1, h2, dep', h3, ih _ _ _ h4, h5, ih _ _ _ h6⟩
theorem Blk_up {no nq : Nat} {l : List PE} {m m' dep p q : Nat} (h : Blk no nq l m dep p q) (hm : m ≤ m') : Blk no nq l m' dep p q := by
  obtain ⟨k, rfl⟩ : ∃ k, m' = m + k := ⟨m' - m, by omega⟩
  induction k with
  | zero => exact h
  | succ k ih => exact Blk_mono _ _ _ _ (ih (by omega))
theorem Blk_ext {no nq : Nat} {l l' : List PE} : ∀ m dep p q, (∀ i, p ≤ i → i < q → l'[i]? = l[i]?) → Blk no nq l m dep p q → Blk no nq l' m dep p q := by
  intro m
  induction m with
  | zero => intro dep p q _ h; exact h
  | succ m ih =>
    intro dep p q he h
    rcases h with h | ⟨h, z, hz, hc⟩
    · exact .inl h
    · refine .inr ⟨h, z, by rw [he p (Nat.le_refl _) h]; exact hz, ?_⟩
      rcases hc with ⟨h1, h2⟩ | ⟨h1, h2, dep', h3, h4, h5, h6⟩
      · exact .inl ⟨h1, ih _ _ _ (fun i a b => he i (by omega) b) h2⟩
      · have hle := Blk_le _ _ _ _ h4
        exact .inr ⟨h1, h2, dep', h3, ih _ _ _ (fun i a b => he i (by omega) (by omega)) h4, h5, ih _ _ _ (fun i a b => he i (by omega) b) h6⟩
theorem Blk_cat {no nq : Nat} {l : List PE} : ∀ m m' dep p q r, Blk no nq l m dep p q → Blk no nq l m' dep q r → Blk no nq l (m + m') dep p r := by
  intro m
  induction m with
  | zero => intro m' dep p q r h h'; have h : p = q := h; subst h; rw [Nat.zero_add]; exact h'
  | succ m ih =>
    intro m' dep p q r h h'
    have hqr := Blk_le _ _ _ _ h'
    rcases h with h | ⟨h, z, hz, hc⟩
    · subst h; exact Blk_up h' (by omega)
    · rw [show m + 1 + m' = m + m' + 1 by omega]
      refine .inr ⟨by omega, z, hz, ?_⟩
      rcases hc with ⟨h1, h2⟩ | ⟨h1, h2, dep', h3, h4, h5, h6⟩
      · exact .inl ⟨h1, ih _ _ _ _ _ h2 h'⟩
      · exact .inr ⟨h1, h2, dep', h3, Blk_up h4 (by omega), by omega, ih _ _ _ _ _ h6 h'⟩
theorem BlkX_cat {no nq : Nat} {l : List PE} {dep p q r : Nat} (h : BlkX no nq l dep p q) (h' : BlkX no nq l dep q r) : BlkX no nq l dep p r := by
  obtain ⟨m, h⟩ := h
  obtain ⟨m', h'⟩ := h'
  exact ⟨_, Blk_cat _ _ _ _ _ _ h h'⟩
theorem BlkX_ext {no nq : Nat} {l l' : List PE} {dep p q : Nat} (he : ∀ i, p ≤ i → i < q → l'[i]? = l[i]?) (h : BlkX no nq l dep p q) : BlkX no nq l' dep p q := by
  obtain ⟨m, h⟩ := h
  exact ⟨m, Blk_ext _ _ _ _ he h⟩
theorem BlkX_one {no nq : Nat} {l : List PE} {dep : Nat} {z : PE} (h : okE no nq z) : BlkX no nq (l ++ [z]) dep l.length (l ++ [z]).length := by
  refine ⟨1, .inr ⟨by simp, z, by simp, .inl ⟨h, ?_⟩⟩⟩
  show l.length + 1 = _
  simp
/-- one of them after the other, appended to l -/
def goodP (n no nq dep : Nat) (b : Nat) (u : PSt → PSt) : Prop := (∀ f l, (u (.inl f, l)).1 = .inl f) ∧ ∀ S l p', (∀ p, S = .inr p → p ≤ n) → (u (S, l)).1 = .inr p' → ∃ p e, S = .inr p ∧ (u (S, l)).2 = l ++ e ∧ p + b ≤ p' ∧ p' ≤ n ∧ e.length + p ≤ p' ∧ BlkX no nq (l ++ e) dep l.length (l ++ e).length
theorem pSs_good {t : Nat → Int32} {n no nq dep : Nat} {over : Nat → Bool} {u : PSt → PSt} (hu : goodP n no nq dep 1 u) : ∀ m, goodP n no nq dep 0 (pSs t n over u m) := by
  intro m
  induction m with
  | zero =>
    refine ⟨fun f l => rfl, ?_⟩
    intro S l p' hn h
    exact ⟨p', [], h, by simp [pSs], Nat.le_refl _, hn p' h, by simp, ⟨0, by simp [Blk]⟩⟩
  | succ m ih =>
    refine ⟨fun f l => rfl, ?_⟩
    intro S l p' hn h
    cases S with
    | inl f => cases h
    | inr p =>
      simp only [pSs] at h ⊢
      by_cases ho : over p = true
      · rw [if_pos ho] at h ⊢
        have h := Sum.inr.inj h
        exact ⟨p, [], rfl, by simp, by omega, by have := hn p rfl; omega, by simp; omega, ⟨0, by simp [Blk]⟩⟩
      · rw [if_neg ho] at h ⊢
        obtain ⟨p2, e2, a1, a2, a3, a4, a5, a6⟩ := ih.2 _ _ _ (fun x hx => by obtain ⟨y, -, -, z⟩ := sNeed_ok hx; exact z) h
        obtain ⟨p1, b1, b2, b3⟩ := sNeed_ok a1
        obtain ⟨p0, e0, c1, c2, c3, c4, c5, c6⟩ := hu.2 _ _ _ hn b1
        have c1 := Sum.inr.inj c1
        rw [c2] at a2 a6
        refine ⟨p, e0 ++ e2, rfl, by rw [c2, a2]; simp, by omega, a4, by rw [List.length_append]; omega, ?_⟩
        rw [← List.append_assoc]
        refine BlkX_cat (BlkX_ext (fun i x y => ?_) c6) a6
        rw [List.getElem?_append_left y]
theorem okE_num {no nq k v : Nat} (hk : k ≤ 1) (hv : v < no) (hno : no ≤ 8) : okE no nq (k, v, 0) := ⟨by show k ≤ 4; omega, fun _ => hv, fun h => by have h : k = 2 ∨ k = 3 := h; omega, by show v < 1000; omega, by show 0 < 100; omega⟩
theorem okE_q {no nq k v b : Nat} (hk : k = 2 ∨ k = 3) (hv : v < nq) (hnq : nq ≤ 6) (hb : b < 100) : okE no nq (k, v, b) := ⟨by show k ≤ 4; omega, fun h => by have h : k ≤ 1 := h; omega, fun _ => hv, by show v < 1000; omega, hb⟩
theorem pAgn_ok {t : Nat → Int32} {n no nq dep : Nat} {g : PSt → PSt} (hg : goodP n no nq dep 0 g) {S : TS} {l : List PE} {p' : Nat} (h : (pAgn t n g S l).1 = .inr p') : ∃ p e, S = .inr p ∧ (pAgn t n g S l).2 = l ++ e ∧ p < p' ∧ p' ≤ n ∧ e.length + p ≤ p' ∧ BlkX no nq (l ++ e) (dep + 1) l.length (l ++ e).length := by
  unfold pAgn at h ⊢
  simp only at h ⊢
  obtain ⟨p3, b3, c3, d3⟩ := sNeed_ok h
  obtain ⟨p2, e, a1, a2, a3, a4, a5, a6⟩ := hg.2 _ _ _ (fun x hx => by obtain ⟨y, -, -, z⟩ := sNeed_ok hx; exact z) b3
  obtain ⟨p1, b1, c1, d1⟩ := sNeed_ok a1
  obtain ⟨⟨p0, b0, c0, d0⟩, v1, v2⟩ := sNum_ok b1
  generalize hv : (sNum t n 0 31 S).2 = v at *
  rw [a2]
  have hlen : (l ++ [(5, v, 0)] ++ e).length = l.length + 1 + e.length := by simp; omega
  have hset : (l ++ [(5, v, 0)] ++ e).set l.length (5, v, (l ++ [(5, v, 0)] ++ e).length) = l ++ ((5, v, (l ++ [(5, v, 0)] ++ e).length) :: e) := by
    rw [List.append_assoc, List.set_append_right _ _ (Nat.le_refl _)]
    simp
  rw [hset, hlen]
  refine ⟨p0, (5, v, l.length + 1 + e.length) :: e, b0, rfl, by omega, d3, by simp; omega, ?_⟩
  obtain ⟨m, a6⟩ := a6
  have hlen2 : (l ++ (5, v, l.length + 1 + e.length) :: e).length = l.length + 1 + e.length := by simp; omega
  rw [hlen2]
  refine ⟨m + 1, .inr ⟨by omega, (5, v, l.length + 1 + e.length), by simp, .inr ⟨rfl, by show v ≤ 30; omega, dep, rfl, ?_, Nat.le_refl _, Blk_up (m := 0) rfl (by omega)⟩⟩⟩
  have a7 : Blk no nq (l ++ [(5, v, 0)] ++ e) m dep (l.length + 1) (l.length + 1 + e.length) := by
    rw [hlen] at a6
    simpa using a6
  refine Blk_ext _ _ _ _ (fun i x y => ?_) a7
  rw [List.getElem?_append_right (by omega), List.getElem?_append_right (by simp; omega)]
  obtain ⟨k, hk⟩ : ∃ k, i - l.length = k + 1 := ⟨i - l.length - 1, by omega⟩
  rw [hk, List.getElem?_cons_succ]
  congr 1
  simp
  omega
theorem bw3_ne : ([] : List Int32) ∉ bw 3 := by decide
theorem bw3_len : (bw 3).length = 6 := rfl
theorem pSt_good {t : Nat → Int32} {n no nq dep : Nat} {nest : Option (PSt → PSt)} (hno : no ≤ 8) (hnq : nq ≤ 6) (hg : ∀ g, nest = some g → ∃ d', dep = d' + 1 ∧ goodP n no nq d' 0 g) : goodP n no nq dep 1 (pSt t n no nq nest) := by
  refine ⟨fun f l => rfl, ?_⟩
  intro S l p' hn h
  cases S with
  | inl f => cases h
  | inr p =>
    have hp := hn p rfl
    simp only [pSt] at h ⊢
    have hS : ∀ x, (sWrd t n (bw 3) (.inr p)).1 = .inr x → p < x ∧ x ≤ n ∧ (sWrd t n (bw 3) (.inr p)).2 < 6 := fun x hx => by
      obtain ⟨a1, a2, a3, -, -⟩ := sWrd_ok bw3_ne hx hp
      exact ⟨a1, a2, a3⟩
    generalize (sWrd t n (bw 3) (.inr p)).2 = w at *
    generalize (sWrd t n (bw 3) (.inr p)).1 = S1 at *
    match w with
    | 0 =>
      obtain ⟨⟨p1, e1, l1, m1⟩, v1, v2⟩ := sNum_ok (show (sNum t n 0 no S1).1 = .inr p' from h)
      have := hS p1 e1
      exact ⟨p, _, rfl, rfl, by omega, m1, by simp; omega, BlkX_one (okE_num (by omega) v2 hno)⟩
    | 1 =>
      obtain ⟨⟨p1, e1, l1, m1⟩, v1, v2⟩ := sNum_ok (show (sNum t n 0 no S1).1 = .inr p' from h)
      have := hS p1 e1
      exact ⟨p, _, rfl, rfl, by omega, m1, by simp; omega, BlkX_one (okE_num (by omega) v2 hno)⟩
    | 2 =>
      obtain ⟨⟨p1, e1, l1, m1⟩, v1, v2, v3, v4⟩ := sTwo_ok (show (sTwo t n 0 nq 0 100 S1).1 = .inr p' from h)
      have := hS p1 e1
      exact ⟨p, _, rfl, rfl, by omega, m1, by simp; omega, BlkX_one (okE_q (.inl rfl) v2 hnq v4)⟩
    | 3 =>
      obtain ⟨⟨p1, e1, l1, m1⟩, v1, v2⟩ := sNum_ok (show (sNum t n 0 nq S1).1 = .inr p' from h)
      have := hS p1 e1
      exact ⟨p, _, rfl, rfl, by omega, m1, by simp; omega, BlkX_one (okE_q (.inr rfl) v2 hnq (by omega))⟩
    | 4 =>
      have := hS p' h
      exact ⟨p, _, rfl, rfl, by omega, by omega, by simp; omega, BlkX_one ⟨by decide, fun x => absurd x (by decide), fun x => absurd x (by decide), by decide, by decide⟩⟩
    | 5 =>
      cases nest with
      | none => exact (sAcc_inr (show sAcc 3 p S1 = .inr p' from h)).elim
      | some g =>
        obtain ⟨d', rfl, hgd⟩ := hg g rfl
        obtain ⟨p1, e, a1, a2, a3, a4, a5, a6⟩ := pAgn_ok hgd (show (pAgn t n g S1 l).1 = .inr p' from h)
        have := hS p1 a1
        exact ⟨p, e, rfl, a2, by omega, a4, by omega, a6⟩
    | w + 6 =>
      have := hS p' h
      omega
theorem pStp_good {t : Nat → Int32} {n no nq : Nat} (hno : no ≤ 8) (hnq : nq ≤ 6) : ∀ dep, goodP n no nq dep 1 (pStp t n no nq dep) := by
  intro dep
  induction dep with
  | zero => exact pSt_good hno hnq (fun g h => by cases h)
  | succ dep ih => exact pSt_good hno hnq (fun g h => by cases h; exact ⟨dep, rfl, pSs_good ih 150⟩)
