/-! BreadCity$Plan reads its text -/
section RDP
variable {d : Nat} {μ μ0 : bc_M} {n a k no nq : Nat} {f q : Int32}
def fr24 (μ μ' : bc_M) : Prop := (∀ i, i ≠ 24 → i ≠ 25 → i ≠ 26 → i ≠ 27 → μ' i = μ i) ∧ ∀ j, j ≠ 3 → μ' 24 j = μ 24 j
theorem fr24.refl (μ : bc_M) : fr24 μ μ := ⟨fun _ _ _ _ _ => rfl, fun _ _ => rfl⟩
def plR (μ : bc_M) (l : List PE) : Prop := μ 24 3 = nI l.length ∧ ∀ i z, l[i]? = some z → μ 25 i = nI z.1 ∧ μ 26 i = nI z.2.1 ∧ μ 27 i = nI z.2.2
def wS (n : Nat) (μ0 : bc_M) (S : TS) (l : List PE) (ν : bc_M) : Prop := ∃ μ' a' k' f' q', ν = tx μ' a' k' f' q' ∧ fr24 μ0 μ' ∧ tq n S a' f' q' ∧ (∀ p, S = .inr p → plR μ' l)
def p3u (μ : bc_M) (k : Nat) (x y z : Int32) : bc_M := bc_u (bc_u (bc_u (bc_u μ 25 k x) 26 k y) 27 k z) 24 3 (nI (k + 1))
theorem plR_put {l : List PE} {z : PE} (h : plR μ l) : plR (p3u μ l.length (nI z.1) (nI z.2.1) (nI z.2.2)) (l ++ [z]) := by
  have k3 : p3u μ l.length (nI z.1) (nI z.2.1) (nI z.2.2) 24 3 = nI (l.length + 1) := by unfold p3u; rw [bc_u_s]; simp [upd]
  have k5 : p3u μ l.length (nI z.1) (nI z.2.1) (nI z.2.2) 25 = upd (μ 25) l.length (nI z.1) := by unfold p3u; rw [bc_u_i (by decide), bc_u_i (by decide), bc_u_i (by decide), bc_u_s]
  have k6 : p3u μ l.length (nI z.1) (nI z.2.1) (nI z.2.2) 26 = upd (μ 26) l.length (nI z.2.1) := by unfold p3u; rw [bc_u_i (by decide), bc_u_i (by decide), bc_u_s, bc_u_i (by decide)]
  have k7 : p3u μ l.length (nI z.1) (nI z.2.1) (nI z.2.2) 27 = upd (μ 27) l.length (nI z.2.2) := by unfold p3u; rw [bc_u_i (by decide), bc_u_s, bc_u_i (by decide), bc_u_i (by decide)]
  refine ⟨by rw [k3]; simp, ?_⟩
  intro i y hy
  rw [k5, k6, k7]
  by_cases e : i = l.length
  · subst e
    rw [List.getElem?_append_right (Nat.le_refl _)] at hy
    simp at hy
    subst hy
    simp [upd]
  · have hl : i < l.length := by
      have := (List.getElem?_eq_some_iff.mp hy).1
      rw [List.length_append] at this
      simp at this
      omega
    rw [List.getElem?_append_left hl] at hy
    simp only [upd, if_neg e]
    exact h.2 i y hy
theorem fr24_u {i j : Nat} {v : Int32} (h : fr24 μ0 μ) (hi : (i = 24 ∧ j = 3) ∨ i = 25 ∨ i = 26 ∨ i = 27) : fr24 μ0 (bc_u μ i j v) := by
  refine ⟨fun x a b c e => ?_, fun x b => ?_⟩
  · rw [bc_u_i (by omega)]; exact h.1 x a b c e
  · by_cases e : i = 24
    · subst e
      have hj : j = 3 := by omega
      subst hj
      rw [bc_u_s]; simp only [upd, if_neg b]; exact h.2 x b
    · rw [bc_u_i (fun y => e y.symm)]; exact h.2 x b
theorem fr24_p3 {k : Nat} {x y z : Int32} (h : fr24 μ0 μ) : fr24 μ0 (p3u μ k x y z) := fr24_u (fr24_u (fr24_u (fr24_u h (by omega)) (by omega)) (by omega)) (by omega)
theorem s_pput0 (x y z : Int32) : bc_C d LC mX5_put [.ref 24, .int x, .int y, .int z] μ (fun r ν => r = none ∧ ((¬ vp_in (μ 24 3) 150 ∧ ν = μ) ∨ (∃ k, k < 150 ∧ μ 24 3 = nI k ∧ ν = p3u μ k x y z))) := by
  refine bc_enter (by decide) (Nat.le_of_ble_eq_true rfl) rfl ?_
  by_cases h : vp_in (μ 24 3) 150
  · obtain ⟨k, hk, e⟩ : ∃ k, k < 150 ∧ μ 24 3 = nI k := by
      rcases pk_ix (μ 24 3) (n := 150) (by omega) with h1 | h1 | ⟨j, h1, h2⟩
      · exact absurd h (bn_neg h1)
      · exact absurd h (bn_out (by omega) h1)
      · exact ⟨j, h1, h2⟩
    refine bc_aload_n dX5_put_0 rfl ?_
    refine bc_geti dX5_put_1 fX5_21 (rfl) rfl ?_
    refine bc_if_lt (tgt := 83) dX5_put_4 (by decide) (fun h4 => absurd h4 (by rw [e]; exact nI_pos (by omega))) (fun h4 => ?_)
    refine bc_aload_n dX5_put_7 rfl ?_
    refine bc_geti dX5_put_8 fX5_21 (rfl) rfl ?_
    refine bc_aload_n dX5_put_11 rfl ?_
    refine bc_getr dX5_put_12 fX5_9 (rfl) rfl ?_
    refine bc_len0 dX5_put_15 (rfl) ?_
    refine bc_icmp_ge (tgt := 83) dX5_put_16 (by decide) (fun h16 => absurd h16 (by rw [e]; exact nI_ge hk (by omega))) (fun h16 => ?_)
    refine bc_aload_n dX5_put_19 rfl ?_
    refine bc_geti dX5_put_20 fX5_21 (rfl) rfl ?_
    refine bc_aload_n dX5_put_23 rfl ?_
    refine bc_getr dX5_put_24 fX5_15 (rfl) rfl ?_
    refine bc_len0 dX5_put_27 (rfl) ?_
    refine bc_icmp_ge (tgt := 83) dX5_put_28 (by decide) (fun h28 => absurd h28 (by rw [e]; exact nI_ge hk (by omega))) (fun h28 => ?_)
    refine bc_aload_n dX5_put_31 rfl ?_
    refine bc_geti dX5_put_32 fX5_21 (rfl) rfl ?_
    refine bc_aload_n dX5_put_35 rfl ?_
    refine bc_getr dX5_put_36 fX5_18 (rfl) rfl ?_
    refine bc_len0 dX5_put_39 (rfl) ?_
    refine bc_icmp_ge (tgt := 83) dX5_put_40 (by decide) (fun h40 => absurd h40 (by rw [e]; exact nI_ge hk (by omega))) (fun h40 => ?_)
    refine bc_aload_n dX5_put_43 rfl ?_
    refine bc_getr dX5_put_44 fX5_9 (rfl) rfl ?_
    refine bc_aload_n dX5_put_47 rfl ?_
    refine bc_geti dX5_put_48 fX5_21 (rfl) rfl ?_
    refine bc_iload_n dX5_put_51 rfl ?_
    refine bc_iastE dX5_put_52 (rfl) (e) (by omega) ?_
    refine bc_aload_n dX5_put_53 rfl ?_
    refine bc_getr dX5_put_54 fX5_15 (rfl) rfl ?_
    refine bc_aload_n dX5_put_57 rfl ?_
    refine bc_geti dX5_put_58 fX5_21 (rfl) rfl ?_
    refine bc_iload_n dX5_put_61 rfl ?_
    refine bc_iastE dX5_put_62 (rfl) (by rw [bc_u_i (by decide)]; exact e) (by omega) ?_
    refine bc_aload_n dX5_put_63 rfl ?_
    refine bc_getr dX5_put_64 fX5_18 (rfl) rfl ?_
    refine bc_aload_n dX5_put_67 rfl ?_
    refine bc_geti dX5_put_68 fX5_21 (rfl) rfl ?_
    refine bc_iload_n dX5_put_71 rfl ?_
    refine bc_iastE dX5_put_72 (rfl) (by rw [bc_u_i (by decide), bc_u_i (by decide)]; exact e) (by omega) ?_
    refine bc_aload_n dX5_put_73 rfl ?_
    refine bc_dup dX5_put_74 rfl ?_
    refine bc_geti dX5_put_75 fX5_21 (rfl) rfl ?_
    refine bc_iconst (v := 1) dX5_put_78 (by decide) ?_
    refine bc_iadd dX5_put_79 ?_
    refine bc_put dX5_put_80 fX5_21 ftX5 fpX5_3 rfl rfl (rfl) rfl ?_
    exact bc_return dX5_put_83 rfl (by
refine ⟨rfl, .inr ⟨k, hk, e, ?_⟩⟩
rw [bc_u_i (by decide), bc_u_i (by decide), bc_u_i (by decide), e, bn_add1]
rfl)
  · skip
    refine bc_aload_n dX5_put_0 rfl ?_
    refine bc_geti dX5_put_1 fX5_21 (rfl) rfl ?_
    refine bc_if_lt (tgt := 83) dX5_put_4 (by decide) (fun h4 => ?_) (fun h4 => ?_)
    · exact bc_return dX5_put_83 rfl (⟨rfl, .inl ⟨h, rfl⟩⟩)
    · refine bc_aload_n dX5_put_7 rfl ?_
      refine bc_geti dX5_put_8 fX5_21 (rfl) rfl ?_
      refine bc_aload_n dX5_put_11 rfl ?_
      refine bc_getr dX5_put_12 fX5_9 (rfl) rfl ?_
      refine bc_len0 dX5_put_15 (rfl) ?_
      refine bc_icmp_ge (tgt := 83) dX5_put_16 (by decide) (fun h16 => ?_) (fun h16 => absurd h16 (fun _ => h (bn_in (by omega) h4 h16)))
      exact bc_return dX5_put_83 rfl (⟨rfl, .inl ⟨h, rfl⟩⟩)
theorem s_pput {S : TS} {l : List PE} {z : PE} {x y v : Int32} (h : wS n μ0 S l μ) (hx : ∀ p, S = .inr p → x = nI z.1 ∧ y = nI z.2.1 ∧ v = nI z.2.2 ∧ l.length < 150) : bc_C d LC mX5_put [.ref 24, .int x, .int y, .int v] μ (fun r ν => r = none ∧ wS n μ0 S (l ++ [z]) ν) := by
  refine bc_C.weaken (s_pput0 x y v) (fun r ν hq => ⟨hq.1, ?_⟩)
  obtain ⟨μ', a', k', f', q', rfl, e1, e2, e3⟩ := h
  rcases hq.2 with ⟨h1, rfl⟩ | ⟨k, hk, e, rfl⟩
  · refine ⟨μ', a', k', f', q', rfl, e1, e2, fun p hp => ?_⟩
    obtain ⟨-, -, -, h4⟩ := hx p hp
    rw [tx_i _ _ _ _ _ (by decide), (e3 p hp).1] at h1
    exact absurd (vp_in_nI h4 (by omega)) h1
  · rw [tx_i _ _ _ _ _ (by decide)] at e
    refine ⟨p3u μ' k x y v, a', k', f', q', ?_, fr24_p3 e1, e2, fun p hp => ?_⟩
    · unfold p3u
      rw [tx_u _ _ _ _ _ (by decide), tx_u _ _ _ _ _ (by decide), tx_u _ _ _ _ _ (by decide), tx_u _ _ _ _ _ (by decide)]
    · obtain ⟨h3, h4, h5, h6⟩ := hx p hp
      have hk2 : k = l.length := by
        have := e.symm.trans (e3 p hp).1
        rwa [bn_eqN (by omega) (by omega)] at this
      subst hk2
      rw [h3, h4, h5]
      exact plR_put (e3 p hp)
theorem wS_n {S : TS} {l : List PE} (h : wS n μ0 S l μ) (h2 : μ0 1 2 = nI n) : ∃ μ' a' k' f' q', μ = tx μ' a' k' f' q' ∧ fr24 μ0 μ' ∧ tq n S a' f' q' ∧ (∀ p, S = .inr p → plR μ' l) ∧ μ' 1 2 = nI n ∧ μ' 2 = μ0 2 := by
  obtain ⟨μ', a', k', f', q', rfl, e1, e2, e3⟩ := h
  exact ⟨μ', a', k', f', q', rfl, e1, e2, e3, by rw [e1.1 1 (by decide) (by decide) (by decide) (by decide)]; exact h2, e1.1 2 (by decide) (by decide) (by decide) (by decide)⟩
theorem s_wneed {S : TS} {l : List PE} (hn : n ≤ 600) (h2 : μ0 1 2 = nI n) (h : wS n μ0 S l μ) {c : Int32} (hc : ¬ c = -1) : bc_C (d + 1) LC mX7_need [.ref 1, .int c] μ (fun r ν => r = none ∧ wS n μ0 (sNeed (μ0 2) n c S) l ν) := by
  obtain ⟨μ', a', k', f', q', rfl, e1, e2, e3, e4, e5⟩ := wS_n h h2
  refine bc_C.weaken (s_need hn e4 e2 hc) (fun r ν hq => ⟨hq.1, ?_⟩)
  obtain ⟨-, a2, f2, q2, rfl, t2⟩ := hq
  rw [e5] at t2
  exact ⟨μ', a2, k', f2, q2, rfl, e1, t2, fun p hp => by obtain ⟨p0, hp0, -⟩ := sNeed_ok hp; exact e3 p0 hp0⟩
theorem s_wnum {S : TS} {l : List PE} {LO HI : Nat} {lo hi : Int32} (hn : n ≤ 600) (h2 : μ0 1 2 = nI n) (h : wS n μ0 S l μ) (hlo : lo = nI LO) (hhi : hi = nI HI - 1) (hL : LO ≤ 1) (hH : HI ≤ 1000) : bc_C (d + 2) LC mX7_number [.ref 1, .int lo, .int hi] μ (fun r ν => ∃ v, r = some (.int v) ∧ wS n μ0 (sNum (μ0 2) n LO HI S).1 l ν ∧ (∀ p', (sNum (μ0 2) n LO HI S).1 = .inr p' → v = nI (sNum (μ0 2) n LO HI S).2)) := by
  obtain ⟨μ', a', k', f', q', rfl, e1, e2, e3, e4, e5⟩ := wS_n h h2
  refine bc_C.weaken (s_number hn e4 e2 hlo hhi hL hH) (fun r ν hq => ?_)
  obtain ⟨a2, f2, q2, v, rfl, rfl, t2, w2⟩ := hq
  rw [e5] at t2 w2
  exact ⟨v, rfl, ⟨μ', a2, a', f2, q2, rfl, e1, t2, fun p hp => by obtain ⟨⟨p0, hp0, -⟩, -⟩ := sNum_ok hp; exact e3 p0 hp0⟩, w2⟩
theorem s_wsound {S : TS} {l : List PE} (h : wS n μ0 S l μ) : bc_C d LC mX7_isSound [.ref 1] μ (fun r ν => r = some (.int (sdI S)) ∧ ν = μ) := by
  obtain ⟨μ', a', k', f', q', rfl, e1, e2, e3⟩ := h
  refine bc_C.weaken s_sound (fun r ν hq => ⟨?_, hq.2⟩)
  rw [hq.1]
  cases S with
  | inl x => obtain ⟨x, y⟩ := x; rw [if_neg (tq_f e2)]; rfl
  | inr p => rw [if_pos e2.2.2.1]; rfl
def Wok (n : Nat) (μ0 : bc_M) (D : Nat) (y : bc_Y) (as : List Value) (F : PSt → PSt) : Prop := ∀ (μ : bc_M) (S : TS) (l : List PE), wS n μ0 S l μ → (∀ p, S = .inr p → l.length ≤ p ∧ p ≤ n) → bc_C D LC y as μ (fun r ν => r = none ∧ wS n μ0 (F (S, l)).1 (F (S, l)).2 ν)
def Wok1 (n : Nat) (μ0 : bc_M) (D : Nat) (y : bc_Y) (as : List Value) (F : PSt → PSt) : Prop := ∀ (μ : bc_M) (p : Nat) (l : List PE), wS n μ0 (.inr p) l μ → l.length ≤ p → p ≤ n → bc_C D LC y as μ (fun r ν => r = none ∧ wS n μ0 (F (.inr p, l)).1 (F (.inr p, l)).2 ν)
theorem plR_set {l e : List PE} {z z' : PE} {l4 : List PE} (h : plR μ l4) (he : l4 = l ++ [z] ++ e) (h1 : z'.1 = z.1) (h2 : z'.2.1 = z.2.1) (h3 : z'.2.2 = l4.length) : plR (bc_u μ 27 l.length (nI l4.length)) (l4.set l.length z') := by
  refine ⟨?_, ?_⟩
  · rw [bc_u_i (by decide), List.length_set]; exact h.1
  · intro i y hy
    rw [bc_u_i (by decide), bc_u_i (by decide), bc_u_s]
    rw [List.getElem?_set] at hy
    by_cases e : l.length = i
    · subst e
      have hl : l.length < l4.length := by rw [he]; simp
      rw [if_pos rfl, if_pos hl] at hy
      cases hy
      have hz : l4[l.length]? = some z := by rw [he]; simp
      obtain ⟨b1, b2, b3⟩ := h.2 _ _ hz
      refine ⟨by rw [h1]; exact b1, by rw [h2]; exact b2, ?_⟩
      simp [upd, h3]
    · rw [if_neg e] at hy
      obtain ⟨b1, b2, b3⟩ := h.2 _ _ hy
      refine ⟨b1, b2, ?_⟩
      simp only [upd]
      rw [if_neg (fun x => e x.symm)]
      exact b3
theorem s_readAgain {o p1 dep : Nat} {nest : Option (PSt → PSt)} {l : List PE} (hn : n ≤ 150) (h2 : μ0 1 2 = nI n) (hO : (nest = none ∧ o = 6) ∨ (∃ g, nest = some g ∧ o < 6 ∧ goodP n no nq dep 0 g ∧ Wok n μ0 (d + 7) mX5_readSteps [.ref 24, .ref 1, .ref 3, .int (nI (o + 1))] g)) (e1 : fr24 μ0 μ) (hS : tq n (.inr p1) a f q) (hk : k ≤ n) (hR : plR μ l) (hlp : l.length < p1) : bc_C (d + 8) LC mX5_readAgain [.ref 24, .ref 1, .ref 3, .int (nI o)] (tx μ a k f q) (fun r ν => r = none ∧ wS n μ0 (pStW (μ0 2) n no nq nest k 5 (.inr p1) l).1 (pStW (μ0 2) n no nq nest k 5 (.inr p1) l).2 ν) := by
  have hpn : p1 ≤ n := hS.2.1
  have hw : wS n μ0 (.inr p1) l (tx μ a k f q) := ⟨μ, a, k, f, q, rfl, e1, hS, fun _ _ => hR⟩
  refine bc_enter (by decide) (Nat.le_of_ble_eq_true rfl) rfl ?_
  rcases hO with ⟨rfl, rfl⟩ | ⟨g, rfl, hlt6, hg, hG⟩
  · skip
    refine bc_iload_n dX5_readAgain_0 rfl ?_
    refine bc_bipush (v := 6) dX5_readAgain_1 (by decide) ?_
    refine bc_icmp_lt (tgt := 16) dX5_readAgain_3 (by decide) (fun h3 => absurd h3 (by decide)) (fun h3 => ?_)
    refine bc_aload_n dX5_readAgain_6 rfl ?_
    refine bc_iconst (v := 3) dX5_readAgain_7 (by decide) ?_
    refine bc_aload_n dX5_readAgain_8 rfl ?_
    refine bc_geti dX5_readAgain_9 fX5_74 (rfl) rfl ?_
    refine bc_callV (z := mX7_accuse) (ci := 7) dX5_readAgain_12 lX5_77 qX7_accuse (by rfl) (by rfl) (by rfl) (by rfl) (Nat.le_of_ble_eq_true rfl) (s_accuse _ _) (fun r12 μ12 e12 => ?_)
    obtain ⟨rfl, q12⟩ := e12
    obtain rfl := q12.symm
    exact bc_return dX5_readAgain_15 rfl (by
refine ⟨rfl, μ, a, k, _, _, rfl, e1, ?_, fun p hp => (sAcc_inr (show sAcc 3 k (.inr p1) = .inr p from hp)).elim⟩
rw [tx_4]
exact tq_acc (kd := 3) (pl := k) hS (by omega) (by omega) hk)
  · skip
    refine bc_iload_n dX5_readAgain_0 rfl ?_
    refine bc_bipush (v := 6) dX5_readAgain_1 (by decide) ?_
    refine bc_icmp_lt (tgt := 16) dX5_readAgain_3 (by decide) (fun h3 => ?_) (fun h3 => absurd h3 (fun x => x (nI_lt (b := 6) hlt6 (by omega))))
    refine bc_aload_n dX5_readAgain_16 rfl ?_
    refine bc_geti dX5_readAgain_17 fX5_21 (rfl) rfl ?_
    rw [tx_i _ _ _ _ _ (by decide), hR.1]
    refine bc_istore dX5_readAgain_20 (by decide) rfl ?_
    refine bc_aload_n dX5_readAgain_22 rfl ?_
    refine bc_iconst (v := 5) dX5_readAgain_23 (by decide) ?_
    refine bc_aload_n dX5_readAgain_24 rfl ?_
    refine bc_iconst (v := 0) dX5_readAgain_25 (by decide) ?_
    refine bc_bipush (v := 30) dX5_readAgain_26 (by decide) ?_
    refine bc_callV (z := mX7_number) (ci := 7) dX5_readAgain_28 lX5_60 qX7_number (by rfl) (by rfl) (by rfl) (by rfl) (Nat.le_of_ble_eq_true rfl) (s_wnum (d := d + 5) (LO := 0) (HI := 31) (by omega) h2 hw (by decide) (by decide) (by omega) (by omega)) (fun r28 μ28 e28 => ?_)
    obtain ⟨v, rfl, h28, w28⟩ := e28
    refine bc_iconst (v := 0) dX5_readAgain_31 (by decide) ?_
    refine bc_callV (z := mX5_put) (ci := 5) dX5_readAgain_32 lX5_64 qX5_put (by rfl) (by rfl) (by rfl) (by rfl) (Nat.le_of_ble_eq_true rfl) (s_pput (z := (5, (sNum (μ0 2) n 0 31 (.inr p1)).2, 0)) h28 (fun p hp => ⟨rfl, w28 p hp, rfl, by omega⟩)) (fun r32 μ32 e32 => ?_)
    obtain ⟨rfl, h32⟩ := e32
    refine bc_aload_n dX5_readAgain_35 rfl ?_
    refine bc_bipush (v := 91) dX5_readAgain_36 (by decide) ?_
    refine bc_callV (z := mX7_need) (ci := 7) dX5_readAgain_38 lX5_45 qX7_need (by rfl) (by rfl) (by rfl) (by rfl) (Nat.le_of_ble_eq_true rfl) (s_wneed (d := d + 6) (by omega) h2 h32 (by decide)) (fun r38 μ38 e38 => ?_)
    obtain ⟨rfl, h38⟩ := e38
    refine bc_aload_n dX5_readAgain_41 rfl ?_
    refine bc_aload_n dX5_readAgain_42 rfl ?_
    refine bc_aload_n dX5_readAgain_43 rfl ?_
    refine bc_iload_n dX5_readAgain_44 rfl ?_
    refine bc_iconst (v := 1) dX5_readAgain_45 (by decide) ?_
    refine bc_iadd dX5_readAgain_46 ?_
    rw [bn_add1]
    refine bc_callV (z := mX5_readSteps) (ci := 5) dX5_readAgain_47 lX5_25 qX5_readSteps (by rfl) (by rfl) (by rfl) (by rfl) (Nat.le_of_ble_eq_true rfl) (hG _ _ _ h38 (fun p hp => by obtain ⟨x1, y1, z1, u1⟩ := sNeed_ok hp; obtain ⟨⟨x2, y2, z2, u2⟩, -⟩ := sNum_ok y1; have y2 := Sum.inr.inj y2; simp only [List.length_append, List.length_cons, List.length_nil]; omega)) (fun r47 μ47 e47 => ?_)
    obtain ⟨rfl, h47⟩ := e47
    refine bc_aload_n dX5_readAgain_50 rfl ?_
    refine bc_bipush (v := 93) dX5_readAgain_51 (by decide) ?_
    refine bc_callV (z := mX7_need) (ci := 7) dX5_readAgain_53 lX5_45 qX7_need (by rfl) (by rfl) (by rfl) (by rfl) (Nat.le_of_ble_eq_true rfl) (s_wneed (d := d + 6) (by omega) h2 h47 (by decide)) (fun r53 μ53 e53 => ?_)
    obtain ⟨rfl, h53⟩ := e53
    refine bc_iload dX5_readAgain_56 rfl ?_
    refine bc_if_lt (tgt := 82) dX5_readAgain_58 (by decide) (fun h58 => absurd h58 (nI_pos (by omega))) (fun h58 => ?_)
    refine bc_iload dX5_readAgain_61 rfl ?_
    refine bc_aload_n dX5_readAgain_63 rfl ?_
    refine bc_getr dX5_readAgain_64 fX5_18 (rfl) rfl ?_
    refine bc_len0 dX5_readAgain_67 (rfl) ?_
    refine bc_icmp_ge (tgt := 82) dX5_readAgain_68 (by decide) (fun h68 => absurd h68 (by rw [bn_leN (by omega) (by omega)]; omega)) (fun h68 => ?_)
    refine bc_aload_n dX5_readAgain_71 rfl ?_
    refine bc_getr dX5_readAgain_72 fX5_18 (rfl) rfl ?_
    refine bc_iload dX5_readAgain_75 rfl ?_
    refine bc_aload_n dX5_readAgain_77 rfl ?_
    refine bc_geti dX5_readAgain_78 fX5_21 (rfl) rfl ?_
    refine bc_iastE dX5_readAgain_81 (rfl) (rfl) (by omega) ?_
    exact bc_return dX5_readAgain_82 rfl (by
obtain ⟨μ5, a5, k5, f5, q5, rfl, g1, g2, g3⟩ := h53
rw [tx_i _ _ _ _ _ (by decide), tx_u _ _ _ _ _ (by decide)]
refine ⟨rfl, _, a5, k5, f5, q5, rfl, fr24_u g1 (by omega), g2, fun p hp => ?_⟩
obtain ⟨x1, y1, -, -⟩ := sNeed_ok (show sNeed (μ0 2) n 93 (g (sNeed (μ0 2) n 91 (sNum (μ0 2) n 0 31 (.inr p1)).1, l ++ [(5, (sNum (μ0 2) n 0 31 (.inr p1)).2, 0)])).1 = .inr p from hp)
obtain ⟨x2, e, y2, y3, -, -, -, -⟩ := hg.2 _ _ _ (fun x hx => by obtain ⟨y, -, -, z⟩ := sNeed_ok hx; exact z) y1
rw [(g3 p hp).1]
exact plR_set (z := (5, (sNum (μ0 2) n 0 31 (.inr p1)).2, 0)) (g3 p hp) y3 rfl rfl rfl)
end RDP
