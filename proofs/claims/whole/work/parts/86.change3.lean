/-! work, bog -/
section T86
variable {n no nq nr nm tp w0 ki : Nat} {m ξ ν M : bc_M} {yC yM : bc_Y} {as : List Value} {v : Value} {t : Nat → Int32}
theorem p_work {q : Int32} (h : REL M m) (g : 0 ≤ q ∧ q ≤ M 1 1 ∧ q ≤ 150) : Pr mX9_work mX10_work [.int q] M m := by
  obtain ⟨n, no, nq, nr, nm, tp, w0, ki, hR⟩ := h
  obtain ⟨⟨hE, hRM, ⟨hN, hA, hH⟩, hNB, hoq, hkn⟩, ⟨⟨ht1, ht2, ht3⟩, hb8, h8⟩, ⟨hx1, hx2, hx3⟩, ⟨hbk, hbl⟩, ⟨⟨hw1, hw2, hw3⟩, hwr⟩, ⟨hi1, hi2, hi3⟩, hir⟩ := id hR
  obtain ⟨a, ha, rfl⟩ := n_of (b := 150) (by decide) (Int32.not_lt.mpr g.1) g.2.2
  have hat : a ≤ tp := by
    have := g.2.1
    rw [ht2] at this
    exact Nat.le_of_not_lt (fun z => absurd this (Int32.not_le.mpr ((bn_ltN (by omega) (by omega)).mpr z)))
  by_cases hlt : w0 < 16
  · have tM := t_work (d := 24) (t := M 2) hE hN hA hH ht1 ht3 hat ha hb8 hw1 hlt
    cases hS : (pWork (M 2) a no nq (skp (M 2) a 0)).1 with
    | inl f =>
      unfold wkQ at tM
      rw [hS] at tM
      exact Pr.fl hR (fun i j z => by unfold D0; omega) (s_workE hE.1.1.1 hE.1.1.2.1 hE.1.2.1.1 hE.1.2.1.2.1 ht2 ht3 hat ha hw2 hlt hS) tM
    | inr p =>
      have tC := s_workOK (d := 10) hE.1 ht2 ht3 hat ha hw2 hlt hS
      unfold wkQ wkS at tM
      rw [hS] at tM
      generalize runP (pWork (M 2) a no nq (skp (M 2) a 0)).2 (actR M n no nq) 201 0 (pWork (M 2) a no nq (skp (M 2) a 0)).2.length (0, 0, 0, row 31 M) = s at tC tM
      refine ⟨_, _, _, by exact .inr ⟨rfl, _, rfl⟩, tC, tM, fun ν ξ p q => ?_⟩
      obtain ⟨p1, p2, p3, p4, p5, p6, p7, p8⟩ := p
      obtain ⟨η, hw, e8, q1, q2, q3, q4, q5, q6, q7, q8⟩ := q
      have hF := hR.fl (ν := bc_u (bc_u M 1 1 0) 1 6 (-1)) (ξ := η) (q := -1) (fun i j z _ => by rw [bu2 (fun y => z y.1), bu2 (fun y => z y.1)]) rfl rfl hw e8
      obtain ⟨⟨b1, ⟨b2, b3⟩, b4, b5, b6, -⟩, a2, a3, a4, a5, a6⟩ := hF
      have c1 : ∀ i j, ¬ (i = 1 ∨ (22 ≤ i ∧ i ≤ 27) ∨ (31 ≤ i ∧ i ≤ 37) ∨ i = 47 + w0 ∨ (i = 45 ∧ j = 1) ∨ (i = 0 ∧ j = 11) ∨ (i = 117 ∧ j = 7)) → ν i j = bc_u (bc_u M 1 1 0) 1 6 (-1) i j := fun i j x => by
        rw [bu2 (by omega), bu2 (by omega)]
        exact p1 i j (by omega) (by omega) (by unfold scr; omega) (by omega) (by omega) (by omega) (by omega) (by omega) (by omega) (by omega) (by omega)
      have r : ∀ i, ¬ (i = 0 ∨ i = 15 ∨ i = 16 ∨ (18 ≤ i ∧ i ≤ 21)) → ξ i = η i := fun i z => q1 i (by omega) (by omega) (by omega) (by omega) (by omega) (by omega) (by omega)
      have r' : ∀ i, ¬ (i = 0 ∨ i = 15 ∨ i = 16 ∨ (18 ≤ i ∧ i ≤ 21)) → ∀ j, ξ i j = η i j := fun i z j => by rw [r i z]
      refine ⟨⟨n, no, nq, nr, nm, 0, w0 + 1, ki, ⟨(b1.cM ⟨fun i j x y => c1 i j (by omega), c1 19 1 (by omega), fun j => c1 20 j (by omega)⟩).mv2 (fun k x y z => q2 k (by omega)) (fun i x y z u => r i (by omega)), ⟨(c1 3 2 (by omega)).trans b2, (c1 3 3 (by omega)).trans b3⟩, ?_, ⟨fun q hq => ?_, fun o ho => ?_⟩, b6, .inl p5⟩, RT.fresh p7 ((q2 2 (by omega)).trans hw.2.2.2) ((q2 8 (by omega)).trans (e8.trans p8.symm)), ⟨q4.trans p4.symm, ?_, ?_⟩, a4.cg (c1 28 1 (by omega)) (fun j => c1 29 j (by omega)) (q2 50 (by omega)) (fun j => r' 23 (by omega) j), ⟨⟨q3, p2, by omega⟩, fun j hj => ?_⟩, a6.cg (c1 45 5 (by omega)) (fun i j a b => c1 i j (by omega)) (q2 59 (by omega)) (fun j => r' 30 (by omega) j)⟩, (q2 0 (by omega)).trans hw.2.2.1⟩
      · rw [p6]; exact ⟨q6, q7, q8⟩
      · rw [c1 5 q (by omega)]; exact b5.1 q hq
      · rw [c1 7 o (by omega)]; exact b5.2 o ho
      · rw [r' 1 (by omega) 0, c1 0 12 (by omega)]; exact a3.2.1
      · rw [r' 1 (by omega) 1, c1 0 13 (by omega)]; exact a3.2.2
      · by_cases e : j = w0
        · subst e
          refine hR.1.2.2.1.cg p3 (fun k hk => ?_)
          show ξ 21 (33 * j + k) = _
          rw [q5]
          unfold pwN
          rw [if_pos (by omega), Nat.add_sub_cancel_left]
        · refine (hwr j (by omega)).cg (fun k hk => (c1 _ _ (by omega)).trans (by rw [bu2 (by omega), bu2 (by omega)])) (fun k hk => ?_)
          show ξ 21 (33 * j + k) = _
          rw [q5]
          unfold pwN
          rw [if_neg (by omega)]
  · have hw16 : w0 = 16 := by omega
    subst hw16
    exact ⟨_, _, _, by exact .inr ⟨rfl, _, rfl⟩, s_workF (d := 38) ht2 ht3 hat ha hw2, t_workF (d := 38) (t := M 2) ht1 ht3 hat ha hb8 hw1, fun ν ξ p q => ⟨⟨_, _, _, _, _, _, _, _, hR.fl (fun i j z _ => p.2.2 i j z) p.1 p.2.1 q.1 q.2⟩, q.1.2.2.1⟩⟩
theorem rd_bt {x y : Nat} (hx : x < 32) : ∀ l : List (Nat × Nat), (∀ z ∈ l, z.1 < 32) → (bt (rdB l y) x = true ↔ (x, y) ∈ l) := by
  intro l
  induction l with
  | nil => intro _; simp [rdB, b_0]
  | cons z l ih =>
    intro hl
    obtain ⟨a, b⟩ := z
    have ha : a < 32 := hl (a, b) List.mem_cons_self
    have ih := ih (fun z hz => hl z (List.mem_cons_of_mem _ hz))
    simp only [rdB]
    by_cases e : b = y
    · rw [if_pos e, b_or, b_sh1 ha hx, Bool.or_eq_true, ih, List.mem_cons, decide_eq_true_iff]
      constructor
      · rintro (q | q)
        · exact .inr q
        · exact .inl (by rw [q, e])
      · rintro (q | q)
        · exact .inr (Prod.mk.inj q).1
        · exact .inl q
    · rw [if_neg e, ih, List.mem_cons]
      constructor
      · exact fun q => .inr q
      · rintro (q | q)
        · exact absurd (Prod.mk.inj q).2.symm e
        · exact q
theorem moB_iff {X Y : Nat → Int32} {x y : Int32} : ∀ (c k : Nat), moB X Y x y c k = true ↔ ∃ i, k ≤ i ∧ i < k + c ∧ X i = x ∧ Y i = y := by
  intro c
  induction c with
  | zero =>
    intro k
    constructor
    · intro q
      exact absurd q (by simp [moB])
    · rintro ⟨i, a, b, _⟩
      omega
  | succ c ih =>
    intro k
    simp only [moB, Bool.or_eq_true, Bool.and_eq_true, decide_eq_true_iff]
    rw [ih]
    constructor
    · rintro (⟨a, b⟩ | ⟨i, a, b, q⟩)
      · exact ⟨k, by omega, by omega, a, b⟩
      · exact ⟨i, by omega, by omega, q⟩
    · rintro ⟨i, a, b, q⟩
      by_cases e : i = k
      · subst e; exact .inl q
      · exact .inr ⟨i, by omega, by omega, q⟩
theorem Ex_fst : Ex fstL := by
  intro h
  simp [fstL, chk]
theorem reeds {l : List (Nat × Nat)} {f : Nat → Int32} {x y : Nat} (hf : p2R f l) (hl : ∀ z ∈ l, z.1 < 31 ∧ z.2 < 31) (hx : x < 31) (hy : y < 31) : moB (fun k => f (2 * k)) (fun k => f (2 * k + 1)) (nI x) (nI y) l.length 0 = true ↔ rdB l.reverse y >>> (nI x &&& 31) &&& 1 = 1 := by
  rw [b_is _ (by omega), rd_bt (by omega) _ (fun z hz => by have := hl z (List.mem_reverse.mp hz); omega), List.mem_reverse, moB_iff]
  constructor
  · rintro ⟨i, -, hi, e1, e2⟩
    have hi2 : i < l.length := by omega
    have hg : l[i]? = some l[i] := List.getElem?_eq_getElem hi2
    have hm : l[i] ∈ l := List.getElem_mem hi2
    have hz := hl _ hm
    obtain ⟨g1, g2⟩ := hf i _ hg
    have e1 : f (2 * i) = nI x := e1
    have e2 : f (2 * i + 1) = nI y := e2
    have k1 : l[i].1 = x := (bn_eqN (by omega) (by omega)).mp (g1.symm.trans e1)
    have k2 : l[i].2 = y := (bn_eqN (by omega) (by omega)).mp (g2.symm.trans e2)
    rw [← k1, ← k2]
    exact hm
  · intro hm
    obtain ⟨i, hi, e⟩ := List.getElem_of_mem hm
    have hg : l[i]? = some (x, y) := by rw [List.getElem?_eq_getElem hi, e]
    obtain ⟨g1, g2⟩ := hf i _ hg
    exact ⟨i, by omega, by omega, g1, g2⟩
theorem bog_env {B : BG} (hO : bOk B) (hB : bR 3 ν B) (hL : ν 19 1 = nI 7 ∧ ∀ i x, fstL[i]? = some x → ν 20 i = nI x) (h0 : ξ 0 25 = nI B.1.length ∧ ξ 0 26 = nI B.2.1.length ∧ ξ 0 27 = nI B.2.2.1.length ∧ ξ 0 28 = nI B.2.2.2.1.length) (hp : p2R (ξ 7) B.1 ∧ p2R (ξ 8) B.2.1 ∧ p2R (ξ 9) B.2.2.1 ∧ p2R (ξ 10) B.2.2.2.1) (h35 : ξ 0 35 = 0) : mEnv ν ξ 7 B.2.1.length B.1.length B.2.2.1.length B.2.2.2.1.length := by
  obtain ⟨o1, o2, o3, o4, o5, o6, o7, o8, o9, o10, o11⟩ := hO
  obtain ⟨⟨b1, b2⟩, ⟨b3, b4⟩, ⟨b5, b6⟩, ⟨b7, b8⟩, -⟩ := hB
  obtain ⟨p1, p2, p3, p4⟩ := hp
  have at' : ∀ {l : List (Nat × Nat)} {i : Nat} (h : i < l.length), l[i]? = some l[i] := fun h => List.getElem?_eq_getElem h
  refine ⟨⟨⟨b3, o2, fun o ho => ⟨_, ?_, (b4 o _ (at' ho)).1⟩⟩, ⟨b1, o1, fun q hq => ⟨_, (o5 _ (List.getElem_mem hq)).1, (b2 q _ (at' hq)).1⟩⟩, hL.1, wf_Ex Ex_fst (by decide) hL.2⟩, h0, ⟨o3, o4⟩, fun q hq => ?_, fun o ho => ?_, fun x y hx0 hx hy0 hy => ?_, fun k hk => ?_, .inl ⟨h35, rfl, hL.2⟩⟩
  · have := (o6 _ (List.getElem_mem ho)).1
    omega
  · have a := p1 q _ (at' hq)
    have b := b2 q _ (at' hq)
    exact ⟨a.1.trans b.1.symm, a.2.trans b.2.symm⟩
  · have a := p2 o _ (at' ho)
    have b := b4 o _ (at' ho)
    exact ⟨a.1.trans b.1.symm, a.2.trans b.2.symm⟩
  · obtain ⟨x', hx', rfl⟩ := n_of (b := 30) (by decide) (Int32.not_lt.mpr hx0) hx
    obtain ⟨y', hy', rfl⟩ := n_of (b := 30) (by decide) (Int32.not_lt.mpr hy0) hy
    rw [en_N (by omega) (by decide), show ν 10 y' = rdB B.2.2.1.reverse y' from b6 y' (by omega)]
    exact reeds p3 o7 (by omega) (by omega)
  · have a := p4 k _ (at' hk)
    have b := b8 k _ (at' hk)
    have c := o8 _ (List.getElem_mem hk)
    exact ⟨a.1.trans b.1.symm, a.2.trans b.2.symm, B.2.2.2.1[k].1, B.2.2.2.1[k].2, by have := c.1; omega, by have := c.2; omega, by
      rw [show ν 8 k = _ from b.1, show ν 9 k = _ from b.2]⟩
theorem bog_row {B : BG} (hO : bOk B) : okA B.2.1.length (bgRow B) ∧ okH (bgRow B) := by
  obtain ⟨-, -, -, -, -, -, -, -, o9, o10, o11⟩ := hO
  have z : ∀ k, 4 ≤ k → bgRow B k = 0 := fun k hk => by
    unfold bgRow
    rw [if_neg (by omega), if_neg (by omega), if_neg (by omega)]
  refine ⟨⟨fun o ho => ?_, fun o _ ho => z _ (by omega), ?_, ⟨B.2.2.2.2.1, B.2.2.2.2.2.1, ?_, ?_, rfl⟩⟩, by
    have z2 : bgRow B 2 = 0 := by
      unfold bgRow
      rw [if_neg (by omega), if_neg (by omega), if_neg (by omega)]
    unfold okH
    rw [z2]
    decide⟩
  · rw [z _ (by omega)]; decide
  · show 0 ≤ (nI B.2.2.2.2.2.2).toInt ∧ (nI B.2.2.2.2.2.2).toInt ≤ 99
    rw [bn_ti (by omega)]
    omega
  · omega
  · omega
theorem p_bog {q : Int32} (h : REL M m) (g : 0 ≤ q ∧ q ≤ M 1 1) : Pr mX9_bog mX10_bog [.int q] M m := by
  obtain ⟨n, no, nq, nr, nm, tp, w0, ki, hR⟩ := h
  obtain ⟨⟨hE, hRM, ⟨hN, hA, hH⟩, hNB, hoq, hkn⟩, ⟨⟨ht1, ht2, ht3⟩, hb8, h8⟩, ⟨hx1, hx2, hx3⟩, ⟨hbk, hbl⟩, ⟨⟨hw1, hw2, hw3⟩, hwr⟩, ⟨hi1, hi2, hi3⟩, hir⟩ := id hR
  obtain ⟨a, hat, rfl⟩ := n_of (b := tp) (by omega) (Int32.not_lt.mpr g.1) (by rw [← ht2]; exact g.2)
  have tM := t_bog (d := 33) (t := M 2) ht1 ht3 hat hb8
  cases hS : (pBg (M 2) a 61 0 (.inr (skp (M 2) a 0), bg0)).1 with
  | inl f =>
    unfold bgQ at tM
    rw [hS] at tM
    exact Pr.fl hR (fun i j z => by unfold D0; omega) (s_bogE ht2 ht3 hat hS) tM
  | inr p =>
    have tC := s_bogOK (d := 32) ht2 ht3 hat hS
    have hO := pBg_ok 61 0 _ _ p bg0_ok hS
    unfold bgQ at tM
    rw [hS] at tM
    generalize (pBg (M 2) a 61 0 (.inr (skp (M 2) a 0), bg0)).2 = B at tC tM hO
    refine ⟨_, _, _, by exact .inr ⟨rfl, _, rfl⟩, tC, tM, fun ν ξ p q => ?_⟩
    obtain ⟨p1, p2, ⟨p3, p4⟩, ⟨p5, p6⟩, p7, ⟨p8, p9⟩, ⟨p10, p11⟩, p12, p13⟩ := p
    obtain ⟨η, hw, e8, q1, q2, q3, q4, ⟨q5, q6, q7, q8, q9⟩, q10, q11⟩ := q
    have hx : ∀ j, ξ 1 j = m 1 j := fun j => by rw [q1 1 (by omega), hw.1 1 (by omega) (by omega) (by omega) (by omega) (by omega) (by omega) (by omega) (by omega) (by omega)]
    refine ⟨⟨7, B.2.1.length, B.1.length, B.2.2.1.length, B.2.2.2.1.length, 0, 0, 0, ⟨bog_env hO p1 p2 q3 q4 q5, ⟨p1.2.2.1.1, p1.2.2.2.1.1⟩, by rw [p7]; exact ⟨q11, bog_row hO⟩, ⟨fun q hq => ?_, fun o ho => ?_⟩, fun ho => ?_, .inl p9⟩, RT.fresh p12 ((q2 2 (by omega)).trans hw.2.2.2) ((q2 8 (by omega)).trans (e8.trans p13.symm)), ⟨q7.trans p8.symm, (hx 0).trans (hx2.trans p10.symm), (hx 1).trans (hx3.trans p11.symm)⟩, ⟨q8.trans p3.symm, fun h hh => (q10 h hh).trans (p4 h hh).symm⟩, ⟨⟨q6, p5, by omega⟩, fun j hj => absurd hj (Nat.not_lt_zero _)⟩, ⟨⟨q9, p6, by omega⟩, fun j hj => absurd hj (Nat.not_lt_zero _)⟩⟩, (q2 0 (by omega)).trans hw.2.2.1⟩
    · have c := hO.2.2.2.2.1 _ (List.getElem_mem hq)
      rw [show ν 5 q = _ from (p1.1.2 q _ (List.getElem?_eq_getElem hq)).2, bn_ti (by omega)]
      omega
    · have c := hO.2.2.2.2.2.1 _ (List.getElem_mem ho)
      rw [show ν 7 o = _ from (p1.2.1.2 o _ (List.getElem?_eq_getElem ho)).2, bn_ti (by omega)]
      omega
    · have c := hO.2.2.2.2.2.1 _ (List.getElem_mem ho)
      omega
end T86
