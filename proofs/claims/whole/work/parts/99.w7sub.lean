/-! BreadCity's constructor: an object of a part's class is made, its constructor runs over its own cells (and the bog's), and lays it into a field -/
def bn_rn (ρ : Nat → Nat) (o : bc_O) : bc_O := (o.1, o.2.1, o.2.2.map (Option.map ρ))
theorem bn_rn_e {ad ad9 : Nat → Nat} {cA : Nat → ClassId} {f : Nat → Int32} {ρ : Nat → Nat} : ∀ (o : bc_O), (∀ j, some j ∈ o.2.2 → ad (ρ j) = ad9 j) → bc_e ad cA f (bn_rn ρ o) = bc_e ad9 cA f o
  | (0, _, _), _ => rfl
  | (1, _, _), _ => rfl
  | (2, _, _), _ => rfl
  | (3, _, _), _ => rfl
  | (4, n, rs), h => by
    show Sum.inl (cA 4, n, Sum.inr (Sum.inr (Sum.inr (Sum.inr (fun k => ((rs.map (Option.map ρ)).getD k none).map ad))))) = Sum.inl (cA 4, n, Sum.inr (Sum.inr (Sum.inr (Sum.inr (fun k => (rs.getD k none).map ad9)))))
    have e : (fun k => ((rs.map (Option.map ρ)).getD k none).map ad) = (fun k => (rs.getD k none).map ad9) := by
      funext k
      rw [List.getD_eq_getElem?_getD, List.getD_eq_getElem?_getD, List.getElem?_map]
      cases hk : rs[k]? with
      | none => rfl
      | some r =>
        cases r with
        | none => rfl
        | some j =>
          show some (ad (ρ j)) = some (ad9 j)
          rw [h j (List.mem_of_getElem? hk)]
    rw [e]
  | (c + 5, n, rs), h => by
    show Sum.inr (c, bc_fs ad f (rs.map (Option.map ρ))) = Sum.inr (c, bc_fs ad9 f rs)
    have e : bc_fs ad f (rs.map (Option.map ρ)) = bc_fs ad9 f rs := by
      apply List.ext_getElem?
      intro k
      unfold bc_fs
      rw [List.getElem?_mapIdx, List.getElem?_mapIdx, List.getElem?_map]
      cases hk : rs[k]? with
      | none => rfl
      | some r =>
        cases r with
        | none => rfl
        | some j =>
          show some (Value.ref (ad (ρ j))) = some (Value.ref (ad9 j))
          rw [h j (List.mem_of_getElem? hk)]
    rw [e]
/-- a part's layout Lw lies in L by ρ: its own nn objects from n on -/
def bn_em (L Lw : bc_L) (n nn : Nat) (ρ : Nat → Nat) : Prop := (∀ j, j < nn → ρ j = n + j) ∧ (∀ i, i < Lw.length → ∀ j, j < Lw.length → ρ i = ρ j → i = j) ∧ (∀ j, j < Lw.length → 0 < ρ j ∧ ρ j < n + nn) ∧ (∀ j, j < Lw.length → L[ρ j]? = (Lw[j]?).map (bn_rn ρ)) ∧ (∀ j, j < Lw.length → ∀ o, Lw[j]? = some o → ∀ k, some k ∈ o.2.2 → k < 1000 ∧ ρ k < L.length) ∧ nn ≤ Lw.length ∧ Lw.length ≤ 1000 ∧ n + nn ≤ L.length
def bn_emB (L Lw : bc_L) (n nn : Nat) (ρ : Nat → Nat) : Bool := (List.range nn).all (fun j => ρ j == n + j) && (List.range Lw.length).all (fun i => (List.range Lw.length).all (fun j => !(ρ i == ρ j) || i == j)) && (List.range Lw.length).all (fun j => decide (0 < ρ j) && decide (ρ j < n + nn)) && (List.range Lw.length).all (fun j => decide (L[ρ j]? = (Lw[j]?).map (bn_rn ρ))) && Lw.all (fun o => o.2.2.all (fun r => match r with | some k => decide (k < 1000) && decide (ρ k < L.length) | none => true)) && decide (nn ≤ Lw.length) && decide (Lw.length ≤ 1000) && decide (n + nn ≤ L.length)
theorem bn_em.of {L Lw : bc_L} {n nn : Nat} {ρ : Nat → Nat} (h : bn_emB L Lw n nn ρ = true) : bn_em L Lw n nn ρ := by
  unfold bn_emB at h
  simp only [Bool.and_eq_true, List.all_eq_true, List.mem_range, decide_eq_true_eq, beq_iff_eq, Bool.or_eq_true, Bool.not_eq_true', beq_eq_false_iff_ne] at h
  obtain ⟨⟨⟨⟨⟨⟨⟨h1, h2⟩, h3⟩, h4⟩, h5⟩, h6⟩, h7⟩, h8⟩ := h
  refine ⟨h1, fun i hi j hj e => ?_, h3, h4, fun j hj o ho k hk => ?_, h6, h7, h8⟩
  · rcases h2 i hi j hj with q | q
    · exact absurd e q
    · exact q
  · have := h5 o (List.mem_of_getElem? ho) _ hk
    simpa using this
def bn_args (y : bc_Y) (ci : Nat) (Z : bn_Z) (lv : List (Nat × Value)) (fs : List Value) (pc q : Nat) (st st9 : List Value) : Prop := match Z with
  | (p, l, e, R, s, m, args, below, meth, c, Q, Y, _, S) => ∀ (H : Heap) (locs : List Loc) (sl : Array Slot) (cells slots : Nat), va_at Y.2.1 vwCl (S, .inr (ci, fs)) H → lv_has sl y.2.2.1 lv → W p l e R s m args below meth c H locs cells slots Q (F0 m q sl st9) → W p l e R s m args below meth c H locs cells slots Q (F0 m pc sl st)
section BS
variable {y : bc_Y} {ci : Nat} {L Lw : bc_L} {Z : bn_Z} {pc n slots nn : Nat} {lv : List (Nat × Value)} {st fs : List Value} {μ : bc_M}
theorem bn_a0 {q : Nat} : bn_args y ci Z lv fs q q st st := by
  obtain ⟨p, l, e, R, s, m, args, below, meth, c, Q, Y, ex, S⟩ := Z
  intro H locs sl cells slots _ _ k
  exact k
theorem bn_a1 {q idx k a : Nat} {st9 : List Value} (C : bn_H y Z) (h0 : lv[0]? = some (0, .ref (bn_S Z))) (d0 : decode y.2.1 pc = .ok (.aload_n 0, 1)) (d1 : decode y.2.1 (pc + 1) = .ok (.getfield idx, 3)) (hF : bc_F y.1.cls idx ci k) (hv : fs[k]? = some (.ref a)) (kk : bn_args y ci Z lv fs (pc + 4) q (.ref a :: st) st9) : bn_args y ci Z lv fs pc q st st9 := by
  obtain ⟨p, l, e, R, s, m, args, below, meth, c, Q, Y, ex, S⟩ := Z
  obtain ⟨⟨hx, hb, hr, hml, hlk, hown, hts, hin⟩, ⟨S0, hS0, hK⟩, hsz⟩ := C
  have word : ∀ {w : Cond}, w ∈ bc_G → w.before args s = true := fun h => hts _ (List.mem_cons_of_mem _ h)
  obtain ⟨C', T, N', g1, g2, g3, g4⟩ := hF
  intro H locs sl cells slots hat hlv k9
  refine lv_aload_n hx hb d0 rfl (lv_at hlv 0 h0) ?_
  refine va_get (D := Y.2.1) (tys := bc_tys Y.2.2.1) (ws := [(S, .inr (ci, fs))]) (ci := ci) (v := .ref a) (C := C') (T := T) (N := N') hx hb (fun w h => word h) g3 hown hK.1 (fun k9 x9 h9 => by
    cases k9 with
    | zero => cases h9; exact hat
    | succ k9 => simp at h9) 0 rfl g1 k g2 (word g4) (fun _ h9 => h9) hv d1 (kk H locs sl cells slots hat hlv k9)
/-- how the part's constructor is linked -/
def bn_lk (own : String) (ix : Nat) (z : MethodName) : Prop := Cond.methodLink own ix z ∈ bc_G ∨ ∃ host, Cond.methodLinkNest own ix z host ∈ bc_nest
theorem bn_sub {z : bc_Y} {cj N9 q iN iI iP k sl n9 : Nat} {T9 : u_T} {as fs9 : List Value} {ρ : Nat → Nat} {E : bc_X → State → Prop} {Q9 : bc_M → Prop} (C : bn_H y Z) (h0 : lv[0]? = some (0, .ref (bn_S Z))) (hin : bn_em L Lw n nn ρ) (hn0 : 0 < n) (hnn : 0 < nn)
    (d0 : decode y.2.1 pc = .ok (.aload_n 0, 1)) (d1 : decode y.2.1 (pc + 1) = .ok (.new iN, 3)) (d4 : decode y.2.1 (pc + 4) = .ok (.dup, 1)) (dI : decode y.2.1 q = .ok (.invokespecial iI, 3)) (dP : decode y.2.1 (q + 3) = .ok (.putfield iP, 3))
    (hcl : Cond.classLink y.1.cls iN z.1.cls ∈ bc_G) (hins : Cond.instantiable z.1.cls N9 ∈ bc_G) (hini : Cond.initialized z.1.cls ∈ bc_G) (hu : ∀ w ∈ u_ws z.1.cls T9 N9, w ∈ bc_G) (hcj : vwCl[cj]? = some (z.1.cls, T9, N9)) (ty9 : Nat → FieldType) (hty : ∀ k, k < N9 → parseFieldDescriptor (T9 k).2.2.1 = some (ty9 k)) (hfs9 : ∀ j, j < N9 → defaultValue (ty9 j) = vp_V fs9 j)
    (ha : bn_args y ci Z lv fs (pc + 5) q [.ref (bn_S Z + n), .ref (bn_S Z + n), .ref (bn_S Z)] (as.reverse ++ [.ref (bn_S Z + n), .ref (bn_S Z + n), .ref (bn_S Z)])) (hlk : bn_lk y.1.cls iI z.1) (hj : Cond.instanceMethod z.1 ∈ bc_G) (hk : Cond.code z.1 z.2.1 z.2.2.1 z.2.2.2 ∈ bc_G) (hz : z.2.2.2 = none) (hnm : z.1.name = "<init>") (hz5 : z.2.2.1 ≤ 40) (hpd : (parseMethodDescriptor z.1.desc).map (fun d => d.parameters.length) = some n9) (hn9 : as.length = n9) (hcls : z.1.cls ≠ "java/lang/invoke/MethodHandle" ∧ z.1.cls ≠ "java/lang/invoke/VarHandle")
    (hF : bc_F y.1.cls iP ci k) (hT : bc_FT ci) (hf : bc_FF y.1.cls ci k) (hfl : k < fs.length)
    (hsub : bn_C 41 z cj as fs9 (fun j => bn_S Z + ρ j) nn Lw sl E Q9)
    (hE : ∀ U : State, (∀ j o, nn ≤ j → Lw[j]? = some o → va_at (bn_Y Z).2.1 vwCl (bn_S Z + ρ j, bc_e (bn_X (bn_S Z + n) nn (fun j => bn_S Z + ρ j) (bn_Y Z)).1 (bn_Y Z).2.2.1 (μ (ρ j)) o) U.heap) → E (bn_X (bn_S Z + n) nn (fun j => bn_S Z + ρ j) (bn_Y Z)) U)
    (hEb : ∀ (X : bc_X) (U : State) (g : JFrame) (mk : MethodId) (a : Array Value), E X U → E X (U.calling g mk a))
    (hext : ∀ ν, Q9 ν → ∀ j, nn ≤ j → j < Lw.length → ν j = μ (ρ j))
    (hfr : 42 ≤ (bn_R Z).frames) (hlo : 64 * 42 ≤ (bn_R Z).locals) (hce : n + nn ≤ (bn_R Z).cells + 1) (hsl : slots + N9 + sl ≤ (bn_R Z).slots)
    (kk : ∀ ν, Q9 ν → bn y ci L Z (q + 6) lv [] (n + nn) (fs.set k (.ref (bn_S Z + n))) (fun i => if n ≤ i ∧ i < n + nn then ν (i - n) else μ i) (slots + N9 + sl)) : bn y ci L Z pc lv [] n fs μ slots := by
  obtain ⟨p, l, e, R, s, m, args, below, meth, c, Q, Y, ex, S⟩ := Z
  obtain ⟨⟨hx, hb, hr, hml, hlk9, hown, hts, hini9⟩, ⟨S0, hS0, hK⟩, hsz⟩ := C
  have word : ∀ {w : Cond}, w ∈ bc_G → w.before args s = true := fun h => hts _ (List.mem_cons_of_mem _ h)
  obtain ⟨i1, i2, i3, i4, i5, i6, i7, i8⟩ := hin
  obtain ⟨C', T, N', g1, g2, g3, g4⟩ := hF
  obtain ⟨C'', T', N'', ty0, t1, t2, t3⟩ := hT
  obtain ⟨C3, T3, N3, ty, f1, f2, f3, f4, f5, f6⟩ := hf
  rw [g1] at t1 f1
  obtain ⟨rfl, rfl, rfl⟩ : C' = C'' ∧ T = T' ∧ N' = N'' := by simpa using t1
  obtain ⟨rfl, rfl, rfl⟩ : C' = C3 ∧ T = T3 ∧ N' = N3 := by simpa using f1
  have hce : n + nn ≤ R.cells + 1 := hce
  have hsl : slots + N9 + sl ≤ R.slots := hsl
  have hfr : 42 ≤ R.frames := hfr
  have hlo : 64 * 42 ≤ R.locals := hlo
  intro H locs sl9 hP hlow hlocs hlv
  obtain ⟨hHs, hat, hrest⟩ := hP
  refine lv_aload_n hx hb d0 rfl (lv_at hlv 0 h0) ?_
  have hKn := hK.1.1 cj _ hcj
  refine W.newcK (g := F0 m (pc + 1) sl9 [.ref S]) (h := H.size) hx hb hown (word hcl) (word hins) (word hini) rfl d1 (by omega) (by omega) hKn.2.1 rfl (fun H1 kC hkC e1 z1 o1 => ?_)
  have hborn : va_at Y.2.1 vwCl (H.size, .inr (cj, fs9)) H1 := ⟨_, hcj, (u_born ty9 (fun w h => word h) hu hKn hkC e1 hty).to hfs9⟩
  refine lv_dup hx hb d4 rfl ?_
  have hat1 : va_at Y.2.1 vwCl (S, .inr (ci, fs)) H1 := hat.kept (o1 S (by omega))
  have hHn : H.size = S + n := hHs
  rw [hHn] at hborn z1 o1 ⊢
  refine ha H1 locs sl9 _ _ hat1 hlv ?_
  -- the call
  have hXg : ∀ j, j < 1000 → (bn_X (S + n) nn (fun j => S + ρ j) Y).1 j = S + ρ j := fun j hj => by
    by_cases h : j < nn
    · rw [bn_X.own h, i1 j h]; omega
    · show (if j < nn then S + n + j else if j < 1000 then S + ρ j else Y.1 j) = _
      rw [if_neg h, if_pos hj]
  have hAof : ∀ x, bc_A (bn_X (S + n) nn (fun j => S + ρ j) Y) Lw x → ∃ j, j < Lw.length ∧ x = S + ρ j := fun x hx9 => by
    obtain ⟨j, hj, rfl⟩ := hx9
    exact ⟨j, hj, hXg j (by omega)⟩
  have hinj : bc_inj (bn_X (S + n) nn (fun j => S + ρ j) Y) Lw := fun i j hi hj h => by
    rw [hXg i (by omega), hXg j (by omega)] at h
    exact i2 i hi j hj (by omega)
  have hgt : ∀ x, bc_A (bn_X (S + n) nn (fun j => S + ρ j) Y) Lw x → S < x := fun x hx9 => by
    obtain ⟨j, hj, rfl⟩ := hAof x hx9
    have := (i3 j hj).1
    omega
  have hMet := hsub l Y S0 (S + n) (by omega) hinj (fun x hx9 => Nat.le_trans hS0 (Nat.le_of_lt (hgt x hx9)))
  have hent : ∀ j o, j < Lw.length → Lw[j]? = some o → ∀ f, bc_e (bn_X S L.length ex Y).1 Y.2.2.1 f (bn_rn ρ o) = bc_e (bn_X (S + n) nn (fun j => S + ρ j) Y).1 Y.2.2.1 f o := fun j o hj ho f => bn_rn_e o (fun k hk => by
    obtain ⟨q1, q2⟩ := i5 j hj o ho k hk
    rw [hXg k q1, bn_X.own q2])
  have hmv : ∀ x : Nat, x < s.heap.size → ¬ S0 ≤ x → H1[x]? = s.heap[x]? := fun x g1 g2 => by
    rw [o1 x (by omega)]
    exact hlow x (by omega)
  have hpre : PreS s H1 (bn_Pre Y S0 (S + n) cj as fs9 (E (bn_X (S + n) nn (fun j => S + ρ j) Y))) (.ref (S + n) :: as) := by
    refine ⟨fun a U g mk h => ⟨h.1, h.2.1, bk_K.same (s := U) (U := U.calling g mk a) rfl rfl h.2.2.1, h.2.2.2.1, ?_⟩, fun U hU hW => ⟨rfl, by rw [hU, z1], hK.moved hW (fun x g1 g2 => by rw [hU]; exact hmv x g1 g2), by rw [hU]; exact hborn, ?_⟩⟩
    · exact hEb _ _ _ _ _ h.2.2.2.2
    · refine hE U (fun j o hj ho => ?_)
      have hjl : j < Lw.length := (List.getElem?_eq_some_iff.mp ho).1
      have hL := i4 j hjl
      rw [ho] at hL
      have hρ := i3 j hjl
      have hnot : ρ j < n := by
        rcases Nat.lt_or_ge (ρ j) n with h | h
        · exact h
        · have e9 : ρ (ρ j - n) = ρ j := by rw [i1 _ (by omega)]; omega
          have := i2 _ (by omega) j hjl e9
          omega
      have h9 := hrest (ρ j) _ hρ.1 hnot hL
      rw [hU]
      show va_at Y.2.1 vwCl (S + ρ j, bc_e (bn_X (S + n) nn (fun j => S + ρ j) Y).1 Y.2.2.1 (μ (ρ j)) o) H1
      rw [← hent j o hjl ho]
      exact h9.kept (o1 _ (by show S + ρ j < S + n; omega))
  have hroom : (bn_rm 41 (nn - 1) sl).frames + 1 ≤ R.frames ∧ 8 + (z.2.2.1 + 11) + (bn_rm 41 (nn - 1) sl).locals ≤ R.locals := ⟨hfr, by show 8 + (z.2.2.1 + 11) + 64 * 41 ≤ R.locals; omega⟩
  have hcells : n - 1 + 1 + (nn - 1) ≤ R.cells := by omega
  have hstk : (F0 m q sl9 (as.reverse ++ [.ref (S + n), .ref (S + n), .ref S])).stack = as.reverse ++ .ref (S + n) :: [.ref (S + n), .ref S] := rfl
  have hrun : va_Run p l e R s m args below meth c H1 locs (n - 1 + 1) (slots + N9) (nn - 1) sl (F0 m q sl9 (as.reverse ++ [.ref (S + n), .ref (S + n), .ref S])) [.ref (S + n), .ref S] (bn_Post (bn_X (S + n) nn (fun j => S + ρ j) Y) (S + n) nn Lw Q9 (Value.ref (S + n) :: as).toArray) (bn_free (bn_X (S + n) nn (fun j => S + ρ j) Y) (S + n) Lw) := by
    rcases hlk with hl | ⟨host, hl⟩
    · exact va_runI (n := n9) ⟨hx, hb, hml, hown, hts⟩ hMet (cwI n9 hts (bc_GG hk) (by rw [← hz]; rfl) rfl rfl (word hini) (word hl) (word hj) hnm ⟨hcls.1, hcls.2, hpd⟩ hroom) hpre rfl hn9 hlv.1 hstk (lv_room (Nat.le_of_ble_eq_true rfl)) dI ⟨hcells, hsl⟩
    · exact va_runIN (n := n9) (host := host) ⟨hx, hb, hml, hown, hts⟩ hMet ⟨va_cnB n9 hts (bc_GG hk) (by rw [← hz]; rfl) rfl rfl (hK.2.1 _ hl) (word hini) ⟨hcls.1, hcls.2, hpd⟩ hroom, hnm, word hj⟩ hpre rfl hn9 hlv.1 hstk (lv_room (Nat.le_of_ble_eq_true rfl)) dI ⟨hcells, hsl⟩
  intro TT hTT XT
  obtain ⟨v, st₀, t, T2, Lc, e0, X2, hLc, e2, e3, ⟨hv, hsz2, ⟨ν, hQ, hPν⟩, hlow2⟩, hgo⟩ := hrun TT hTT XT
  cases hv
  have X3 : Stand p l e R s m args below meth c T2 locs (n - 1 + 1 + (nn - 1)) (slots + N9 + sl) := X2.forget (fun z9 hz9 => by
    rcases hLc z9 hz9 with h | h
    · omega
    · have := hgt _ h
      omega)
  have hkeep : ∀ x, x < S + n → ¬ bc_A (bn_X (S + n) nn (fun j => S + ρ j) Y) Lw x → T2.heap[x]? = H[x]? := fun x g1 g2 => by
    rw [e2, hlow2 x g1 g2, e0]
    exact o1 x g1
  have hat2 : va_at Y.2.1 vwCl (S, .inr (ci, fs)) T2.heap := hat.kept (hkeep S (by omega) (fun h => absurd (hgt S h) (Nat.lt_irrefl S)))
  have hT2s : T2.heap.size = S + n + nn := by rw [e2]; exact hsz2
  have kW : W p l e R s m args below meth c T2.heap locs (n - 1 + 1 + (nn - 1)) (slots + N9 + sl) Q (F0 m (q + 3) sl9 [.ref (S + n), .ref S]) := by
    refine bn_putF (D := Y.2.1) (tys := bc_tys Y.2.2.1) (ws := [(S, .inr (ci, fs))]) (ci := ci) (v := .ref (S + n)) (ty := ty) (C := C') (T := T) (N := N') hx hb (fun w h => word h) g3 ty0 t2 t3 hown hK.1 (fun k9 x9 h9 => by
      cases k9 with
      | zero => cases h9; exact hat2
      | succ k9 => simp at h9) 0 rfl g1 k g2 (word g4) (fun _ h9 => h9) f2 hini9 f3 f4 (f5 _) (f6 _) hfl dP (fun H4 z4 hz4 hat4 y4 o4 => ?_)
    have hcc : n - 1 + 1 + (nn - 1) = (n + nn) - 1 := by omega
    rw [hcc]
    refine kk ν hQ H4 (locs ++ [z4]) sl9 ⟨by rw [y4, hT2s]; omega, hat4, fun i o hi hi2 hio => ?_⟩ (fun x hx9 => by
      rw [o4 x (by omega), hkeep x (by omega) (fun h => by have := hgt x h; omega)]
      exact hlow x hx9) (fun z' hz' => by
      rcases List.mem_append.mp hz' with h | h
      · exact hlocs z' h
      · rw [List.mem_singleton.mp h]; exact hz4) hlv
    -- the entry i
    have hgrp : ∀ j, j < Lw.length → ρ j = i → va_at Y.2.1 vwCl (S + i, bc_e (bn_X S L.length ex Y).1 Y.2.2.1 (ν j) o) H4 := fun j hj hji => by
      have hL := i4 j hj
      rw [hji, hio] at hL
      cases hw : Lw[j]? with
      | none => rw [hw] at hL; cases hL
      | some o9 =>
        rw [hw] at hL
        have ho : o = bn_rn ρ o9 := Option.some.inj hL
        have h9 := hPν j _ (bc_at hw)
        rw [hXg j (by omega), hji] at h9
        rw [ho, hent j o9 hj hw]
        refine va_at.kept (H := T2.heap) ?_ (o4 _ (by show S + i ≠ S; omega))
        rw [e2]
        exact h9
    show va_at Y.2.1 vwCl (S + i, bc_e (bn_X S L.length ex Y).1 Y.2.2.1 ((fun i => if n ≤ i ∧ i < n + nn then ν (i - n) else μ i) i) o) H4
    by_cases hown9 : n ≤ i
    · have e9 : (fun i => if n ≤ i ∧ i < n + nn then ν (i - n) else μ i) i = ν (i - n) := if_pos ⟨hown9, hi2⟩
      rw [e9]
      exact hgrp (i - n) (by omega) (by rw [i1 _ (by omega)]; omega)
    · have e9 : (fun i => if n ≤ i ∧ i < n + nn then ν (i - n) else μ i) i = μ i := if_neg (fun h => hown9 h.1)
      rw [e9]
      by_cases hA9 : bc_A (bn_X (S + n) nn (fun j => S + ρ j) Y) Lw (S + i)
      · obtain ⟨j, hj, hji⟩ := hAof _ hA9
        have hji : ρ j = i := by omega
        have hjn : nn ≤ j := by
          rcases Nat.lt_or_ge j nn with h | h
          · have := i1 j h; omega
          · exact h
        have h9 := hgrp j hj hji
        rw [hext ν hQ j hjn hj, hji] at h9
        exact h9
      · exact (hrest i o hi (by omega) hio).kept ((o4 _ (by show S + i ≠ S; omega)).trans (hkeep _ (by show S + i < S + n; omega) hA9))
  obtain ⟨t9, a1, b1⟩ := kW T2 rfl X3
  exact ⟨t9, hgo t9 a1, b1⟩
end BS
