theorem dv_9 : ∀ j, j < 14 → defaultValue (tyX9 j) = vp_V fs0_9 j := by
  intro j hj
  have h : j = 0 ∨ j = 1 ∨ j = 2 ∨ j = 3 ∨ j = 4 ∨ j = 5 ∨ j = 6 ∨ j = 7 ∨ j = 8 ∨ j = 9 ∨ j = 10 ∨ j = 11 ∨ j = 12 ∨ j = 13 := by omega
  rcases h with rfl | rfl | rfl | rfl | rfl | rfl | rfl | rfl | rfl | rfl | rfl | rfl | rfl | rfl <;> rfl
theorem dv_10 : ∀ j, j < 60 → defaultValue (tyX10 j) = vp_V fs0_10 j := by
  intro j hj
  have h : j = 0 ∨ j = 1 ∨ j = 2 ∨ j = 3 ∨ j = 4 ∨ j = 5 ∨ j = 6 ∨ j = 7 ∨ j = 8 ∨ j = 9 ∨ j = 10 ∨ j = 11 ∨ j = 12 ∨ j = 13 ∨ j = 14 ∨ j = 15 ∨ j = 16 ∨ j = 17 ∨ j = 18 ∨ j = 19 ∨ j = 20 ∨ j = 21 ∨ j = 22 ∨ j = 23 ∨ j = 24 ∨ j = 25 ∨ j = 26 ∨ j = 27 ∨ j = 28 ∨ j = 29 ∨ j = 30 ∨ j = 31 ∨ j = 32 ∨ j = 33 ∨ j = 34 ∨ j = 35 ∨ j = 36 ∨ j = 37 ∨ j = 38 ∨ j = 39 ∨ j = 40 ∨ j = 41 ∨ j = 42 ∨ j = 43 ∨ j = 44 ∨ j = 45 ∨ j = 46 ∨ j = 47 ∨ j = 48 ∨ j = 49 ∨ j = 50 ∨ j = 51 ∨ j = 52 ∨ j = 53 ∨ j = 54 ∨ j = 55 ∨ j = 56 ∨ j = 57 ∨ j = 58 ∨ j = 59 := by omega
  rcases h with rfl | rfl | rfl | rfl | rfl | rfl | rfl | rfl | rfl | rfl | rfl | rfl | rfl | rfl | rfl | rfl | rfl | rfl | rfl | rfl | rfl | rfl | rfl | rfl | rfl | rfl | rfl | rfl | rfl | rfl | rfl | rfl | rfl | rfl | rfl | rfl | rfl | rfl | rfl | rfl | rfl | rfl | rfl | rfl | rfl | rfl | rfl | rfl | rfl | rfl | rfl | rfl | rfl | rfl | rfl | rfl | rfl | rfl | rfl | rfl <;> rfl
section LS
variable {p : Program} {l : Launch} {e : Env} {s : State} {m : MethodId} {below : List Frame} {meth : Method} {c : Code}
theorem ls_new {b : Nat} {H : Heap} {cells slots T pc : Nat} {sl : Array Slot} {Q : State → Prop} {Y : bc_X} {z : bc_Y} {cj N9 iN iI nsl d : Nat} {T9 : u_T} {fs9 : List Value} {L : bc_L} {Q9 : bc_M → Prop} (hx : p.tables.exec = Jvm.exec) (hb : c.code = code) (hml : c.maxLocals = 8) (hown : s.vm.findClass RL = some m.cls) (hts : ∀ w ∈ bc_G, w.before #[Value.ref b] s = true) (hK : bk_K Y s.heap.size s) (hHT : H.size = T) (hT : s.heap.size ≤ T) (hlow : ∀ q, q < s.heap.size → H[q]? = s.heap[q]?) (hsz : sl.size = 8)
    (d0 : decode code pc = .ok (.new iN, 3)) (d3 : decode code (pc + 3) = .ok (.dup, 1)) (d4 : decode code (pc + 4) = .ok (.invokespecial iI, 3))
    (hcl : Cond.classLink RL iN z.1.cls ∈ bc_G) (hins : Cond.instantiable z.1.cls N9 ∈ bc_G) (hini : Cond.initialized z.1.cls ∈ bc_G) (hu : ∀ w ∈ u_ws z.1.cls T9 N9, w ∈ bc_G) (hcj : vwCl[cj]? = some (z.1.cls, T9, N9)) (ty9 : Nat → FieldType) (hty : ∀ k, k < N9 → parseFieldDescriptor (T9 k).2.2.1 = some (ty9 k)) (hfs9 : ∀ j, j < N9 → defaultValue (ty9 j) = vp_V fs9 j)
    (hl : Cond.methodLink RL iI z.1 ∈ bc_G) (hj : Cond.instanceMethod z.1 ∈ bc_G) (hk : Cond.code z.1 z.2.1 z.2.2.1 z.2.2.2 ∈ bc_G) (hz : z.2.2.2 = none) (hnm : z.1.name = "<init>") (hz5 : z.2.2.1 ≤ 40) (hpd : (parseMethodDescriptor z.1.desc).map (fun d => d.parameters.length) = some 0) (hcls : z.1.cls ≠ "java/lang/invoke/MethodHandle" ∧ z.1.cls ≠ "java/lang/invoke/VarHandle")
    (hsub : bn_C d z cj [] fs9 (fun _ => 0) L.length L nsl (fun _ _ => True) Q9) (hd : d ≤ 1000) (hL0 : 0 < L.length) (hce : cells + L.length ≤ 601024) (hsl : slots + N9 + nsl ≤ 7293034)
    (kk : ∀ (H2 : Heap) (ν : bc_M), Q9 ν → H2.size = T + L.length → va_P Y.2.1 vwCl (bc_ws (bn_X T L.length (fun _ => 0) Y) L ν) H2 → (∀ q, q < T → H2[q]? = H[q]?) → W p l e room_1 s m #[Value.ref b] below meth c H2 [] (cells + L.length) (slots + N9 + nsl) Q (F0 m (pc + 7) sl [.ref T])) : W p l e room_1 s m #[Value.ref b] below meth c H [] cells slots Q (F0 m pc sl []) := by
  have hrc : room_1.cells = 601024 := rfl
  have hrs : room_1.slots = 7293034 := rfl
  have hKn := hK.1.1 cj _ hcj
  refine W.newcK (g := F0 m pc sl []) (h := H.size) hx hb hown (hts _ hcl) (hts _ hins) (hts _ hini) rfl d0 (by omega) (by omega) hKn.2.1 rfl (fun H1 kC hkC e1 z1 o1 => ?_)
  have hborn : va_at Y.2.1 vwCl (H.size, .inr (cj, fs9)) H1 := ⟨_, hcj, (u_born ty9 hts hu hKn hkC e1 hty).to hfs9⟩
  refine lv_dup hx hb d3 rfl ?_
  rw [hHT] at hborn z1 o1 ⊢
  have hMet := hsub l Y s.heap.size T hT bn_inj (bn_ge hT)
  have hpre : PreS s H1 (bn_Pre Y s.heap.size T cj [] fs9 ((fun _ _ => True) (bn_X T L.length (fun _ => 0) Y))) [.ref T] := by
    refine ⟨fun a U g mk h => ⟨h.1, h.2.1, bk_K.same (s := U) (U := U.calling g mk a) rfl rfl h.2.2.1, h.2.2.2.1, trivial⟩, fun U hU hW => ⟨rfl, by rw [hU, z1], hK.moved hW (fun x g1 g2 => ?_), by rw [hU]; exact hborn, trivial⟩⟩
    rw [hU, o1 x (by omega)]
    exact hlow x g1
  have hrun : va_Run p l e room_1 s m #[Value.ref b] below meth c H1 [] (cells + 1) (slots + N9) (L.length - 1) nsl (F0 m (pc + 4) sl [.ref T, .ref T]) [.ref T] (bn_Post (bn_X T L.length (fun _ => 0) Y) T L.length L Q9 [Value.ref T].toArray) (bn_free (bn_X T L.length (fun _ => 0) Y) T L) :=
    va_runI (n := 0) (As := []) (rest := [.ref T]) ⟨hx, hb, hml, hown, hts⟩ hMet (cwI 0 hts (bc_GL hk) (by rw [← hz]; rfl) rfl rfl (hts _ hini) (hts _ hl) (hts _ hj) hnm ⟨hcls.1, hcls.2, hpd⟩ ⟨by show d + 1 ≤ 2048; omega, by show 8 + (z.2.2.1 + 11) + 64 * d ≤ 84000; omega⟩) hpre rfl rfl hsz rfl (lv_room (Nat.le_of_ble_eq_true rfl)) d4 ⟨by omega, by omega⟩
  intro TT hTT XT
  obtain ⟨v, st₀, t, T2, Lc, e0, X2, hLc, e2, e3, ⟨hv, hsz2, ⟨ν, hQ, hPν⟩, hlow2⟩, hgo⟩ := hrun TT hTT XT
  cases hv
  have X3 : Stand p l e room_1 s m #[Value.ref b] below meth c T2 [] (cells + 1 + (L.length - 1)) (slots + N9 + nsl) := X2.forget (fun z9 hz9 => by
    rcases hLc z9 hz9 with h | h
    · omega
    · have := bn_geS _ h
      omega)
  rw [show cells + 1 + (L.length - 1) = cells + L.length by omega] at X3
  obtain ⟨t9, a1, b1⟩ := kk T2.heap ν hQ (by rw [e2]; exact hsz2) (by rw [e2]; exact hPν) (fun q hq => by
    rw [e2, hlow2 q hq (fun h => by have := bn_geS _ h; omega), e0]
    exact o1 q hq) T2 rfl X3
  exact ⟨t9, hgo t9 a1, b1⟩
set_option maxHeartbeats 4000000 in
set_option maxRecDepth 100000 in
/-- THE LAW, from its entry -/
theorem whole_start (l : Launch) (hst : l.stackTraces = false) {b L : Nat} {xs : Nat → Int32} (hL : L ≤ 4096) (C0 : lw_At p s m meth c b L xs) : W p l e room_1 s m #[Value.ref b] below meth c s.heap [] 0 0 (lw_Z below #[Value.ref b] s) (entryFrame m ([Value.ref b] : List Value).toArray 8) := by
  obtain ⟨hx, hb, hr, hml, hown, hts, hX, hbl, hlocks, hgv⟩ := C0
  have hown : s.vm.findClass RL = some m.cls := hown
  obtain ⟨Y, hK⟩ := ws_K hts hgv
  have hn : ∀ w ∈ nwL, w.before #[Value.ref b] s = true := flat_of_before _ hgv
  have hG : ∀ w ∈ bc_G, w.before #[Value.ref b] s = true := fun w h => hts w (List.mem_filter.mp h).1
  have hA : ∀ a : Nat, a < s.heap.size → ¬ (fun q => s.heap.size ≤ q) a := fun a h => Nat.not_le.mpr h
  have lC : LC.length = 137 := rfl
  have lM : LM.length = 31 := rfl
  have hl := lv_entry ([.ref b]) (n := 8) (Nat.le_of_ble_eq_true rfl)
  rw [lg_entry_eq]
  generalize (lg_sl ([.ref b]) ++ List.replicate (8 - (lg_sl ([.ref b])).length) Slot.unset).toArray = ls at hl ⊢
  have hl : lv_has ls 8 [(0, .ref b)] := hl
  refine ls_new (z := mX9_init) (cj := 9) (T := s.heap.size) (L := LC) (nsl := 8428) (d := 42) hx hb hml hown hG hK rfl (Nat.le_refl _) (fun _ _ => rfl) hl.1 dL_law__0 dL_law__3 dL_law__4 hL_8 nX9 iX9 uX9 rfl tyX9 tyX9_ok dv_9 lL_107 jX9 kX9_init rfl rfl (by decide) (by decide +kernel) ⟨by decide +kernel, by decide +kernel⟩ c_X9 (by decide) (by decide) (by decide) (by decide) (fun H1 M hM z1 P1 k1 => ?_)
  refine lv_astore_n (lv' := [(1, .ref s.heap.size), (0, .ref b)]) hx hb dL_law__7 rfl hl (by decide) rfl (fun ls hl => ?_)
  refine ls_new (z := mX10_init) (cj := 10) (T := s.heap.size + 137) (L := LM) (nsl := 10574) (d := 41) hx hb hml hown hG hK (by rw [z1, lC]) (by omega) (fun q hq => k1 q hq) hl.1 dL_law__8 dL_law__11 dL_law__12 hL_108 nX10 iX10 uX10 rfl tyX10 tyX10_ok dv_10 lL_110 jX10 kX10_init rfl rfl (by decide) (by decide +kernel) ⟨by decide +kernel, by decide +kernel⟩ c_X10 (by decide) (by decide) (by decide) (by decide) (fun H2 m9 hm z2 P2 k2 => ?_)
  refine lv_astore_n (lv' := [(2, .ref (s.heap.size + 137)), (1, .ref s.heap.size), (0, .ref b)]) hx hb dL_law__15 rfl hl (by decide) rfl (fun ls hl => ?_)
  refine lv_iconst (v := 1) hx hb dL_law__16 rfl ?_
  refine va_newaK (g := F0 m 17 ls [.int 1]) (N := 1) (h := H2.size) (atype := .long) hx hb (hG _ kd_long.1) rfl dL_law__17 rfl (by decide) rfl (by decide) (by decide) (by decide) rfl (fun H3 cA e3 z3 o3 _ hNm => ?_)
  have hcA : cA = Y.2.2.1 3 := by
    have h2 := kd_long.2.2.1 s _ ((hK.1.2 3 _ (kd_long.2.1 Y.2.2.1)).2)
    exact Option.some.inj (hNm.symm.trans h2)
  subst hcA
  have hH2 : H2.size = s.heap.size + 168 := by rw [z2, lM]
  rw [hH2] at e3 z3 o3 ⊢
  refine lv_astore_n (lv' := [(3, .ref (s.heap.size + 168)), (2, .ref (s.heap.size + 137)), (1, .ref s.heap.size), (0, .ref b)]) hx hb dL_law__19 rfl hl (by decide) rfl (fun ls hl => ?_)
  refine lv_iconst (v := 0) hx hb dL_law__20 rfl ?_
  refine lv_istore (lv' := [(4, .int 0), (3, .ref (s.heap.size + 168)), (2, .ref (s.heap.size + 137)), (1, .ref s.heap.size), (0, .ref b)]) hx hb dL_law__21 hl (by decide) rfl (fun ls hl => ?_)
  have hXo : ∀ q, bc_A (bn_X s.heap.size LC.length (fun _ => 0) Y) LC q → s.heap.size ≤ q ∧ q < s.heap.size + 137 := fun q hq => by
    obtain ⟨i, hi, rfl⟩ := hq
    rw [bn_X.own hi]
    omega
  have hXm : ∀ q, bc_A (bn_X (s.heap.size + 137) LM.length (fun _ => 0) Y) LM q → s.heap.size + 137 ≤ q ∧ q < s.heap.size + 168 := fun q hq => by
    obtain ⟨i, hi, rfl⟩ := hq
    rw [bn_X.own hi]
    omega
  have hun := vx_Zqof (A := fun q => s.heap.size ≤ q) (hts _ wl_un) (hts _ wi_un) (hn _ ws_un) hA
  have hsu := vx_Zqof (A := fun q => s.heap.size ≤ q) (hts _ wl_su) (hts _ wi_su) (hn _ ws_su) hA
  have C : lj_H (p, l, e, s, m, below, meth, c, b, L, xs, bn_X s.heap.size LC.length (fun _ => 0) Y, bn_X (s.heap.size + 137) LM.length (fun _ => 0) Y, s.heap.size + 168) :=
    ⟨⟨hx, hb, hr, hml, hlocks, hown, hG⟩, ⟨hX, hbl, hL⟩, ⟨hK.bc rfl (fun i h => bn_X.far (by decide) h) bn_inj (bn_ge (Nat.le_refl _)), ⟨hun.narrow (fun q h => (hXo q h).1), hsu.narrow (fun q h => (hXo q h).1), fun w hw => va_Nw.of (bx_Bt w hw) (hts w (wb w hw))⟩, va_Nc.of (hn _ ws_nc)⟩, hK.bc rfl (fun i h => bn_X.far (by decide) h) bn_inj (bn_ge (by omega)), hst, fun q h => (hXo q h).1, fun q h => by have := hXm q h; omega, by omega, fun q h1 h2 => by have := hXo q h1; have := hXm q h2; omega, fun h => by have := hXo _ h; omega, fun h => by have := hXm _ h; omega⟩
  have h13 : ∀ q, q < s.heap.size + 137 → H3[q]? = H1[q]? := fun q hq => by
    rw [o3 q (by omega)]
    exact k2 q hq
  have P1c : va_P Y.2.1 vwCl (bc_ws (bn_X s.heap.size LC.length (fun _ => 0) Y) LC M) H3 := P1.kept (fun k q hq => by
    obtain ⟨o9, h9, rfl⟩ := bc_of hq
    have hkl := (List.getElem?_eq_some_iff.mp h9).1
    refine h13 _ ?_
    exact (hXo _ ⟨k, hkl, rfl⟩).2)
  have P2c : va_P Y.2.1 vwCl (bc_ws (bn_X (s.heap.size + 137) LM.length (fun _ => 0) Y) LM m9) H3 := P2.kept (fun k q hq => by
    obtain ⟨o9, h9, rfl⟩ := bc_of hq
    have hkl := (List.getElem?_eq_some_iff.mp h9).1
    refine o3 _ ?_
    exact (hXm _ ⟨k, hkl, rfl⟩).2)
  have Po : va_P Y.2.1 vwCl (bw_o (bn_X s.heap.size LC.length (fun _ => 0) Y) (s.heap.size + 168) (fun _ => 0)) H3 := fun k q hq => by
    obtain ⟨-, rfl⟩ := bw_oAt hq
    exact e3
  have hS : va_S (fun q => s.heap.size ≤ q) s.heap H3 [] := ⟨by omega, fun q h1 _ => by rw [h13 q (by omega)]; exact k1 q h1, fun _ h => nomatch h⟩
  refine W.widen (k := 169) (n := 19077) (by decide) (by decide) ?_
  exact lj_loop C 512 0 169 19077 M m9 (fun _ => 0) (by show L ≤ 0 + 8 * 512; omega) (by omega) (by decide) (by decide) (rel0 hM hm) H3 [] ls P1c P2c Po hS (lv_sub hl [4, 3, 2, 1, 0] rfl)
end LS
