/-! ===== constructors: objects and arrays come one behind another, so object i of a layout lies at S + i ===== -/
theorem va_AOA.moved {ty : FieldType} {U U9 : State} (hal : U.vm.Alike U9.vm) (h : va_AOA ty U) : va_AOA ty U9 := by
  unfold va_AOA at h ⊢
  simp only [Cond.before, Cond.holds, Cond.value] at h ⊢
  rw [hal.findClass]
  cases hf : U.vm.findClass (FieldType.array ty).toString with
  | none => rw [hf] at h; simp at h
  | some comp =>
    rw [hf] at h
    simp only [Option.bind_some] at h ⊢
    rw [hal.findIdx_congr _ (fun _ _ _ _ => rfl)]
    generalize hF : (U.vm.classes.findIdx? fun (x : Class) => match x.kind with | .array component _ => component == comp | _ => false) = fi at h ⊢
    cases fi with
    | none => simp at h
    | some c =>
      simp only [Option.bind_some] at h ⊢
      cases hk : U.vm.classes[c]? with
      | none => rw [hk] at h; simp at h
      | some k =>
        obtain ⟨k', hk', ek⟩ := hal.2.2 _ _ hk
        rw [hk] at h
        rw [hk', hal.findClass]
        have ekind : k'.kind = k.kind := by rw [ek]
        simp only [Option.map_some] at h ⊢
        rw [ekind]
        exact h
/-- strings, classes, words: what stands still from the law's start, below S0 -/
def bk_St (Y : bc_X) (S0 : Nat) (U : State) : Prop := vk_S 24 bc_len bc_byt (fun k => Y.1 (1000 + k)) (fun k => Y.1 (2000 + k)) (fun q => S0 ≤ q) U U.heap ∧ (∀ q ∈ bc_strs, vk_R q.1 q.2.1 q.2.2.1 (Y.1 (1000 + q.2.2.2)) U) ∧ va_Z "java/lang/String" "COMPACT_STRINGS" "Z" (.int 1) (fun q => S0 ≤ q) U U.heap ∧ (va_Z "jdk/internal/util/Preconditions" "SIOOBE_FORMATTER" "Ljava/util/function/BiFunction;" .null (fun q => S0 ≤ q) U U.heap ∨ va_Z "jdk/internal/util/Preconditions" "SIOOBE_FORMATTER" "Ljava/util/function/BiFunction;" (.ref (Y.1 3000)) (fun q => S0 ≤ q) U U.heap)
def bk_K (Y : bc_X) (S0 : Nat) (U : State) : Prop := va_K Y.2.1 vwCl (bc_tys Y.2.2.1) U ∧ (∀ w ∈ bc_nest, va_Nw w U) ∧ va_AOA .int U ∧ bk_St Y S0 U
theorem bk_K.moved {Y : bc_X} {S0 : Nat} {s U : State} (hW : s.WarmedH U.vm) (hh : ∀ q : Nat, q < s.heap.size → ¬ S0 ≤ q → U.heap[q]? = s.heap[q]?) (h : bk_K Y S0 s) : bk_K Y S0 U := by
  refine ⟨va_K.moved hW.alike h.1, fun w hw => ?_, ?_, (vk_S.moved hW.alike h.2.2.2.1).kept hh, fun q hq => vk_R.warm hW (h.2.2.2.2.1 q hq), (va_Z.moved hW.alike h.2.2.2.2.2.1).kept hh, h.2.2.2.2.2.2.imp (fun q => (va_Z.moved hW.alike q).kept hh) (fun q => (va_Z.moved hW.alike q).kept hh)⟩
  · have h1 := (List.mem_filter.mp hw).2
    have h2 := h.2.1 w hw
    cases w <;> first | (simp [bc_isN] at h1; done) | exact va_Nw.warmM hW h2
  · exact va_AOA.moved hW.alike h.2.2.1
theorem bk_K.same {Y : bc_X} {S0 : Nat} {s U : State} (hv : s.vm = U.vm) (hh : U.heap = s.heap) (h : bk_K Y S0 s) : bk_K Y S0 U := by
  have ha : s.vm.Alike U.vm := by rw [hv]; exact Vm.Alike.refl U.vm
  refine ⟨va_K.moved ha h.1, fun w hw => ?_, va_AOA.moved ha h.2.2.1, by rw [hh]; exact vk_S.moved ha h.2.2.2.1, fun q hq => vk_R.same hv.symm (h.2.2.2.2.1 q hq), by rw [hh]; exact va_Z.moved ha h.2.2.2.2.2.1, by rw [hh]; exact h.2.2.2.2.2.2.imp (va_Z.moved ha) (va_Z.moved ha)⟩
  have h1 := (List.mem_filter.mp hw).2
  have h2 := h.2.1 w hw
  cases w <;> first | (simp [bc_isN] at h1; done) | exact va_Nw.same rfl hv h2
/-- own objects at S + i, others by ex, strings as ever -/
def bn_X (S n : Nat) (ex : Nat → Nat) (Y : bc_X) : bc_X := (fun i => if i < n then S + i else if i < 1000 then ex i else Y.1 i, Y.2)
theorem bn_X.own {S n : Nat} {ex : Nat → Nat} {Y : bc_X} {i : Nat} (h : i < n) : (bn_X S n ex Y).1 i = S + i := if_pos h
theorem bn_X.far {S n : Nat} {ex : Nat → Nat} {Y : bc_X} {i : Nat} (hn : n ≤ 1000) (h : 1000 ≤ i) : (bn_X S n ex Y).1 i = Y.1 i := by
  show (if i < n then S + i else if i < 1000 then ex i else Y.1 i) = _
  rw [if_neg (by omega), if_neg (by omega)]
theorem bk_K.bc {X Y : bc_X} {S0 : Nat} {U : State} {L : bc_L} (h : bk_K Y S0 U) (hX : X.2 = Y.2) (hs : ∀ i, 1000 ≤ i → X.1 i = Y.1 i) (hi : bc_inj X L) (hA : ∀ q, bc_A X L q → S0 ≤ q) : bc_K X L U := by
  obtain ⟨ad, z⟩ := X
  obtain ⟨ad', z'⟩ := Y
  cases hX
  have hs : ∀ i, 1000 ≤ i → ad i = ad' i := hs
  have e1 : (fun k => ad (1000 + k)) = (fun k => ad' (1000 + k)) := funext fun k => hs _ (by omega)
  have e2 : (fun k => ad (2000 + k)) = (fun k => ad' (2000 + k)) := funext fun k => hs _ (by omega)
  refine ⟨h.1, h.2.1, hi, ?_, fun q hq => ?_, h.2.2.2.2.2.1.narrow hA, ?_⟩
  · show vk_S 24 bc_len bc_byt (fun k => ad (1000 + k)) (fun k => ad (2000 + k)) _ U U.heap
    rw [e1, e2]
    exact h.2.2.2.1.narrow hA
  · show vk_R q.1 q.2.1 q.2.2.1 (ad (1000 + q.2.2.2)) U
    rw [hs (1000 + q.2.2.2) (by omega)]
    exact h.2.2.2.2.1 q hq
  · show va_Z _ _ _ _ _ _ _ ∨ va_Z _ _ _ (.ref (ad 3000)) _ _ _
    rw [hs 3000 (by omega)]
    exact h.2.2.2.2.2.2.imp (fun q => q.narrow hA) (fun q => q.narrow hA)
/-- p, l, e, R, s, m, args, below, meth, c, Q, Y, ex, S -/
abbrev bn_Z : Type := Program × Launch × Env × Room × State × MethodId × Array Value × List Frame × Method × Code × (State → Prop) × bc_X × (Nat → Nat) × Nat
def bn_H (y : bc_Y) : bn_Z → Prop
  | (p, _, _, _, s, m, args, _, meth, c, _, Y, _, S) => (p.tables.exec = Jvm.exec ∧ c.code = y.2.1 ∧ meth.sig.returnType = none ∧ c.maxLocals = y.2.2.1 ∧ meth.locks = false ∧ s.vm.findClass y.1.cls = some m.cls ∧ (∀ w ∈ bc_wsy y, w.before args s = true) ∧ meth.name = "<init>") ∧ (∃ S0, S0 ≤ S ∧ bk_K Y S0 s) ∧ s.heap.size = S + 1
def bn_P (X : bc_X) (S ci : Nat) (L : bc_L) (n : Nat) (fs : List Value) (μ : bc_M) (H : Heap) : Prop := H.size = S + n ∧ va_at X.2.1 vwCl (S, .inr (ci, fs)) H ∧ ∀ (i : Nat) (o : bc_O), 0 < i → i < n → L[i]? = some o → va_at X.2.1 vwCl (S + i, bc_e X.1 X.2.2.1 (μ i) o) H
def bn (y : bc_Y) (ci : Nat) (L : bc_L) (Z : bn_Z) (pc : Nat) (lv : List (Nat × Value)) (st : List Value) (n : Nat) (fs : List Value) (μ : bc_M) (slots : Nat) : Prop := match Z with
  | (p, l, e, R, s, m, args, below, meth, c, Q, Y, ex, S) => ∀ (H : Heap) (locs : List Loc) (sl : Array Slot), bn_P (bn_X S L.length ex Y) S ci L n fs μ H → (∀ q, q < S → H[q]? = s.heap[q]?) → (∀ z ∈ locs, z.base = S) → lv_has sl y.2.2.1 lv →
    W p l e R s m args below meth c H locs (n - 1) slots Q (F0 m pc sl st)
def bn_S : bn_Z → Nat | (_, _, _, _, _, _, _, _, _, _, _, _, _, S) => S
def bn_R : bn_Z → Room | (_, _, _, R, _, _, _, _, _, _, _, _, _, _) => R
/-- a final field of the class ci that holds references -/
def bc_FF (own : String) (ci k : Nat) : Prop := ∃ (C : String) (T : u_T) (N : Nat) (ty : FieldType), vwCl[ci]? = some (C, T, N) ∧ (T k).2.2.2 = true ∧ (T k).1 = own ∧ parseFieldDescriptor (T k).2.2.1 = some ty ∧ (∀ a : Nat, narrow ty (.ref a) = .ref a) ∧ ∀ a : Nat, fits ty (.ref a) = true
def bn_push (cc : ByteArray) (pc q N : Nat) : Prop := (∃ n : Int, decode cc pc = .ok (.bipush n, 2) ∧ (Int8.ofInt n).toInt32 = nI N ∧ q = pc + 2) ∨ (∃ n : Int, decode cc pc = .ok (.sipush n, 3) ∧ (Int16.ofInt n).toInt32 = nI N ∧ q = pc + 3) ∨ (∃ n : Int, decode cc pc = .ok (.iconst n, 1) ∧ Int32.ofInt n = nI N ∧ q = pc + 1)
/-- arrays by kinds -/
def bn_kd (at9 : ArrayType) (kd : Nat) : Prop := Cond.arrayClass (newarray.typeOf at9) ∈ bc_G ∧ (∀ cA : Nat → ClassId, (bc_tys cA)[kd]? = some (cA kd, newarray.typeOf at9)) ∧ (∀ (U : State) (c : ClassId), va_RA U c (newarray.typeOf at9) → U.vm.findClass ("[" ++ (newarray.typeOf at9).toString) = some c) ∧ (∀ (ad : Nat → Nat) (cA : Nat → ClassId) (N : Nat), ∃ a0 : vp_A, bc_e ad cA (fun _ => 0) (kd, N, []) = .inl (cA kd, a0) ∧ vp_cell (cA kd) a0 = arrV (cA kd) N (fun _ => defaultValue (newarray.typeOf at9))) ∧ componentBytes (newarray.typeOf at9) ≤ 8
section BN
variable {y : bc_Y} {ci : Nat} {L : bc_L} {Z : bn_Z} {pc n slots : Nat} {lv : List (Nat × Value)} {st fs : List Value} {μ : bc_M}
theorem bn_pushed {p : Program} {l : Launch} {e : Env} {R : Room} {s : State} {m : MethodId} {args : Array Value} {below : List Frame} {meth : Method} {c : Code} {H : Heap} {locs : List Loc} {cells slots : Nat} {Q : State → Prop} {cc : ByteArray} {pc q N : Nat} {ls : Array Slot} {rest : List Value} (hx : p.tables.exec = Jvm.exec) (hb : c.code = cc) (h : bn_push cc pc q N) (k : W p l e R s m args below meth c H locs cells slots Q (F0 m q ls (.int (nI N) :: rest))) : W p l e R s m args below meth c H locs cells slots Q (F0 m pc ls rest) := by
  rcases h with ⟨n, d, hv, rfl⟩ | ⟨n, d, hv, rfl⟩ | ⟨n, d, hv, rfl⟩
  · exact lv_bipush hx hb d hv k
  · exact lv_sipush hx hb d hv k
  · exact lv_iconst hx hb d hv k
/-- aload_0; new T[N]; putfield -/
theorem bn_arr {at9 : ArrayType} {kd q idx k N : Nat} (C : bn_H y Z) (h0 : lv[0]? = some (0, .ref (bn_S Z))) (d0 : decode y.2.1 pc = .ok (.aload_n 0, 1)) (hp : bn_push y.2.1 (pc + 1) q N) (dn : decode y.2.1 q = .ok (.newarray at9, 2)) (dp : decode y.2.1 (q + 2) = .ok (.putfield idx, 3)) (hk : bn_kd at9 kd) (hF : bc_F y.1.cls idx ci k) (hT : bc_FT ci) (hf : bc_FF y.1.cls ci k) (hl : L[n]? = some (kd, N, [])) (hμ : μ n = fun _ => 0) (hn0 : 0 < n) (hN : N < 4000) (hfl : k < fs.length) (hc : n ≤ (bn_R Z).cells) (hs : slots + N ≤ (bn_R Z).slots) (kk : bn y ci L Z (q + 5) lv st (n + 1) (fs.set k (.ref (bn_S Z + n))) μ (slots + N)) : bn y ci L Z pc lv st n fs μ slots := by
  obtain ⟨p, l, e, R, s, m, args, below, meth, c, Q, Y, ex, S⟩ := Z
  obtain ⟨⟨hx, hb, hr, hml, hlk, hown, hts, hin⟩, ⟨S0, hS0, hK⟩, hsz⟩ := C
  have word : ∀ {w : Cond}, w ∈ bc_G → w.before args s = true := fun h => hts _ (List.mem_cons_of_mem _ h)
  obtain ⟨k1, k2, k3, k4, k5⟩ := hk
  obtain ⟨C', T, N', g1, g2, g3, g4⟩ := hF
  obtain ⟨C'', T', N'', ty0, t1, t2, t3⟩ := hT
  obtain ⟨C3, T3, N3, ty, f1, f2, f3, f4, f5, f6⟩ := hf
  rw [g1] at t1 f1
  obtain ⟨rfl, rfl, rfl⟩ : C' = C'' ∧ T = T' ∧ N' = N'' := by simpa using t1
  obtain ⟨rfl, rfl, rfl⟩ : C' = C3 ∧ T = T3 ∧ N' = N3 := by simpa using f1
  have hc : n ≤ R.cells := hc
  have hs : slots + N ≤ R.slots := hs
  intro H locs sl hP hlow hlocs hlv
  obtain ⟨hHs, hat, hrest⟩ := hP
  refine lv_aload_n hx hb d0 rfl (lv_at hlv 0 h0) ?_
  refine bn_pushed hx hb hp ?_
  have hbytes : N * componentBytes (newarray.typeOf at9) ≤ 536870912 := by
    have := Nat.mul_le_mul (Nat.le_of_lt hN) k5
    omega
  refine va_newaK (g := F0 m q sl (.int (nI N) :: .ref S :: st)) (N := N) (h := H.size) hx hb (word k1) rfl dn rfl (nI_pos (by omega)) (nI_clamp (by omega)) hbytes (by omega) hs rfl (fun H1 cA e1 z1 o1 _ hNm => ?_)
  have hcA : cA = Y.2.2.1 kd := by
    have h2 := k3 s _ ((hK.1.2 kd _ (k2 Y.2.2.1)).2)
    exact Option.some.inj (hNm.symm.trans h2)
  subst hcA
  obtain ⟨a0, b1, b2⟩ := k4 (bn_X S L.length ex Y).1 Y.2.2.1 N
  have hSl : S < H.size := by omega
  have hat1 : va_at Y.2.1 vwCl (S, .inr (ci, fs)) H1 := hat.kept (o1 S hSl)
  refine bn_putF (D := Y.2.1) (tys := bc_tys Y.2.2.1) (ws := [(S, .inr (ci, fs))]) (ci := ci) (v := .ref H.size) (ty := ty) (C := C') (T := T) (N := N') hx hb (fun w h => word h) g3 ty0 t2 t3 hown hK.1 (fun k9 x9 h9 => by
    cases k9 with
    | zero => cases h9; exact hat1
    | succ k9 => simp at h9) 0 rfl g1 k g2 (word g4) (fun _ h9 => h9) f2 hin f3 f4 (f5 _) (f6 _) hfl dp (fun H2 z hz hat2 z2 o2 => ?_)
  have hcells : n - 1 + 1 = (n + 1) - 1 := by omega
  rw [hcells]
  refine kk H2 (locs ++ [z]) sl ⟨by rw [z2, z1, hHs]; omega, by
    rw [hHs] at hat2
    exact hat2, fun i o hi hi2 hio => ?_⟩ (fun q hq => by rw [o2 q (by omega), o1 q (by omega)]; exact hlow q hq) (fun z' hz' => by
    rcases List.mem_append.mp hz' with h | h
    · exact hlocs z' h
    · rw [List.mem_singleton.mp h]; exact hz) hlv
  by_cases hin2 : i < n
  · exact (hrest i o hi hin2 hio).kept ((o2 _ (by show S + i ≠ S; omega)).trans (o1 _ (by show S + i < H.size; omega)))
  · have hie : i = n := by omega
    subst hie
    rw [hl] at hio
    cases hio
    show va_at Y.2.1 vwCl (S + i, bc_e (bn_X S L.length ex Y).1 Y.2.2.1 (μ i) (kd, N, [])) H2
    rw [hμ, b1]
    show H2[S + i]? = some (vp_cell (Y.2.2.1 kd) a0)
    rw [b2, o2 _ (by omega), ← hHs]
    exact e1
theorem bn_obj {idx : Nat} (C : bn_H y Z) (h0 : lv[0]? = some (0, .ref (bn_S Z))) (d0 : decode y.2.1 0 = .ok (.aload_n 0, 1)) (d1 : decode y.2.1 1 = .ok (.invokespecial idx, 3)) (hl : Cond.methodLink y.1.cls idx Lib.objectInit ∈ bc_G) (o1 : Cond.instanceMethod Lib.objectInit ∈ bc_G) (o2 : Cond.code Lib.objectInit ⟨#[0xb1]⟩ 1 none ∈ bc_G) (hf : 1 ≤ (bn_R Z).frames) (hlo : 20 ≤ (bn_R Z).locals) (kk : bn y ci L Z 4 lv [] n fs μ slots) : bn y ci L Z 0 lv [] n fs μ slots := by
  obtain ⟨p, l, e, R, s, m, args, below, meth, c, Q, Y, ex, S⟩ := Z
  obtain ⟨⟨hx, hb, hr, hml, hlk, hown, hts, hin⟩, ⟨S0, hS0, hK⟩, hsz⟩ := C
  have word : ∀ {w : Cond}, w ∈ bc_G → w.before args s = true := fun h => hts _ (List.mem_cons_of_mem _ h)
  have hlo : 20 ≤ R.locals := hlo
  intro H locs sl hP hlow hlocs hlv
  refine lv_aload_n hx hb d0 rfl (lv_at hlv 0 h0) ?_
  have hrm := lv_room (m := m) (pc := 1) (ls := sl) (rest := [.ref S]) (st := []) (by decide)
  refine W.objInit (g := F0 m 1 sl [.ref S]) hx hb hown (word hl) (word o1) (word o2) rfl (hlv.1.trans hml.symm) rfl d1 hf ?_ (kk H locs sl hP hlow hlocs hlv)
  have h9 : ((([] : List Value).map fun v => v.category).sum) = 0 := rfl
  omega
/-- aload_0; new int[N][K]; putfield -/
theorem bn_mna {q r idx ic k N K : Nat} {rs : List (Option Nat)} (C : bn_H y Z) (h0 : lv[0]? = some (0, .ref (bn_S Z))) (d0 : decode y.2.1 pc = .ok (.aload_n 0, 1)) (hp : bn_push y.2.1 (pc + 1) q N) (hp2 : bn_push y.2.1 q r K) (dm : decode y.2.1 r = .ok (.multianewarray ic 2, 4)) (dp : decode y.2.1 (r + 4) = .ok (.putfield idx, 3)) (hcl : Cond.classLink y.1.cls ic ("[" ++ (FieldType.array .int).toString) ∈ bc_G) (harr : Cond.arrayClass .int ∈ bc_G) (hF : bc_F y.1.cls idx ci k) (hT : bc_FT ci) (hf : bc_FF y.1.cls ci k) (hl : L[n]? = some (4, N, rs)) (hrow : ∀ j, j < N → L[n + 1 + j]? = some (0, K, [])) (hrs : ∀ j, rs.getD j none = if j < N then some (n + 1 + j) else none) (hμ : ∀ j, n ≤ j → j ≤ n + N → μ j = fun _ => 0) (hn0 : 0 < n) (hL : n + N < L.length) (hN : N < 4000) (hN2 : K < 4000) (hfl : k < fs.length) (hc : n + N ≤ (bn_R Z).cells) (hs : slots + (N + N * K) ≤ (bn_R Z).slots) (kk : bn y ci L Z (r + 7) lv st (n + 1 + N) (fs.set k (.ref (bn_S Z + n))) μ (slots + N + N * K)) : bn y ci L Z pc lv st n fs μ slots := by
  obtain ⟨p, l, e, R, s, m, args, below, meth, c, Q, Y, ex, S⟩ := Z
  obtain ⟨⟨hx, hb, hr, hml, hlk, hown, hts, hin⟩, ⟨S0, hS0, hK⟩, hsz⟩ := C
  have word : ∀ {w : Cond}, w ∈ bc_G → w.before args s = true := fun h => hts _ (List.mem_cons_of_mem _ h)
  obtain ⟨C', T, N', g1, g2, g3, g4⟩ := hF
  obtain ⟨C'', T', N'', ty0, t1, t2, t3⟩ := hT
  obtain ⟨C3, T3, N3, ty, f1, f2, f3, f4, f5, f6⟩ := hf
  rw [g1] at t1 f1
  obtain ⟨rfl, rfl, rfl⟩ : C' = C'' ∧ T = T' ∧ N' = N'' := by simpa using t1
  obtain ⟨rfl, rfl, rfl⟩ : C' = C3 ∧ T = T3 ∧ N' = N3 := by simpa using f1
  have hc : n + N ≤ R.cells := hc
  have hs : slots + (N + N * K) ≤ R.slots := hs
  intro H locs sl hP hlow hlocs hlv
  obtain ⟨hHs, hat, hrest⟩ := hP
  refine lv_aload_n hx hb d0 rfl (lv_at hlv 0 h0) ?_
  refine bn_pushed hx hb hp ?_
  refine bn_pushed hx hb hp2 ?_
  have cN : (nI N).toNatClampNeg = N := nI_clamp (by omega)
  have cK : (nI K).toNatClampNeg = K := nI_clamp (by omega)
  have cb : componentBytes FieldType.int ≤ 8 := by decide
  have hbytes : K * componentBytes .int ≤ 536870912 := by
    have := Nat.mul_le_mul (Nat.le_of_lt hN2) cb
    omega
  intro T9 hT9 Xs
  obtain ⟨vm₁, cA, comp, -, fA, fC, -, -, X', step⟩ := Xs.multianewarray2F hx hown (word hcl) (va_AOA.use hK.2.2.1) (word harr) (g := F0 m r sl (.int (nI K) :: .int (nI N) :: .ref S :: st)) rfl (by rw [hb]; exact dm) rfl (nI_pos (by omega)) (nI_pos (by omega)) (by rw [cN]; omega) (by rw [cK]; exact hbytes) (by rw [cK]; omega) (by decide) (by decide) (by rw [cN]; omega) (by rw [cN, cK]; exact hs)
  rw [cN, cK] at X' step
  have hcA : cA = Y.2.2.1 4 := by
    have h2 : s.vm.findClass ("[" ++ (FieldType.array .int).toString) = some (Y.2.2.1 4) := (hK.1.2 4 _ rfl).2
    exact Option.some.inj (fA.symm.trans h2)
  have hcy : comp = Y.2.2.1 0 := by
    have h2 : s.vm.findClass ("[" ++ FieldType.int.toString) = some (Y.2.2.1 0) := (hK.1.2 0 _ rfl).2
    exact Option.some.inj (fC.symm.trans h2)
  subst hcA
  subst hcy
  generalize hFe : Jvm.Free.Multi.fill (T9.setVm vm₁) (Y.2.2.1 4) (Y.2.2.1 0) N K (defaultValue .int) N = F at X' step
  have hTh : (T9.setVm vm₁).heap = H := hT9
  obtain ⟨z1, z2, -, -⟩ := Jvm.Free.Multi.fill_facts (T9.setVm vm₁) (Y.2.2.1 4) (Y.2.2.1 0) N K (defaultValue .int) N
  rw [hFe, hTh] at z1 z2
  have hold : ∀ x : Nat, x < H.size → F.heap[x]? = H[x]? := fun x hx => by
    have := Jvm.Free.Multi.fill_old (T9.setVm vm₁) (Y.2.2.1 4) (Y.2.2.1 0) N K (defaultValue .int) (a := x) (by rw [hTh]; exact hx) N
    rw [hFe, hTh] at this
    exact this
  have hinn : ∀ j : Nat, j < N → F.heap[H.size + 1 + j]? = some (vp_cell (Y.2.2.1 0) (K, .inl (fun _ => 0))) := fun j hj => by
    have := Jvm.Free.Multi.fill_inner (T9.setVm vm₁) (Y.2.2.1 4) (Y.2.2.1 0) N K (defaultValue .int) N j hj
    rw [hFe, hTh] at this
    rw [this]
    show some ({ cls := Y.2.2.1 0, slots := Array.replicate K (defaultValue .int), vm := .none } : Cell) = _
    rw [arrV_new]
    rfl
  rw [vr_outer] at z2
  have hSl : S < H.size := by omega
  have hat1 : va_at Y.2.1 vwCl (S, .inr (ci, fs)) F.heap := hat.kept (hold S hSl)
  have kW : W p l e R s m args below meth c F.heap locs (n - 1 + 1 + N) (slots + N + N * K) Q (F0 m (r + 4) sl (.ref H.size :: .ref S :: st)) := by
    refine bn_putF (D := Y.2.1) (tys := bc_tys Y.2.2.1) (ws := [(S, .inr (ci, fs))]) (ci := ci) (v := .ref H.size) (ty := ty) (C := C') (T := T) (N := N') hx hb (fun w h => word h) g3 ty0 t2 t3 hown hK.1 (fun k9 x9 h9 => by
      cases k9 with
      | zero => cases h9; exact hat1
      | succ k9 => simp at h9) 0 rfl g1 k g2 (word g4) (fun _ h9 => h9) f2 hin f3 f4 (f5 _) (f6 _) hfl dp (fun H2 z hz hat2 y2 o2 => ?_)
    have hcells : n - 1 + 1 + N = (n + 1 + N) - 1 := by omega
    rw [hcells]
    refine kk H2 (locs ++ [z]) sl ⟨by rw [y2, z1, hHs]; omega, by
      rw [hHs] at hat2
      exact hat2, fun i o hi hi2 hio => ?_⟩ (fun q hq => by rw [o2 q (by omega), hold q (by omega)]; exact hlow q hq) (fun z' hz' => by
      rcases List.mem_append.mp hz' with h | h
      · exact hlocs z' h
      · rw [List.mem_singleton.mp h]; exact hz) hlv
    by_cases hin2 : i < n
    · exact (hrest i o hi hin2 hio).kept ((o2 _ (by show S + i ≠ S; omega)).trans (hold _ (by show S + i < H.size; omega)))
    · by_cases hie : i = n
      · subst hie
        rw [hl] at hio
        cases hio
        show va_at Y.2.1 vwCl (S + i, bc_e (bn_X S L.length ex Y).1 Y.2.2.1 (μ i) (4, N, rs)) H2
        show H2[S + i]? = some (vp_cell (Y.2.2.1 4) (N, .inr (.inr (.inr (.inr (fun k => (rs.getD k none).map (bn_X S L.length ex Y).1))))))
        rw [o2 _ (by omega), ← hHs, z2, vp_cell_q]
        congr 2
        funext j
        rw [hrs]
        by_cases hj : j < N
        · rw [if_pos hj, if_pos hj]
          show va_rf (some (H.size + 1 + j)) = va_rf (some ((bn_X S L.length ex Y).1 (i + 1 + j)))
          rw [bn_X.own (by omega), hHs]
          congr 2
          omega
        · rw [if_neg hj, if_neg hj]
          rfl
      · obtain ⟨j, rfl⟩ : ∃ j, i = n + 1 + j := ⟨i - n - 1, by omega⟩
        rw [hrow j (by omega)] at hio
        cases hio
        show va_at Y.2.1 vwCl (S + (n + 1 + j), bc_e (bn_X S L.length ex Y).1 Y.2.2.1 (μ (n + 1 + j)) (0, K, [])) H2
        rw [hμ _ (by omega) (by omega)]
        show H2[S + (n + 1 + j)]? = some (vp_cell (Y.2.2.1 0) (K, .inl (fun _ => 0)))
        rw [o2 _ (by omega), ← hinn j (by omega), hHs]
        congr 1
        omega
  obtain ⟨t, a1, b1⟩ := kW F rfl X'
  refine ⟨t, step t ?_, b1⟩
  have e9 : T9.heap.size = H.size := by rw [hT9]
  rw [e9]
  exact a1
/-- aload_0; a reference that is there; putfield -/
theorem bn_putr {q idx k a i : Nat} (C : bn_H y Z) (h0 : lv[0]? = some (0, .ref (bn_S Z))) (d0 : decode y.2.1 pc = .ok (.aload_n 0, 1)) (hld : (∃ j : Fin 4, decode y.2.1 (pc + 1) = .ok (.aload_n j, 1) ∧ q = pc + 2 ∧ lv[i]? = some ((j : Nat), .ref a)) ∨ (∃ j : Nat, decode y.2.1 (pc + 1) = .ok (.aload j, 2) ∧ q = pc + 3 ∧ lv[i]? = some (j, .ref a))) (dp : decode y.2.1 q = .ok (.putfield idx, 3)) (hF : bc_F y.1.cls idx ci k) (hT : bc_FT ci) (hf : bc_FF y.1.cls ci k) (hfl : k < fs.length) (hn0 : 0 < n) (kk : bn y ci L Z (q + 3) lv st n (fs.set k (.ref a)) μ slots) : bn y ci L Z pc lv st n fs μ slots := by
  obtain ⟨p, l, e, R, s, m, args, below, meth, c, Q, Y, ex, S⟩ := Z
  obtain ⟨⟨hx, hb, hr, hml, hlk, hown, hts, hin⟩, ⟨S0, hS0, hK⟩, hsz⟩ := C
  have word : ∀ {w : Cond}, w ∈ bc_G → w.before args s = true := fun h => hts _ (List.mem_cons_of_mem _ h)
  obtain ⟨C', T, N', g1, g2, g3, g4⟩ := hF
  obtain ⟨C'', T', N'', ty0, t1, t2, t3⟩ := hT
  obtain ⟨C3, T3, N3, ty, f1, f2, f3, f4, f5, f6⟩ := hf
  rw [g1] at t1 f1
  obtain ⟨rfl, rfl, rfl⟩ : C' = C'' ∧ T = T' ∧ N' = N'' := by simpa using t1
  obtain ⟨rfl, rfl, rfl⟩ : C' = C3 ∧ T = T3 ∧ N' = N3 := by simpa using f1
  intro H locs sl hP hlow hlocs hlv
  obtain ⟨hHs, hat, hrest⟩ := hP
  refine lv_aload_n hx hb d0 rfl (lv_at hlv 0 h0) ?_
  have kW : W p l e R s m args below meth c H locs (n - 1) slots Q (F0 m q sl (.ref a :: .ref S :: st)) := by
    refine bn_putF (D := Y.2.1) (tys := bc_tys Y.2.2.1) (ws := [(S, .inr (ci, fs))]) (ci := ci) (v := .ref a) (ty := ty) (C := C') (T := T) (N := N') hx hb (fun w h => word h) g3 ty0 t2 t3 hown hK.1 (fun k9 x9 h9 => by
      cases k9 with
      | zero => cases h9; exact hat
      | succ k9 => simp at h9) 0 rfl g1 k g2 (word g4) (fun _ h9 => h9) f2 hin f3 f4 (f5 _) (f6 _) hfl dp (fun H2 z hz hat2 y2 o2 => ?_)
    exact kk H2 (locs ++ [z]) sl ⟨y2.trans hHs, hat2, fun i o hi hi2 hio => (hrest i o hi hi2 hio).kept (o2 _ (by show S + i ≠ S; omega))⟩ (fun q hq => by rw [o2 q (by omega)]; exact hlow q hq) (fun z' hz' => by
      rcases List.mem_append.mp hz' with h | h
      · exact hlocs z' h
      · rw [List.mem_singleton.mp h]; exact hz) hlv
  rcases hld with ⟨j, dj, rfl, hj⟩ | ⟨j, dj, rfl, hj⟩
  · exact lv_aload_n hx hb dj rfl (lv_at hlv i hj) kW
  · exact lv_aload hx hb dj (lv_at hlv i hj) kW
/-- aload_0; an int; putfield -/
theorem bn_puti {q idx k : Nat} {n9 : Int} {v : Int32} (C : bn_H y Z) (h0 : lv[0]? = some (0, .ref (bn_S Z))) (d0 : decode y.2.1 pc = .ok (.aload_n 0, 1)) (d1 : decode y.2.1 (pc + 1) = .ok (.iconst n9, 1)) (hv : Int32.ofInt n9 = v) (dp : decode y.2.1 (pc + 2) = .ok (.putfield idx, 3)) (hF : bc_F y.1.cls idx ci k) (hT : bc_FT ci) (hf : bc_FP ci k .int) (hfl : k < fs.length) (hn0 : 0 < n) (kk : bn y ci L Z (pc + 5) lv st n (fs.set k (.int v)) μ slots) : bn y ci L Z pc lv st n fs μ slots := by
  obtain ⟨p, l, e, R, s, m, args, below, meth, c, Q, Y, ex, S⟩ := Z
  obtain ⟨⟨hx, hb, hr, hml, hlk, hown, hts, hin⟩, ⟨S0, hS0, hK⟩, hsz⟩ := C
  have word : ∀ {w : Cond}, w ∈ bc_G → w.before args s = true := fun h => hts _ (List.mem_cons_of_mem _ h)
  obtain ⟨C', T, N', g1, g2, g3, g4⟩ := hF
  obtain ⟨C'', T', N'', ty0, t1, t2, t3⟩ := hT
  obtain ⟨C3, T3, N3, f1, f2, f3⟩ := hf
  rw [g1] at t1 f1
  obtain ⟨rfl, rfl, rfl⟩ : C' = C'' ∧ T = T' ∧ N' = N'' := by simpa using t1
  obtain ⟨rfl, rfl, rfl⟩ : C' = C3 ∧ T = T3 ∧ N' = N3 := by simpa using f1
  intro H locs sl hP hlow hlocs hlv
  obtain ⟨hHs, hat, hrest⟩ := hP
  refine lv_aload_n hx hb d0 rfl (lv_at hlv 0 h0) ?_
  refine lv_iconst hx hb d1 hv ?_
  refine bn_put (D := Y.2.1) (tys := bc_tys Y.2.2.1) (ws := [(S, .inr (ci, fs))]) (ci := ci) (v := .int v) (ty := .int) (C := C') (T := T) (N := N') hx hb (fun w h => word h) g3 ty0 t2 t3 hown hK.1 (fun k9 x9 h9 => by
    cases k9 with
    | zero => cases h9; exact hat
    | succ k9 => simp at h9) 0 rfl g1 k g2 (word g4) (fun _ h9 => h9) f2 f3 rfl rfl hfl dp (fun H2 z hz hat2 y2 o2 => ?_)
  exact kk H2 (locs ++ [z]) sl ⟨y2.trans hHs, hat2, fun i o hi hi2 hio => (hrest i o hi hi2 hio).kept (o2 _ (by show S + i ≠ S; omega))⟩ (fun q hq => by rw [o2 q (by omega)]; exact hlow q hq) (fun z' hz' => by
    rcases List.mem_append.mp hz' with h | h
    · exact hlocs z' h
    · rw [List.mem_singleton.mp h]; exact hz) hlv
theorem bn_full {X : bc_X} {S : Nat} {H : Heap} {n0 : Nat} {rs : List (Option Nat)} (hX : ∀ i, i < L.length → X.1 i = S + i) (h0 : L[0]? = some (ci + 5, n0, rs)) (hfs : fs = bc_fs X.1 (μ 0) rs) (h : bn_P X S ci L L.length fs μ H) : va_P X.2.1 vwCl (bc_ws X L μ) H := by
  intro k q hq
  obtain ⟨o, ho, rfl⟩ := bc_of hq
  have hk : k < L.length := (List.getElem?_eq_some_iff.mp ho).1
  rw [hX k hk]
  cases k with
  | zero =>
    rw [h0] at ho
    cases ho
    show va_at X.2.1 vwCl (S + 0, .inr (ci, bc_fs X.1 (μ 0) rs)) H
    rw [← hfs]
    exact h.2.1
  | succ k => exact h.2.2 (k + 1) o (by omega) hk ho
end BN
