/-! constructors' contracts; calls at their ends -/
def bn_rm (d c sl : Nat) : Room := { frames := d, cells := c, slots := sl, locals := 64 * d }
def bn_Post (X : bc_X) (S nn : Nat) (Lw : bc_L) (Q : bc_M → Prop) : Array Value → State → Outcome → State → Prop := fun _ st oc t => oc = .returned none ∧ t.heap.size = S + nn ∧ (∃ ν, Q ν ∧ va_P X.2.1 vwCl (bc_ws X Lw ν) t.heap) ∧ ∀ q, q < S → ¬ bc_A X Lw q → t.heap[q]? = st.heap[q]?
def bn_Pre (Y : bc_X) (S0 S ci : Nat) (as fs0 : List Value) (E : State → Prop) : Array Value → State → Prop := va_Pc (.ref S :: as) (fun U => U.heap.size = S + 1 ∧ bk_K Y S0 U ∧ va_at Y.2.1 vwCl (S, .inr (ci, fs0)) U.heap ∧ E U)
def bn_free (X : bc_X) (S : Nat) (Lw : bc_L) : Nat → Prop := fun q => S ≤ q ∨ bc_A X Lw q
def bn_C (d : Nat) (y : bc_Y) (ci : Nat) (as fs0 : List Value) (ex : Nat → Nat) (nn : Nat) (Lw : bc_L) (sl : Nat) (E : bc_X → State → Prop) (Q : bc_M → Prop) : Prop :=
  ∀ (l : Launch) (Y : bc_X) (S0 S : Nat), S0 ≤ S → bc_inj (bn_X S nn ex Y) Lw → (∀ q, bc_A (bn_X S nn ex Y) Lw q → S0 ≤ q) →
    Met l y.1 (bc_wsy y) (bn_rm d (nn - 1) sl) (bn_Pre Y S0 S ci as fs0 (E (bn_X S nn ex Y))) (bn_Post (bn_X S nn ex Y) S nn Lw Q) (nn - 1) sl (bn_free (bn_X S nn ex Y) S Lw)
def bn_s : bn_Z → State | (_, _, _, _, s, _, _, _, _, _, _, _, _, _) => s
def bn_Y : bn_Z → bc_X | (_, _, _, _, _, _, _, _, _, _, _, Y, _, _) => Y
def bn_ex : bn_Z → Nat → Nat | (_, _, _, _, _, _, _, _, _, _, _, _, ex, _) => ex
def bn_XZ (Z : bn_Z) (n : Nat) : bc_X := bn_X (bn_S Z) n (bn_ex Z) (bn_Y Z)
def bq (y : bc_Y) (Lw : bc_L) (nn : Nat) (Z : bn_Z) (X : bc_X) (pc : Nat) (lv : List (Nat × Value)) (st : List Value) (μ : bc_M) (slots : Nat) : Prop := match Z with
  | (p, l, e, R, s, m, args, below, meth, c, Q, _, _, S) => ∀ (H : Heap) (locs : List Loc) (sl : Array Slot), H.size = S + nn → va_P X.2.1 vwCl (bc_ws X Lw μ) H → (∀ q, q < S → ¬ bc_A X Lw q → H[q]? = s.heap[q]?) → (∀ z ∈ locs, bn_free X S Lw z.base) → lv_has sl y.2.2.1 lv →
    W p l e R s m args below meth c H locs (nn - 1) slots Q (F0 m pc sl st)
theorem bn_inj {S : Nat} {ex : Nat → Nat} {Y : bc_X} {L : bc_L} : bc_inj (bn_X S L.length ex Y) L := fun i j hi hj h => by
  rw [bn_X.own hi, bn_X.own hj] at h
  omega
theorem bn_ge {S S0 : Nat} {ex : Nat → Nat} {Y : bc_X} {L : bc_L} (h : S0 ≤ S) : ∀ q, bc_A (bn_X S L.length ex Y) L q → S0 ≤ q := fun q hq => by
  obtain ⟨i, hi, rfl⟩ := hq
  rw [bn_X.own hi]
  omega
theorem bn_geS {S : Nat} {ex : Nat → Nat} {Y : bc_X} {L : bc_L} : ∀ q, bc_A (bn_X S L.length ex Y) L q → S ≤ q := bn_ge (Nat.le_refl S)
section BQ
variable {y : bc_Y} {ci : Nat} {L Lw : bc_L} {Z : bn_Z} {pc n slots nn : Nat} {lv : List (Nat × Value)} {st fs : List Value} {μ : bc_M} {X : bc_X}
/-- the arrays are there: the world is whole -/
theorem bn_q {n0 : Nat} {rs : List (Option Nat)} (h0 : L[0]? = some (ci + 5, n0, rs)) (hfs : fs = bc_fs (bn_XZ Z L.length).1 (μ 0) rs) (kk : bq y L L.length Z (bn_XZ Z L.length) pc lv st μ slots) : bn y ci L Z pc lv st L.length fs μ slots := by
  obtain ⟨p, l, e, R, s, m, args, below, meth, c, Q, Y, ex, S⟩ := Z
  intro H locs sl hP hlow hlocs hlv
  exact kk H locs sl hP.1 (bn_full (X := bn_X S L.length ex Y) (fun i hi => bn_X.own hi) h0 hfs hP) (fun q hq _ => hlow q hq) (fun z hz => Or.inl (Nat.le_of_eq (hlocs z hz).symm)) hlv
/-- aload_0; a method of its own -/
theorem bq_call {z : bc_Y} {idx d ci n0 N : Nat} {rs : List (Option Nat)} {T : u_T} {Q9 : bc_M → Prop} (C : bn_H y Z) (hK : bc_K X Lw (bn_s Z)) (h0 : lv[0]? = some (0, .ref (bn_S Z))) (hX : X.1 0 = bn_S Z) (d0 : decode y.2.1 pc = .ok (.aload_n 0, 1)) (d1 : decode y.2.1 (pc + 1) = .ok (.invokevirtual idx, 3)) (hl0 : Cond.methodLink y.1.cls idx z.1 ∈ bc_G) (hz : bc_V0 z 0) (ho : Lw[0]? = some (ci + 5, n0, rs)) (hc : vwCl[ci]? = some (z.1.cls, T, N)) (hf : d + 1 ≤ (bn_R Z).frames) (hlo : 64 * (d + 1) ≤ (bn_R Z).locals) (hce : nn - 1 ≤ (bn_R Z).cells) (hsl : slots ≤ (bn_R Z).slots) (hnn : 0 < nn)
    (hC : bc_C d Lw z [.ref 0] μ (fun r ν => r = none ∧ Q9 ν)) (kk : ∀ ν, Q9 ν → bq y Lw nn Z X (pc + 4) lv [] ν slots) : bq y Lw nn Z X pc lv [] μ slots := by
  obtain ⟨p, l, e, R, s, m, args, below, meth, c, Q, Y, ex, S⟩ := Z
  obtain ⟨⟨hx, hb, hr, hml, hlk, hown, hts, hin⟩, -, hsz⟩ := C
  obtain ⟨z1, z2, z3, z4, z5, z6, z7, z8⟩ := hz
  have hf : d + 1 ≤ R.frames := hf
  have hlo : 64 * (d + 1) ≤ R.locals := hlo
  have hX : X.1 0 = S := hX
  have hK : bc_K X Lw s := hK
  have word : ∀ {w : Cond}, w ∈ bc_G → w.before args s = true := fun h => hts _ (List.mem_cons_of_mem _ h)
  intro H locs sl hHs hP hlow hlocs hlv
  refine lv_aload_n hx hb d0 rfl (lv_at hlv 0 h0) ?_
  have hrecv : ∃ cellB : Cell, H[X.1 0]? = some cellB ∧ cellB.vm.isStatics = false ∧ s.vm.findClass z.1.cls = some cellB.cls := va_recv hK.1 hP (ci := ci) (q0 := 0) hc (bc_at ho)
  have hcb : CallB R s args y.1.cls idx z.1 z.2.1 z.2.2.1 z.2.2.2 (bc_wsy z) (bc_rm d) 0 0 0 := callB_of 0 hts (bc_GG z4) rfl rfl rfl (word z3) (word hl0) ⟨z6, z7, z8⟩ ⟨hf, by show 8 + (z.2.2.1 + 11) + 64 * d ≤ R.locals; omega⟩
  have hmv : ∀ q : Nat, q < s.heap.size → ¬ bc_A X Lw q → H[q]? = s.heap[q]? := fun q g1 g2 => by
    refine hlow q ?_ g2
    have hne : q ≠ S := fun e => g2 ⟨0, (List.getElem?_eq_some_iff.mp ho).1, by rw [hX]; exact e⟩
    omega
  have hrun : va_Run p l e R s m args below meth c H locs (nn - 1) slots 0 0 (F0 m (pc + 1) sl [.ref S]) [] (bc_Post X Lw (fun r ν => r = none ∧ Q9 ν) [Value.ref (X.1 0)].toArray) (bc_A X Lw) :=
    va_runV (n := 0) (As := []) (rest := []) ⟨hx, hb, hml, hown, hts⟩ (hC l X) ⟨hcb, word z1, word z2⟩ ⟨bc_blind, hrecv, fun U hU hW => ⟨rfl, hK.moved hW (fun q g1 g2 => by rw [hU]; exact hmv q g1 g2), by rw [hU]; exact hP⟩⟩ rfl rfl hlv.1 (by rw [hX]; rfl) (lv_room (by decide)) d1 ⟨hce, hsl⟩
  intro T9 hT XT
  obtain ⟨v, st₀, t, T', Lc, e0, X2, hLc, e1, e2, ⟨⟨r, ν, hv, ⟨rfl, hB⟩, hP1⟩, hF⟩, hgo⟩ := hrun T9 hT XT
  cases hv
  obtain ⟨fz, fk⟩ := hF
  rw [e0] at fz fk
  have hsize : T'.heap.size = S + nn := by
    have h1 : T'.heap.size ≤ s.heap.size + (nn - 1 + 0) := X2.same.2.2.1
    have h2 : H.size ≤ T'.heap.size := by rw [e1]; exact fz
    omega
  obtain ⟨t2, a1, b1⟩ := kk ν hB T'.heap (locs ++ Lc) sl hsize (by rw [e1]; exact hP1) (fun q g1 g2 => by
    rw [e1, fk q (by omega) g2]
    exact hlow q g1 g2) (fun z9 hz9 => by
    rcases List.mem_append.mp hz9 with h | h
    · exact hlocs z9 h
    · exact Or.inr (hLc z9 h)) hlv T' rfl X2
  exact ⟨t2, hgo t2 a1, b1⟩
theorem bq_ret {p : Program} {l : Launch} {e : Env} {R : Room} {s : State} {m : MethodId} {args : Array Value} {below : List Frame} {meth : Method} {c : Code} {Y : bc_X} {ex : Nat → Nat} {S : Nat} {Q9 : bc_M → Prop} (C : bn_H y (p, l, e, R, s, m, args, below, meth, c, MQ below (bn_Post X S nn Lw Q9) args s (nn - 1) slots (bn_free X S Lw), Y, ex, S)) (d0 : decode y.2.1 pc = .ok (.return_, 1)) (hq : Q9 μ) : bq y Lw nn (p, l, e, R, s, m, args, below, meth, c, MQ below (bn_Post X S nn Lw Q9) args s (nn - 1) slots (bn_free X S Lw), Y, ex, S) X pc lv [] μ slots := by
  obtain ⟨⟨hx, hb, hr, hml, hlk, hown, hts, hin⟩, -, hsz⟩ := C
  intro H locs sl hHs hP hlow hlocs hlv
  exact W.vret hx hb hr (fun t ht _ => ⟨rfl, by rw [ht]; exact hHs, ⟨μ, hq, by rw [ht]; exact hP⟩, fun q g1 g2 => by rw [ht]; exact hlow q g1 g2⟩) hlocs d0 hlk
theorem bn_enter {d : Nat} {as fs0 : List Value} {ex : Nat → Nat} {sl : Nat} {E : bc_X → State → Prop} {Q9 : bc_M → Prop} (hret : y.2.2.2 = none) (hy : plainName y.1.cls = true) (hnm : y.1.name = "<init>") (hlen : ∀ S : Nat, (lg_sl (.ref S :: as)).length ≤ y.2.2.1)
    (k : ∀ (p : Program) (l : Launch) (e : Env) (s : State) (m : MethodId) (args : Array Value) (below : List Frame) (meth : Method) (c : Code) (Y : bc_X) (S0 S : Nat), S0 ≤ S → bc_inj (bn_X S L.length ex Y) Lw → (∀ q, bc_A (bn_X S L.length ex Y) Lw q → S0 ≤ q) → bk_K Y S0 s → E (bn_X S L.length ex Y) s →
      bn_H y (p, l, e, bn_rm d (L.length - 1) sl, s, m, args, below, meth, c, MQ below (bn_Post (bn_X S L.length ex Y) S L.length Lw Q9) args s (L.length - 1) sl (bn_free (bn_X S L.length ex Y) S Lw), Y, ex, S) →
      bn y ci L (p, l, e, bn_rm d (L.length - 1) sl, s, m, args, below, meth, c, MQ below (bn_Post (bn_X S L.length ex Y) S L.length Lw Q9) args s (L.length - 1) sl (bn_free (bn_X S L.length ex Y) S Lw), Y, ex, S) 0 (lv_args 0 (.ref S :: as)) [] 1 fs0 μ 0) : bn_C d y ci as fs0 ex L.length Lw sl E Q9 := by
  intro l Y S0 S hS0 hi hA
  refine Met.ofW (cc := y.2.1) (maxL := y.2.2.1) (ret := y.2.2.2) hy rfl ?_
  intro p e s m args below meth c s₁ B hml hv
  obtain ⟨rfl, hsz, hK, hat, hE⟩ := hv
  have hts := atoms_spec (ws := bc_wsy y) B.pre
  have hl := lv_entry (.ref S :: as) (n := y.2.2.1) (hlen S)
  rw [lg_entry_eq]
  generalize (lg_sl (.ref S :: as) ++ List.replicate (y.2.2.1 - (lg_sl (.ref S :: as)).length) Slot.unset).toArray = sl9 at hl ⊢
  have hname : meth.name = "<init>" := (name_of_methodNamed B.named B.method).1.trans hnm
  exact k p l e s m _ below meth c Y S0 S hS0 hi hA hK hE ⟨⟨B.exec, B.bytes, B.returns.trans hret, hml, B.notSynchronized, findClass_of_methodNamed B.named, hts, hname⟩, ⟨S0, hS0, hK⟩, hsz⟩ s.heap [] sl9 ⟨hsz, hat, fun i o h1 h2 => by omega⟩ (fun _ _ => rfl) (fun _ h => nomatch h) hl
end BQ
