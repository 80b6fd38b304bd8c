/-! the law's start -/
def lw_At (p : Program) (s : State) (m : MethodId) (meth : Method) (c : Code) (b L : Nat) (xs : Nat → Int32) : Prop :=
  p.tables.exec = Jvm.exec ∧ c.code = code ∧ meth.sig.returnType = ret ∧ c.maxLocals = 8 ∧ s.vm.findClass R_law = some m.cls ∧ (∀ w ∈ lw_tbl, w.before #[Value.ref b] s = true) ∧ va_X b L xs s s.heap ∧ b < s.heap.size ∧ meth.locks = false ∧ (Jvm.Cond.and given_1 narrow_1).before #[Value.ref b] s = true
theorem vk_S_cg {N : Nat} {len : List Nat} {byt : List (List Int32)} {adK adV adK9 adV9 : Nat → Nat} {A : Nat → Prop} {U : State} {H : Heap} (h : vk_S N len byt adK adV A U H) (e1 : ∀ i, i < N → adK9 i = adK i) (e2 : ∀ i, i < N → adV9 i = adV i) : vk_S N len byt adK9 adV9 A U H :=
  ⟨fun i hi => by rw [e1 i hi, e2 i hi]; exact h.1 i hi, fun i j hi hj e => h.2 i j hi hj (by rw [← e1 i hi, ← e1 j hj]; exact e)⟩
theorem ws_all {n : Nat} {f : Nat → Bool} (h : (List.range n).all f = true) {i : Nat} (hi : i < n) : f i = true := List.all_eq_true.mp h i (List.mem_range.mpr hi)
theorem ws_cl {s : State} {args : Array Value} (hts : ∀ w ∈ bc_G, w.before args s = true) : ∃ D : va_G, ∀ (c : Nat) (q : vw_C), vwCl[c]? = some q → u_Kn s q.1 q.2.1 q.2.2 (D.1 c) (D.2 c) := by
  have h : ∀ c : Nat, ∃ z : ClassId × (Nat → Nat), ∀ q : vw_C, vwCl[c]? = some q → u_Kn s q.1 q.2.1 q.2.2 z.1 z.2 := by
    intro c
    have one : ∀ {C : String} {T : u_T} {N : Nat}, vwCl[c]? = some (C, T, N) → (∀ w ∈ u_ws C T N, w ∈ bc_G) → Cond.instantiable C N ∈ bc_G → ∃ z : ClassId × (Nat → Nat), ∀ q : vw_C, vwCl[c]? = some q → u_Kn s q.1 q.2.1 q.2.2 z.1 z.2 := by
      intro C T N h1 h2 h3
      obtain ⟨cC, iS, hk⟩ := u_known (C := C) (T := T) (N := N) (n := N) hts h2 (hts _ h3)
      refine ⟨(cC, iS), fun q hq => ?_⟩
      rw [h1] at hq
      cases hq
      exact hk
    match c with
    | 0 => exact one rfl uX0 nX0
    | 1 => exact one rfl uX1 nX1
    | 2 => exact one rfl uX2 nX2
    | 3 => exact one rfl uX3 nX3
    | 4 => exact one rfl uX4 nX4
    | 5 => exact one rfl uX5 nX5
    | 6 => exact one rfl uX6 nX6
    | 7 => exact one rfl uX7 nX7
    | 8 => exact one rfl uX8 nX8
    | 9 => exact one rfl uX9 nX9
    | 10 => exact one rfl uX10 nX10
    | c + 11 => exact ⟨((0 : Nat), fun _ => 0), fun q hq => by simp [vwCl] at hq⟩
  obtain ⟨z, hz⟩ := Classical.axiomOfChoice h
  exact ⟨(fun c => (z c).1, fun c => (z c).2), fun c q hq => hz c q hq⟩
theorem ws_ty {s : State} {args : Array Value} {ty : FieldType} (h : (Cond.arrayClass ty).before args s = true) : ∃ cA : ClassId, ArrOfT s cA ty ∧ s.vm.findClass ("[" ++ ty.toString) = some cA := by
  obtain ⟨c, k, comp, h1, h2, h3⟩ := Cond.arrayClass_spec h
  exact ⟨c, fun n z => ⟨fun k h => (by cases h), k, h2, comp, h3⟩, h1⟩
theorem ws_ty2 {s : State} {args : Array Value} {ty : FieldType} (h : (Cond.arrayOver (.array ty)).before args s = true) : ∃ cA : ClassId, ArrOfT s cA (.array ty) ∧ s.vm.findClass ("[" ++ (FieldType.array ty).toString) = some cA := by
  obtain ⟨comp, c, k, h0, h2, h3, h1⟩ := Cond.arrayOver_specA h
  exact ⟨c, fun n z => ⟨fun k h => (by cases h), k, h2, comp, h3⟩, h1⟩
/-- what the start gives: strings, classes, statics -/
theorem ws_K {s : State} {b : Nat} (hts : ∀ w ∈ lw_tbl, w.before #[Value.ref b] s = true) (hgv : (Jvm.Cond.and given_1 narrow_1).before #[Value.ref b] s = true) : ∃ Y : bc_X, bk_K Y s.heap.size s := by
  have hn : ∀ w ∈ nwL, w.before #[Value.ref b] s = true := flat_of_before _ hgv
  have hG : ∀ w ∈ bc_G, w.before #[Value.ref b] s = true := fun w h => hts w (List.mem_filter.mp h).1
  have hA : ∀ a : Nat, a < s.heap.size → ¬ (fun q => s.heap.size ≤ q) a := fun a h => Nat.not_le.mpr h
  obtain ⟨D, hD⟩ := ws_cl hG
  obtain ⟨c0, t0, n0⟩ := ws_ty (hG _ kd_int.1)
  obtain ⟨c1, t1, n1⟩ := ws_ty (hG _ kd_byte.1)
  obtain ⟨c2, t2, n2⟩ := ws_ty (hG _ kd_boolean.1)
  obtain ⟨c3, t3, n3⟩ := ws_ty (hG _ kd_long.1)
  obtain ⟨c4, t4, n4⟩ := ws_ty2 (hts _ w_over)
  obtain ⟨adK, adV, hS, hev⟩ := vk_Sof (args := #[Value.ref b]) (s := s) (N := 24) (tm := wsT) (len := bc_len) (byt := bc_byt) (A := fun q => s.heap.size ≤ q) ws_len
    (fun i hi => hn _ (nw_in _ (of_decide_eq_true (ws_all ws_ex hi))))
    (fun i hi => hn _ (nw_in _ (of_decide_eq_true (ws_all ws_co hi))))
    (fun i hi => hn _ (nw_in _ (of_decide_eq_true (ws_all ws_ar hi))))
    (fun i hi => hn _ (nw_in _ (of_decide_eq_true (ws_all ws_le hi))))
    (fun i hi j hj => hn _ (nw_in _ (of_decide_eq_true (ws_all (ws_all ws_el hi) hj))))
    (fun i j hi hj hij => by
      have h1 := ws_all (ws_all ws_cv hi) hj
      rw [Bool.or_eq_true, decide_eq_true_eq] at h1
      rcases h1 with h1 | h1
      · exact absurd h1 hij
      · obtain ⟨q, hq, h2⟩ := List.any_eq_true.mp h1
        have h3 := hn _ (nw_in _ (of_decide_eq_true (List.all_eq_true.mp ws_ne q hq)))
        simp only [Bool.or_eq_true, Bool.and_eq_true, beq_iff_eq] at h2
        rcases h2 with ⟨e1, e2⟩ | ⟨e1, e2⟩
        · rw [e1, e2] at h3; exact Or.inl h3
        · rw [e1, e2] at h3; exact Or.inr h3) hA
  have hsi := va_Zqof (A := fun q => s.heap.size ≤ q) (hts _ wl_si) (hts _ wi_si) (hn _ ws_si) hA
  obtain ⟨t, ht⟩ : ∃ t : Nat, va_Z "jdk/internal/util/Preconditions" "SIOOBE_FORMATTER" "Ljava/util/function/BiFunction;" .null (fun q => s.heap.size ≤ q) s s.heap ∨ va_Z "jdk/internal/util/Preconditions" "SIOOBE_FORMATTER" "Ljava/util/function/BiFunction;" (.ref t) (fun q => s.heap.size ≤ q) s s.heap := by
    rcases hsi with h | ⟨t, h⟩
    · exact ⟨0, Or.inl h⟩
    · exact ⟨t, Or.inr h⟩
  have e1 : ∀ i, i < 24 → (if 1000 + i < 2000 then adK (1000 + i - 1000) else if 1000 + i < 3000 then adV (1000 + i - 2000) else t) = adK i := fun i hi => by
    rw [if_pos (by omega), Nat.add_sub_cancel_left]
  have e2 : ∀ i, i < 24 → (if 2000 + i < 2000 then adK (2000 + i - 1000) else if 2000 + i < 3000 then adV (2000 + i - 2000) else t) = adV i := fun i hi => by
    rw [if_neg (by omega), if_pos (by omega), Nat.add_sub_cancel_left]
  refine ⟨(fun i => if i < 2000 then adK (i - 1000) else if i < 3000 then adV (i - 2000) else t, D, fun k => if k = 0 then c0 else if k = 1 then c1 else if k = 2 then c2 else if k = 3 then c3 else c4, fun _ => 0), ⟨hD, fun k q hk => ?_⟩, fun w hw => ?_, hts _ w_over, vk_S_cg hS e1 e2, fun q hq => ?_, va_Zof (hts _ wl_cs) (hts _ wi_cs) (va_eqt (hn _ ws_cs)) hA, ht⟩
  · match k with
    | 0 => cases hk; exact ⟨t0, n0⟩
    | 1 => cases hk; exact ⟨t1, n1⟩
    | 2 => cases hk; exact ⟨t2, n2⟩
    | 3 => cases hk; exact ⟨t3, n3⟩
    | 4 => cases hk; exact ⟨t4, n4⟩
    | k + 5 => simp [bc_tys] at hk
  · have h1 := List.mem_filter.mp hw
    have h2 := hts w h1.1
    have h3 := h1.2
    cases w <;> first | (simp [bc_isN] at h3; done) | exact va_Nw.of rfl h2
  · obtain ⟨i, hi⟩ := List.getElem?_of_mem hq
    have hnum := ws_num
    simp only [Bool.and_eq_true, decide_eq_true_eq] at hnum
    have hil : i < 24 := by
      have := (List.getElem?_eq_some_iff.mp hi).1
      omega
    have hz : (bc_strs.zip wsJ)[i]? = some (q, wsJ[i]'(by omega)) := by
      rw [List.getElem?_zip_eq_some]
      exact ⟨hi, by simp⟩
    have h1 := of_decide_eq_true (List.all_eq_true.mp ws_str _ (List.mem_of_getElem? hz))
    have hgd : bc_strs.getD i ("", 0, "", 0) = q := by rw [List.getD_eq_getElem?_getD, hi]; rfl
    have h4 := ws_all hnum.1.1 hil
    rw [hgd, beq_iff_eq] at h4
    have h5 := hev i hil
    unfold wsT at h5
    rw [hgd] at h5
    refine vk_R.of (hts _ (List.mem_of_getElem? h1)) ?_
    show _ = some (Value.ref (if 1000 + q.2.2.2 < 2000 then adK (1000 + q.2.2.2 - 1000) else if 1000 + q.2.2.2 < 3000 then adV (1000 + q.2.2.2 - 2000) else t))
    rw [h4, e1 i hil]
    exact h5
