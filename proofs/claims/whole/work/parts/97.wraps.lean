/-! each wrapper: what it answers, beside the reference -/
def v64 : Value → Int64
  | .int x => x.toInt64
  | .long x => x
  | _ => 0
def Aw (y : bw_Y) (yM : bc_Y) (as : List Value) (M m : bc_M) : Prop := ∃ (Q : (Nat → Int64) → Int32 → (Nat → Int64) → bc_M → Prop) (v : Value) (B : bc_M → Prop), vT yM v ∧ bw_C y as M Q ∧ bc_C 40 LM yM (.ref 0 :: as) m (fun r ξ => r = some v ∧ B ξ) ∧ ∀ f k f' ν ξ, Q f k f' ν → B ξ → REL ν ξ ∧ ξ 0 0 = k ∧ (k = 0 → f' 0 = v64 v)
section T97
variable {M m : bc_M}
theorem Aw.r {y : bw_Y} {z yM : bc_Y} {as : List Value} {pcC pcZ idx n : Nat} {off : Int} (hE : bw_E y pcC as) (hlen : ∀ x o : Nat, (lg_sl (.ref x :: (as ++ [.ref o]))).length ≤ y.2.2.1) (hl0 : Cond.methodLink y.1.cls idx z.1 ∈ bc_G) (hz : bc_V0 z n) (hn : as.length = n) (has : ∀ ad : Nat → Nat, as.map (bc_v ad) = as) (dC : decode y.2.1 pcC = .ok (.invokevirtual idx, 3)) (di : decode y.2.1 (pcC + 3) = .ok (.i2l, 1)) (dS : decode y.2.1 (pcC + 4) = .ok (.lastore, 1)) (dG : decode y.2.1 (pcC + 5) = .ok (.goto off, 3)) (ht : ((pcC + 5 : Nat) : Int) + off = (pcZ : Int)) (d0 : decode y.2.1 pcZ = .ok (.iconst 0, 1)) (d1 : decode y.2.1 (pcZ + 1) = .ok (.ireturn, 1)) (hy : plainName y.1.cls = true) (hcl : z.1.cls = RX9) (hT : yM.2.2.2 = some .int) (h : Pr z yM as M m) : Aw y yM as M m := by
  obtain ⟨v, A, B, hv, hC, hM, hr⟩ := h
  refine ⟨_, v, B, hv, bw_ret (x64 := v64 v) hy hlen hE hl0 hz hcl hn has dC ?_ dS dG ht d0 d1 hC, hM, ?_⟩
  · rcases hv with ⟨q, -⟩ | ⟨-, x, rfl⟩
    · rw [hT] at q; cases q
    · exact Or.inl ⟨x, rfl, rfl, di, rfl⟩
  · rintro f k f' ν ξ ⟨rfl, h2, h3⟩ hB
    exact ⟨(hr ν ξ h3 hB).1, (hr ν ξ h3 hB).2, fun _ => h2⟩
theorem Aw.rl {y : bw_Y} {z yM : bc_Y} {as : List Value} {pcC pcZ idx n : Nat} {off : Int} (hE : bw_E y pcC as) (hlen : ∀ x o : Nat, (lg_sl (.ref x :: (as ++ [.ref o]))).length ≤ y.2.2.1) (hl0 : Cond.methodLink y.1.cls idx z.1 ∈ bc_G) (hz : bc_V0 z n) (hn : as.length = n) (has : ∀ ad : Nat → Nat, as.map (bc_v ad) = as) (dC : decode y.2.1 pcC = .ok (.invokevirtual idx, 3)) (dS : decode y.2.1 (pcC + 3) = .ok (.lastore, 1)) (dG : decode y.2.1 (pcC + 4) = .ok (.goto off, 3)) (ht : ((pcC + 4 : Nat) : Int) + off = (pcZ : Int)) (d0 : decode y.2.1 pcZ = .ok (.iconst 0, 1)) (d1 : decode y.2.1 (pcZ + 1) = .ok (.ireturn, 1)) (hy : plainName y.1.cls = true) (hcl : z.1.cls = RX9) (hT : yM.2.2.2 = some .long) (h : Pr z yM as M m) : Aw y yM as M m := by
  obtain ⟨v, A, B, hv, hC, hM, hr⟩ := h
  refine ⟨_, v, B, hv, bw_ret (x64 := v64 v) hy hlen hE hl0 hz hcl hn has dC ?_ dS dG ht d0 d1 hC, hM, ?_⟩
  · rcases hv with ⟨-, x, rfl⟩ | ⟨q, -⟩
    · exact Or.inr ⟨rfl, rfl⟩
    · rw [hT] at q; cases q
  · rintro f k f' ν ξ ⟨rfl, h2, h3⟩ hB
    exact ⟨(hr ν ξ h3 hB).1, (hr ν ξ h3 hB).2, fun _ => h2⟩
theorem Aw.t {y : bw_Y} {z yM : bc_Y} {as : List Value} {pcC pcR idx n : Nat} {code : Int32} {E : String} (pre : List ExceptionTableEntry) (x : ExceptionTableEntry) (suf : List ExceptionTableEntry) (hsplit : tableOf y.2.2.2 = pre ++ x :: suf) (hE : bw_E y pcC as) (hlen : ∀ x o : Nat, (lg_sl (.ref x :: (as ++ [.ref o]))).length ≤ y.2.2.1) (hl0 : Cond.methodLink y.1.cls idx z.1 ∈ bc_G) (hz : bc_V0 z n) (hn : as.length = n) (has : ∀ ad : Nat → Nat, as.map (bc_v ad) = as) (dC : decode y.2.1 pcC = .ok (.invokevirtual idx, 3))
    (hpass : ∀ z ∈ pre, z.catchType ≠ 0 ∧ Cond.classLink y.1.cls z.catchType eNS ∈ bc_G ∧ E = eIA) (hcov : covers x pcC = true) (hc0 : x.catchType ≠ 0) (hlink : Cond.classLink y.1.cls x.catchType E ∈ bc_G) (hcast : Cond.castable E E ∈ bx_B) (hD : bw_D y x.handlerPc pcR code) (d1 : decode y.2.1 pcR = .ok (.ireturn, 1)) (hy : plainName y.1.cls = true) (hcl : z.1.cls = RX9) (hk : code ≠ 0) (h : Pt z yM as E code M m) : Aw y yM as M m := by
  obtain ⟨ν, v, B, hv, hC, hM, hr⟩ := h
  refine ⟨_, v, B, hv, bw_thr pre x suf hsplit hy hlen hE hl0 hz hcl hn has dC hpass hcov hc0 hlink hcast hD d1 hC, hM, ?_⟩
  rintro f k f' ν' ξ ⟨rfl, rfl, rfl⟩ hB
  exact ⟨(hr ξ hB).1, (hr ξ hB).2, fun q => absurd q hk⟩
theorem eIA_c : Cond.castable eIA eIA ∈ bx_B := by decide
theorem eNS_c : Cond.castable eNS eNS ∈ bx_B := by decide
theorem pass0 {y : bw_Y} {E : String} : ∀ z ∈ ([] : List ExceptionTableEntry), z.catchType ≠ 0 ∧ Cond.classLink y.1.cls z.catchType eNS ∈ bc_G ∧ E = eIA := fun _ h => nomatch h
theorem pass1 {y : bw_Y} {x : ExceptionTableEntry} (h0 : x.catchType ≠ 0) (h : Cond.classLink y.1.cls x.catchType eNS ∈ bc_G) : ∀ z ∈ [x], z.catchType ≠ 0 ∧ Cond.classLink y.1.cls z.catchType eNS ∈ bc_G ∧ eIA = eIA := fun z hz => by
  rw [List.mem_singleton.mp hz]
  exact ⟨h0, h, rfl⟩
theorem e_bog {a1 : Int32} : bw_E wL_bog 4 [.int a1] := by
  intro p l e R s m args below meth c H Q x o sl hx hb hl k
  refine lv_aload_n hx hb dL_bog_0 rfl (lv_at hl 2 rfl) ?_
  refine lv_iconst (v := 0) hx hb dL_bog_1 rfl ?_
  refine lv_aload_n hx hb dL_bog_2 rfl (lv_at hl 0 rfl) ?_
  refine lv_iload_n hx hb dL_bog_3 rfl (lv_at hl 1 rfl) ?_
  exact k
theorem d_bog1 : bw_D wL_bog 12 14 1 := by
  intro p l e R s m args below meth c H locs cells slots Q q sl lv hx hb hl k
  refine lv_astore_n hx hb dL_bog_12 rfl hl (by decide) rfl (fun sl' _ => ?_)
  exact lv_iconst (v := 1) hx hb dL_bog_13 rfl (k sl')
theorem aw_bog {a1 : Int32} (h : REL M m) : Aw wL_bog mX10_bog [.int a1] M m := by
  by_cases g : 0 ≤ a1 ∧ a1 ≤ M 1 1
  · exact Aw.r (z := mX9_bog) (pcZ := 15) (e_bog) (fun _ _ => Nat.le_of_ble_eq_true rfl) lL_7 qX9_bog rfl (fun _ => rfl) dL_bog_4 dL_bog_7 dL_bog_8 dL_bog_9 (by decide) dL_bog_15 dL_bog_16 (by decide) rfl rfl (p_bog h g)
  · exact Aw.t (z := mX9_bog) [] ⟨0, 9, 12, 13⟩ [] rfl (e_bog) (fun _ _ => Nat.le_of_ble_eq_true rfl) lL_7 qX9_bog rfl (fun _ => rfl) dL_bog_4 pass0 (by decide) (by decide) hL_13 eIA_c d_bog1 dL_bog_14 (by decide) rfl (by decide) (f_bog h g)
theorem e_law {a1 : Int32} : bw_E wL_law 4 [.int a1] := by
  intro p l e R s m args below meth c H Q x o sl hx hb hl k
  refine lv_aload_n hx hb dL_law_0 rfl (lv_at hl 2 rfl) ?_
  refine lv_iconst (v := 0) hx hb dL_law_1 rfl ?_
  refine lv_aload_n hx hb dL_law_2 rfl (lv_at hl 0 rfl) ?_
  refine lv_iload_n hx hb dL_law_3 rfl (lv_at hl 1 rfl) ?_
  exact k
theorem d_law1 : bw_D wL_law 12 14 1 := by
  intro p l e R s m args below meth c H locs cells slots Q q sl lv hx hb hl k
  refine lv_astore_n hx hb dL_law_12 rfl hl (by decide) rfl (fun sl' _ => ?_)
  exact lv_iconst (v := 1) hx hb dL_law_13 rfl (k sl')
theorem aw_law {a1 : Int32} (h : REL M m) : Aw wL_law mX10_law [.int a1] M m := by
  by_cases g : 0 ≤ a1 ∧ a1 ≤ M 1 1 ∧ a1 ≤ 150
  · exact Aw.r (z := mX9_law) (pcZ := 15) (e_law) (fun _ _ => Nat.le_of_ble_eq_true rfl) lL_15 qX9_law rfl (fun _ => rfl) dL_law_4 dL_law_7 dL_law_8 dL_law_9 (by decide) dL_law_15 dL_law_16 (by decide) rfl rfl (p_law h g)
  · exact Aw.t (z := mX9_law) [] ⟨0, 9, 12, 13⟩ [] rfl (e_law) (fun _ _ => Nat.le_of_ble_eq_true rfl) lL_15 qX9_law rfl (fun _ => rfl) dL_law_4 pass0 (by decide) (by decide) hL_13 eIA_c d_law1 dL_law_14 (by decide) rfl (by decide) (f_law h g)
theorem e_work {a1 : Int32} : bw_E wL_work 4 [.int a1] := by
  intro p l e R s m args below meth c H Q x o sl hx hb hl k
  refine lv_aload_n hx hb dL_work_0 rfl (lv_at hl 2 rfl) ?_
  refine lv_iconst (v := 0) hx hb dL_work_1 rfl ?_
  refine lv_aload_n hx hb dL_work_2 rfl (lv_at hl 0 rfl) ?_
  refine lv_iload_n hx hb dL_work_3 rfl (lv_at hl 1 rfl) ?_
  exact k
theorem d_work1 : bw_D wL_work 12 14 1 := by
  intro p l e R s m args below meth c H locs cells slots Q q sl lv hx hb hl k
  refine lv_astore_n hx hb dL_work_12 rfl hl (by decide) rfl (fun sl' _ => ?_)
  exact lv_iconst (v := 1) hx hb dL_work_13 rfl (k sl')
theorem aw_work {a1 : Int32} (h : REL M m) : Aw wL_work mX10_work [.int a1] M m := by
  by_cases g : 0 ≤ a1 ∧ a1 ≤ M 1 1 ∧ a1 ≤ 150
  · exact Aw.r (z := mX9_work) (pcZ := 15) (e_work) (fun _ _ => Nat.le_of_ble_eq_true rfl) lL_18 qX9_work rfl (fun _ => rfl) dL_work_4 dL_work_7 dL_work_8 dL_work_9 (by decide) dL_work_15 dL_work_16 (by decide) rfl rfl (p_work h g)
  · exact Aw.t (z := mX9_work) [] ⟨0, 9, 12, 13⟩ [] rfl (e_work) (fun _ _ => Nat.le_of_ble_eq_true rfl) lL_18 qX9_work rfl (fun _ => rfl) dL_work_4 pass0 (by decide) (by decide) hL_13 eIA_c d_work1 dL_work_14 (by decide) rfl (by decide) (f_work h g)
theorem e_book {a1 : Int32} : bw_E wL_book 4 [.int a1] := by
  intro p l e R s m args below meth c H Q x o sl hx hb hl k
  refine lv_aload_n hx hb dL_book_0 rfl (lv_at hl 2 rfl) ?_
  refine lv_iconst (v := 0) hx hb dL_book_1 rfl ?_
  refine lv_aload_n hx hb dL_book_2 rfl (lv_at hl 0 rfl) ?_
  refine lv_iload_n hx hb dL_book_3 rfl (lv_at hl 1 rfl) ?_
  exact k
theorem d_book1 : bw_D wL_book 12 14 1 := by
  intro p l e R s m args below meth c H locs cells slots Q q sl lv hx hb hl k
  refine lv_astore_n hx hb dL_book_12 rfl hl (by decide) rfl (fun sl' _ => ?_)
  exact lv_iconst (v := 1) hx hb dL_book_13 rfl (k sl')
theorem aw_book {a1 : Int32} (h : REL M m) : Aw wL_book mX10_book [.int a1] M m := by
  by_cases g : 0 ≤ a1 ∧ a1 ≤ M 1 1 ∧ a1 ≤ 60
  · exact Aw.r (z := mX9_book) (pcZ := 15) (e_book) (fun _ _ => Nat.le_of_ble_eq_true rfl) lL_21 qX9_book rfl (fun _ => rfl) dL_book_4 dL_book_7 dL_book_8 dL_book_9 (by decide) dL_book_15 dL_book_16 (by decide) rfl rfl (p_book h g)
  · exact Aw.t (z := mX9_book) [] ⟨0, 9, 12, 13⟩ [] rfl (e_book) (fun _ _ => Nat.le_of_ble_eq_true rfl) lL_21 qX9_book rfl (fun _ => rfl) dL_book_4 pass0 (by decide) (by decide) hL_13 eIA_c d_book1 dL_book_14 (by decide) rfl (by decide) (f_book h g)
theorem e_told {a1 : Int32} : bw_E wL_told 4 [.int a1] := by
  intro p l e R s m args below meth c H Q x o sl hx hb hl k
  refine lv_aload_n hx hb dL_told_0 rfl (lv_at hl 2 rfl) ?_
  refine lv_iconst (v := 0) hx hb dL_told_1 rfl ?_
  refine lv_aload_n hx hb dL_told_2 rfl (lv_at hl 0 rfl) ?_
  refine lv_iload_n hx hb dL_told_3 rfl (lv_at hl 1 rfl) ?_
  exact k
theorem d_told1 : bw_D wL_told 12 14 1 := by
  intro p l e R s m args below meth c H locs cells slots Q q sl lv hx hb hl k
  refine lv_astore_n hx hb dL_told_12 rfl hl (by decide) rfl (fun sl' _ => ?_)
  exact lv_iconst (v := 1) hx hb dL_told_13 rfl (k sl')
theorem aw_told {a1 : Int32} (h : REL M m) : Aw wL_told mX10_told [.int a1] M m := by
  by_cases g : 0 ≤ a1 ∧ a1 ≤ 11
  · exact Aw.r (z := mX9_told) (pcZ := 15) (e_told) (fun _ _ => Nat.le_of_ble_eq_true rfl) lL_24 qX9_told rfl (fun _ => rfl) dL_told_4 dL_told_7 dL_told_8 dL_told_9 (by decide) dL_told_15 dL_told_16 (by decide) rfl rfl (p_told h g)
  · exact Aw.t (z := mX9_told) [] ⟨0, 9, 12, 13⟩ [] rfl (e_told) (fun _ _ => Nat.le_of_ble_eq_true rfl) lL_24 qX9_told rfl (fun _ => rfl) dL_told_4 pass0 (by decide) (by decide) hL_13 eIA_c d_told1 dL_told_14 (by decide) rfl (by decide) (f_told h g)
theorem e_quarter {a1 a2 : Int32} : bw_E wL_quarter 5 [.int a1, .int a2] := by
  intro p l e R s m args below meth c H Q x o sl hx hb hl k
  refine lv_aload_n hx hb dL_quarter_0 rfl (lv_at hl 3 rfl) ?_
  refine lv_iconst (v := 0) hx hb dL_quarter_1 rfl ?_
  refine lv_aload_n hx hb dL_quarter_2 rfl (lv_at hl 0 rfl) ?_
  refine lv_iload_n hx hb dL_quarter_3 rfl (lv_at hl 1 rfl) ?_
  refine lv_iload_n hx hb dL_quarter_4 rfl (lv_at hl 2 rfl) ?_
  exact k
theorem d_quarter1 : bw_D wL_quarter 13 16 1 := by
  intro p l e R s m args below meth c H locs cells slots Q q sl lv hx hb hl k
  refine lv_astore hx hb dL_quarter_13 hl (by decide) rfl (fun sl' _ => ?_)
  exact lv_iconst (v := 1) hx hb dL_quarter_15 rfl (k sl')
theorem d_quarter2 : bw_D wL_quarter 17 20 2 := by
  intro p l e R s m args below meth c H locs cells slots Q q sl lv hx hb hl k
  refine lv_astore hx hb dL_quarter_17 hl (by decide) rfl (fun sl' _ => ?_)
  exact lv_iconst (v := 2) hx hb dL_quarter_19 rfl (k sl')
theorem aw_quarter {a1 a2 : Int32} (h : REL M m) : Aw wL_quarter mX10_quarter [.int a1, .int a2] M m := by
  by_cases g : (0 ≤ a1 ∧ a1 < M 3 0)
  · by_cases g2 : (0 ≤ a2 ∧ a2 ≤ 6)
    · exact Aw.r (z := mX9_quarter) (pcZ := 21) (e_quarter) (fun _ _ => Nat.le_of_ble_eq_true rfl) lL_27 qX9_quarter rfl (fun _ => rfl) dL_quarter_5 dL_quarter_8 dL_quarter_9 dL_quarter_10 (by decide) dL_quarter_21 dL_quarter_22 (by decide) rfl rfl (p_quarter h ⟨g, g2⟩)
    · exact Aw.t (z := mX9_quarter) [⟨0, 10, 13, 31⟩] ⟨0, 10, 17, 13⟩ [] rfl (e_quarter) (fun _ _ => Nat.le_of_ble_eq_true rfl) lL_27 qX9_quarter rfl (fun _ => rfl) dL_quarter_5 (pass1 (by decide) hL_31) (by decide) (by decide) hL_13 eIA_c d_quarter2 dL_quarter_20 (by decide) rfl (by decide) (f_quarterW h g g2)
  · exact Aw.t (z := mX9_quarter) [] ⟨0, 10, 13, 31⟩ [⟨0, 10, 17, 13⟩] rfl (e_quarter) (fun _ _ => Nat.le_of_ble_eq_true rfl) lL_27 qX9_quarter rfl (fun _ => rfl) dL_quarter_5 pass0 (by decide) (by decide) hL_31 eNS_c d_quarter1 dL_quarter_16 (by decide) rfl (by decide) (f_quarterT h g)
theorem e_oven {a1 a2 : Int32} : bw_E wL_oven 5 [.int a1, .int a2] := by
  intro p l e R s m args below meth c H Q x o sl hx hb hl k
  refine lv_aload_n hx hb dL_oven_0 rfl (lv_at hl 3 rfl) ?_
  refine lv_iconst (v := 0) hx hb dL_oven_1 rfl ?_
  refine lv_aload_n hx hb dL_oven_2 rfl (lv_at hl 0 rfl) ?_
  refine lv_iload_n hx hb dL_oven_3 rfl (lv_at hl 1 rfl) ?_
  refine lv_iload_n hx hb dL_oven_4 rfl (lv_at hl 2 rfl) ?_
  exact k
theorem d_oven1 : bw_D wL_oven 13 16 1 := by
  intro p l e R s m args below meth c H locs cells slots Q q sl lv hx hb hl k
  refine lv_astore hx hb dL_oven_13 hl (by decide) rfl (fun sl' _ => ?_)
  exact lv_iconst (v := 1) hx hb dL_oven_15 rfl (k sl')
theorem d_oven2 : bw_D wL_oven 17 20 2 := by
  intro p l e R s m args below meth c H locs cells slots Q q sl lv hx hb hl k
  refine lv_astore hx hb dL_oven_17 hl (by decide) rfl (fun sl' _ => ?_)
  exact lv_iconst (v := 2) hx hb dL_oven_19 rfl (k sl')
theorem aw_oven {a1 a2 : Int32} (h : REL M m) : Aw wL_oven mX10_oven [.int a1, .int a2] M m := by
  by_cases g : (0 ≤ a1 ∧ a1 < M 3 1)
  · by_cases g2 : (0 ≤ a2 ∧ a2 ≤ 3)
    · exact Aw.r (z := mX9_oven) (pcZ := 21) (e_oven) (fun _ _ => Nat.le_of_ble_eq_true rfl) lL_33 qX9_oven rfl (fun _ => rfl) dL_oven_5 dL_oven_8 dL_oven_9 dL_oven_10 (by decide) dL_oven_21 dL_oven_22 (by decide) rfl rfl (p_oven h ⟨g, g2⟩)
    · exact Aw.t (z := mX9_oven) [⟨0, 10, 13, 31⟩] ⟨0, 10, 17, 13⟩ [] rfl (e_oven) (fun _ _ => Nat.le_of_ble_eq_true rfl) lL_33 qX9_oven rfl (fun _ => rfl) dL_oven_5 (pass1 (by decide) hL_31) (by decide) (by decide) hL_13 eIA_c d_oven2 dL_oven_20 (by decide) rfl (by decide) (f_ovenW h g g2)
  · exact Aw.t (z := mX9_oven) [] ⟨0, 10, 13, 31⟩ [⟨0, 10, 17, 13⟩] rfl (e_oven) (fun _ _ => Nat.le_of_ble_eq_true rfl) lL_33 qX9_oven rfl (fun _ => rfl) dL_oven_5 pass0 (by decide) (by decide) hL_31 eNS_c d_oven1 dL_oven_16 (by decide) rfl (by decide) (f_ovenT h g)
theorem e_mooring {a1 a2 : Int32} : bw_E wL_mooring 5 [.int a1, .int a2] := by
  intro p l e R s m args below meth c H Q x o sl hx hb hl k
  refine lv_aload_n hx hb dL_mooring_0 rfl (lv_at hl 3 rfl) ?_
  refine lv_iconst (v := 0) hx hb dL_mooring_1 rfl ?_
  refine lv_aload_n hx hb dL_mooring_2 rfl (lv_at hl 0 rfl) ?_
  refine lv_iload_n hx hb dL_mooring_3 rfl (lv_at hl 1 rfl) ?_
  refine lv_iload_n hx hb dL_mooring_4 rfl (lv_at hl 2 rfl) ?_
  exact k
theorem d_mooring1 : bw_D wL_mooring 13 16 1 := by
  intro p l e R s m args below meth c H locs cells slots Q q sl lv hx hb hl k
  refine lv_astore hx hb dL_mooring_13 hl (by decide) rfl (fun sl' _ => ?_)
  exact lv_iconst (v := 1) hx hb dL_mooring_15 rfl (k sl')
theorem d_mooring2 : bw_D wL_mooring 17 20 2 := by
  intro p l e R s m args below meth c H locs cells slots Q q sl lv hx hb hl k
  refine lv_astore hx hb dL_mooring_17 hl (by decide) rfl (fun sl' _ => ?_)
  exact lv_iconst (v := 2) hx hb dL_mooring_19 rfl (k sl')
theorem aw_mooring {a1 a2 : Int32} (h : REL M m) : Aw wL_mooring mX10_mooring [.int a1, .int a2] M m := by
  by_cases g : (0 ≤ a1 ∧ a1 < M 3 3)
  · by_cases g2 : (0 ≤ a2 ∧ a2 ≤ 2)
    · exact Aw.r (z := mX9_mooring) (pcZ := 21) (e_mooring) (fun _ _ => Nat.le_of_ble_eq_true rfl) lL_36 qX9_mooring rfl (fun _ => rfl) dL_mooring_5 dL_mooring_8 dL_mooring_9 dL_mooring_10 (by decide) dL_mooring_21 dL_mooring_22 (by decide) rfl rfl (p_mooring h ⟨g, g2⟩)
    · exact Aw.t (z := mX9_mooring) [⟨0, 10, 13, 31⟩] ⟨0, 10, 17, 13⟩ [] rfl (e_mooring) (fun _ _ => Nat.le_of_ble_eq_true rfl) lL_36 qX9_mooring rfl (fun _ => rfl) dL_mooring_5 (pass1 (by decide) hL_31) (by decide) (by decide) hL_13 eIA_c d_mooring2 dL_mooring_20 (by decide) rfl (by decide) (f_mooringW h g g2)
  · exact Aw.t (z := mX9_mooring) [] ⟨0, 10, 13, 31⟩ [⟨0, 10, 17, 13⟩] rfl (e_mooring) (fun _ _ => Nat.le_of_ble_eq_true rfl) lL_36 qX9_mooring rfl (fun _ => rfl) dL_mooring_5 pass0 (by decide) (by decide) hL_31 eNS_c d_mooring1 dL_mooring_16 (by decide) rfl (by decide) (f_mooringT h g)
theorem e_reed {a1 a2 : Int32} : bw_E wL_reed 5 [.int a1, .int a2] := by
  intro p l e R s m args below meth c H Q x o sl hx hb hl k
  refine lv_aload_n hx hb dL_reed_0 rfl (lv_at hl 3 rfl) ?_
  refine lv_iconst (v := 0) hx hb dL_reed_1 rfl ?_
  refine lv_aload_n hx hb dL_reed_2 rfl (lv_at hl 0 rfl) ?_
  refine lv_iload_n hx hb dL_reed_3 rfl (lv_at hl 1 rfl) ?_
  refine lv_iload_n hx hb dL_reed_4 rfl (lv_at hl 2 rfl) ?_
  exact k
theorem d_reed1 : bw_D wL_reed 13 16 1 := by
  intro p l e R s m args below meth c H locs cells slots Q q sl lv hx hb hl k
  refine lv_astore hx hb dL_reed_13 hl (by decide) rfl (fun sl' _ => ?_)
  exact lv_iconst (v := 1) hx hb dL_reed_15 rfl (k sl')
theorem aw_reed {a1 a2 : Int32} (h : REL M m) : Aw wL_reed mX10_reed [.int a1, .int a2] M m := by
  by_cases g : (0 ≤ a1 ∧ a1 ≤ 30) ∧ (0 ≤ a2 ∧ a2 ≤ 30)
  · exact Aw.r (z := mX9_reed) (pcZ := 17) (e_reed) (fun _ _ => Nat.le_of_ble_eq_true rfl) lL_39 qX9_reed rfl (fun _ => rfl) dL_reed_5 dL_reed_8 dL_reed_9 dL_reed_10 (by decide) dL_reed_17 dL_reed_18 (by decide) rfl rfl (p_reed h g)
  · exact Aw.t (z := mX9_reed) [] ⟨0, 10, 13, 13⟩ [] rfl (e_reed) (fun _ _ => Nat.le_of_ble_eq_true rfl) lL_39 qX9_reed rfl (fun _ => rfl) dL_reed_5 pass0 (by decide) (by decide) hL_13 eIA_c d_reed1 dL_reed_16 (by decide) rfl (by decide) (f_reed h g)
theorem e_drift {a1 : Int32} : bw_E wL_drift 4 [.int a1] := by
  intro p l e R s m args below meth c H Q x o sl hx hb hl k
  refine lv_aload_n hx hb dL_drift_0 rfl (lv_at hl 2 rfl) ?_
  refine lv_iconst (v := 0) hx hb dL_drift_1 rfl ?_
  refine lv_aload_n hx hb dL_drift_2 rfl (lv_at hl 0 rfl) ?_
  refine lv_iload_n hx hb dL_drift_3 rfl (lv_at hl 1 rfl) ?_
  exact k
theorem d_drift1 : bw_D wL_drift 12 14 1 := by
  intro p l e R s m args below meth c H locs cells slots Q q sl lv hx hb hl k
  refine lv_astore_n hx hb dL_drift_12 rfl hl (by decide) rfl (fun sl' _ => ?_)
  exact lv_iconst (v := 1) hx hb dL_drift_13 rfl (k sl')
theorem aw_drift {a1 : Int32} (h : REL M m) : Aw wL_drift mX10_drift [.int a1] M m := by
  by_cases g : 0 ≤ a1 ∧ a1 ≤ 1
  · exact Aw.r (z := mX9_drift) (pcZ := 15) (e_drift) (fun _ _ => Nat.le_of_ble_eq_true rfl) lL_42 qX9_drift rfl (fun _ => rfl) dL_drift_4 dL_drift_7 dL_drift_8 dL_drift_9 (by decide) dL_drift_15 dL_drift_16 (by decide) rfl rfl (p_drift h g)
  · exact Aw.t (z := mX9_drift) [] ⟨0, 9, 12, 13⟩ [] rfl (e_drift) (fun _ _ => Nat.le_of_ble_eq_true rfl) lL_42 qX9_drift rfl (fun _ => rfl) dL_drift_4 pass0 (by decide) (by decide) hL_13 eIA_c d_drift1 dL_drift_14 (by decide) rfl (by decide) (f_drift h g)
theorem e_would {a1 a2 a3 a4 a5 a6 a7 : Int32} : bw_E wL_would 15 [.int a1, .int a2, .int a3, .int a4, .int a5, .int a6, .int a7] := by
  intro p l e R s m args below meth c H Q x o sl hx hb hl k
  refine lv_aload hx hb dL_would_0 (lv_at hl 8 rfl) ?_
  refine lv_iconst (v := 0) hx hb dL_would_2 rfl ?_
  refine lv_aload_n hx hb dL_would_3 rfl (lv_at hl 0 rfl) ?_
  refine lv_iload_n hx hb dL_would_4 rfl (lv_at hl 1 rfl) ?_
  refine lv_iload_n hx hb dL_would_5 rfl (lv_at hl 2 rfl) ?_
  refine lv_iload_n hx hb dL_would_6 rfl (lv_at hl 3 rfl) ?_
  refine lv_iload hx hb dL_would_7 (lv_at hl 4 rfl) ?_
  refine lv_iload hx hb dL_would_9 (lv_at hl 5 rfl) ?_
  refine lv_iload hx hb dL_would_11 (lv_at hl 6 rfl) ?_
  refine lv_iload hx hb dL_would_13 (lv_at hl 7 rfl) ?_
  exact k
theorem d_would1 : bw_D wL_would 23 26 1 := by
  intro p l e R s m args below meth c H locs cells slots Q q sl lv hx hb hl k
  refine lv_astore hx hb dL_would_23 hl (by decide) rfl (fun sl' _ => ?_)
  exact lv_iconst (v := 1) hx hb dL_would_25 rfl (k sl')
theorem aw_would {a1 a2 a3 a4 a5 a6 a7 : Int32} (h : REL M m) : Aw wL_would mX10_would [.int a1, .int a2, .int a3, .int a4, .int a5, .int a6, .int a7] M m := by
  by_cases g : (0 ≤ a1 ∧ a1 ≤ 72) ∧ (0 ≤ a2 ∧ a2 ≤ 99) ∧ (0 ≤ a3 ∧ a3 ≤ 8) ∧ (0 ≤ a4 ∧ a4 ≤ 72) ∧ (0 ≤ a5 ∧ a5 ≤ 99) ∧ (0 ≤ a6 ∧ a6 ≤ 3) ∧ (0 ≤ a7 ∧ a7 ≤ 900)
  · exact Aw.r (z := mX9_would) (pcZ := 27) (e_would) (fun _ _ => Nat.le_of_ble_eq_true rfl) lL_45 qX9_would rfl (fun _ => rfl) dL_would_15 dL_would_18 dL_would_19 dL_would_20 (by decide) dL_would_27 dL_would_28 (by decide) rfl rfl (p_would h g)
  · exact Aw.t (z := mX9_would) [] ⟨0, 20, 23, 13⟩ [] rfl (e_would) (fun _ _ => Nat.le_of_ble_eq_true rfl) lL_45 qX9_would rfl (fun _ => rfl) dL_would_15 pass0 (by decide) (by decide) hL_13 eIA_c d_would1 dL_would_26 (by decide) rfl (by decide) (f_would h g)
theorem e_ahead {a1 a2 : Int32} : bw_E wL_ahead 5 [.int a1, .int a2] := by
  intro p l e R s m args below meth c H Q x o sl hx hb hl k
  refine lv_aload_n hx hb dL_ahead_0 rfl (lv_at hl 3 rfl) ?_
  refine lv_iconst (v := 0) hx hb dL_ahead_1 rfl ?_
  refine lv_aload_n hx hb dL_ahead_2 rfl (lv_at hl 0 rfl) ?_
  refine lv_iload_n hx hb dL_ahead_3 rfl (lv_at hl 1 rfl) ?_
  refine lv_iload_n hx hb dL_ahead_4 rfl (lv_at hl 2 rfl) ?_
  exact k
theorem d_ahead1 : bw_D wL_ahead 13 16 1 := by
  intro p l e R s m args below meth c H locs cells slots Q q sl lv hx hb hl k
  refine lv_astore hx hb dL_ahead_13 hl (by decide) rfl (fun sl' _ => ?_)
  exact lv_iconst (v := 1) hx hb dL_ahead_15 rfl (k sl')
theorem aw_ahead {a1 a2 : Int32} (h : REL M m) : Aw wL_ahead mX10_ahead [.int a1, .int a2] M m := by
  by_cases g : (0 ≤ a1 ∧ a1 ≤ 99) ∧ (0 ≤ a2 ∧ a2 ≤ 3)
  · exact Aw.r (z := mX9_ahead) (pcZ := 17) (e_ahead) (fun _ _ => Nat.le_of_ble_eq_true rfl) lL_49 qX9_ahead rfl (fun _ => rfl) dL_ahead_5 dL_ahead_8 dL_ahead_9 dL_ahead_10 (by decide) dL_ahead_17 dL_ahead_18 (by decide) rfl rfl (p_ahead h g)
  · exact Aw.t (z := mX9_ahead) [] ⟨0, 10, 13, 13⟩ [] rfl (e_ahead) (fun _ _ => Nat.le_of_ble_eq_true rfl) lL_49 qX9_ahead rfl (fun _ => rfl) dL_ahead_5 pass0 (by decide) (by decide) hL_13 eIA_c d_ahead1 dL_ahead_16 (by decide) rfl (by decide) (f_ahead h g)
theorem e_pilot {a1 a2 : Int32} : bw_E wL_pilot 5 [.int a1, .int a2] := by
  intro p l e R s m args below meth c H Q x o sl hx hb hl k
  refine lv_aload_n hx hb dL_pilot_0 rfl (lv_at hl 3 rfl) ?_
  refine lv_iconst (v := 0) hx hb dL_pilot_1 rfl ?_
  refine lv_aload_n hx hb dL_pilot_2 rfl (lv_at hl 0 rfl) ?_
  refine lv_iload_n hx hb dL_pilot_3 rfl (lv_at hl 1 rfl) ?_
  refine lv_iload_n hx hb dL_pilot_4 rfl (lv_at hl 2 rfl) ?_
  exact k
theorem d_pilot1 : bw_D wL_pilot 13 16 1 := by
  intro p l e R s m args below meth c H locs cells slots Q q sl lv hx hb hl k
  refine lv_astore hx hb dL_pilot_13 hl (by decide) rfl (fun sl' _ => ?_)
  exact lv_iconst (v := 1) hx hb dL_pilot_15 rfl (k sl')
theorem d_pilot2 : bw_D wL_pilot 17 20 2 := by
  intro p l e R s m args below meth c H locs cells slots Q q sl lv hx hb hl k
  refine lv_astore hx hb dL_pilot_17 hl (by decide) rfl (fun sl' _ => ?_)
  exact lv_iconst (v := 2) hx hb dL_pilot_19 rfl (k sl')
theorem aw_pilot {a1 a2 : Int32} (h : REL M m) : Aw wL_pilot mX10_pilot [.int a1, .int a2] M m := by
  by_cases g : (0 ≤ a1 ∧ a1 < M 3 3)
  · by_cases g2 : (0 ≤ a2 ∧ a2 ≤ 12)
    · exact Aw.r (z := mX9_pilot) (pcZ := 21) (e_pilot) (fun _ _ => Nat.le_of_ble_eq_true rfl) lL_52 qX9_pilot rfl (fun _ => rfl) dL_pilot_5 dL_pilot_8 dL_pilot_9 dL_pilot_10 (by decide) dL_pilot_21 dL_pilot_22 (by decide) rfl rfl (p_pilot h ⟨g, g2⟩)
    · exact Aw.t (z := mX9_pilot) [⟨0, 10, 13, 31⟩] ⟨0, 10, 17, 13⟩ [] rfl (e_pilot) (fun _ _ => Nat.le_of_ble_eq_true rfl) lL_52 qX9_pilot rfl (fun _ => rfl) dL_pilot_5 (pass1 (by decide) hL_31) (by decide) (by decide) hL_13 eIA_c d_pilot2 dL_pilot_20 (by decide) rfl (by decide) (f_pilotW h g g2)
  · exact Aw.t (z := mX9_pilot) [] ⟨0, 10, 13, 31⟩ [⟨0, 10, 17, 13⟩] rfl (e_pilot) (fun _ _ => Nat.le_of_ble_eq_true rfl) lL_52 qX9_pilot rfl (fun _ => rfl) dL_pilot_5 pass0 (by decide) (by decide) hL_31 eNS_c d_pilot1 dL_pilot_16 (by decide) rfl (by decide) (f_pilotT h g)
theorem e_trim {a1 : Int32} : bw_E wL_trim 4 [.int a1] := by
  intro p l e R s m args below meth c H Q x o sl hx hb hl k
  refine lv_aload_n hx hb dL_trim_0 rfl (lv_at hl 2 rfl) ?_
  refine lv_iconst (v := 0) hx hb dL_trim_1 rfl ?_
  refine lv_aload_n hx hb dL_trim_2 rfl (lv_at hl 0 rfl) ?_
  refine lv_iload_n hx hb dL_trim_3 rfl (lv_at hl 1 rfl) ?_
  exact k
theorem d_trim1 : bw_D wL_trim 12 14 1 := by
  intro p l e R s m args below meth c H locs cells slots Q q sl lv hx hb hl k
  refine lv_astore_n hx hb dL_trim_12 rfl hl (by decide) rfl (fun sl' _ => ?_)
  exact lv_iconst (v := 1) hx hb dL_trim_13 rfl (k sl')
theorem aw_trim {a1 : Int32} (h : REL M m) : Aw wL_trim mX10_trim [.int a1] M m := by
  by_cases g : 0 ≤ a1 ∧ a1 < M 3 0
  · exact Aw.r (z := mX9_trim) (pcZ := 15) (e_trim) (fun _ _ => Nat.le_of_ble_eq_true rfl) lL_55 qX9_trim rfl (fun _ => rfl) dL_trim_4 dL_trim_7 dL_trim_8 dL_trim_9 (by decide) dL_trim_15 dL_trim_16 (by decide) rfl rfl (p_trim h g)
  · exact Aw.t (z := mX9_trim) [] ⟨0, 9, 12, 31⟩ [] rfl (e_trim) (fun _ _ => Nat.le_of_ble_eq_true rfl) lL_55 qX9_trim rfl (fun _ => rfl) dL_trim_4 pass0 (by decide) (by decide) hL_31 eNS_c d_trim1 dL_trim_14 (by decide) rfl (by decide) (f_trimT h g)
theorem e_steps {a1 : Int32} : bw_E wL_steps 4 [.int a1] := by
  intro p l e R s m args below meth c H Q x o sl hx hb hl k
  refine lv_aload_n hx hb dL_steps_0 rfl (lv_at hl 2 rfl) ?_
  refine lv_iconst (v := 0) hx hb dL_steps_1 rfl ?_
  refine lv_aload_n hx hb dL_steps_2 rfl (lv_at hl 0 rfl) ?_
  refine lv_iload_n hx hb dL_steps_3 rfl (lv_at hl 1 rfl) ?_
  exact k
theorem d_steps1 : bw_D wL_steps 12 14 1 := by
  intro p l e R s m args below meth c H locs cells slots Q q sl lv hx hb hl k
  refine lv_astore_n hx hb dL_steps_12 rfl hl (by decide) rfl (fun sl' _ => ?_)
  exact lv_iconst (v := 1) hx hb dL_steps_13 rfl (k sl')
theorem aw_steps {a1 : Int32} (h : REL M m) : Aw wL_steps mX10_steps [.int a1] M m := by
  by_cases g : 0 ≤ a1 ∧ a1 < M 3 3
  · exact Aw.r (z := mX9_steps) (pcZ := 15) (e_steps) (fun _ _ => Nat.le_of_ble_eq_true rfl) lL_58 qX9_steps rfl (fun _ => rfl) dL_steps_4 dL_steps_7 dL_steps_8 dL_steps_9 (by decide) dL_steps_15 dL_steps_16 (by decide) rfl rfl (p_steps h g)
  · exact Aw.t (z := mX9_steps) [] ⟨0, 9, 12, 31⟩ [] rfl (e_steps) (fun _ _ => Nat.le_of_ble_eq_true rfl) lL_58 qX9_steps rfl (fun _ => rfl) dL_steps_4 pass0 (by decide) (by decide) hL_31 eNS_c d_steps1 dL_steps_14 (by decide) rfl (by decide) (f_stepsT h g)
theorem e_fits {a1 : Int32} : bw_E wL_fits 4 [.int a1] := by
  intro p l e R s m args below meth c H Q x o sl hx hb hl k
  refine lv_aload_n hx hb dL_fits_0 rfl (lv_at hl 2 rfl) ?_
  refine lv_iconst (v := 0) hx hb dL_fits_1 rfl ?_
  refine lv_aload_n hx hb dL_fits_2 rfl (lv_at hl 0 rfl) ?_
  refine lv_iload_n hx hb dL_fits_3 rfl (lv_at hl 1 rfl) ?_
  exact k
theorem d_fits1 : bw_D wL_fits 12 14 1 := by
  intro p l e R s m args below meth c H locs cells slots Q q sl lv hx hb hl k
  refine lv_astore_n hx hb dL_fits_12 rfl hl (by decide) rfl (fun sl' _ => ?_)
  exact lv_iconst (v := 1) hx hb dL_fits_13 rfl (k sl')
theorem aw_fits {a1 : Int32} (h : REL M m) : Aw wL_fits mX10_fits [.int a1] M m := by
  by_cases g : 0 ≤ a1 ∧ a1 ≤ 2
  · exact Aw.r (z := mX9_fits) (pcZ := 15) (e_fits) (fun _ _ => Nat.le_of_ble_eq_true rfl) lL_61 qX9_fits rfl (fun _ => rfl) dL_fits_4 dL_fits_7 dL_fits_8 dL_fits_9 (by decide) dL_fits_15 dL_fits_16 (by decide) rfl rfl (p_fits h g)
  · exact Aw.t (z := mX9_fits) [] ⟨0, 9, 12, 13⟩ [] rfl (e_fits) (fun _ _ => Nat.le_of_ble_eq_true rfl) lL_61 qX9_fits rfl (fun _ => rfl) dL_fits_4 pass0 (by decide) (by decide) hL_13 eIA_c d_fits1 dL_fits_14 (by decide) rfl (by decide) (f_fits h g)
theorem e_look {a1 : Int32} : bw_E wL_look 4 [.int a1] := by
  intro p l e R s m args below meth c H Q x o sl hx hb hl k
  refine lv_aload_n hx hb dL_look_0 rfl (lv_at hl 2 rfl) ?_
  refine lv_iconst (v := 0) hx hb dL_look_1 rfl ?_
  refine lv_aload_n hx hb dL_look_2 rfl (lv_at hl 0 rfl) ?_
  refine lv_iload_n hx hb dL_look_3 rfl (lv_at hl 1 rfl) ?_
  exact k
theorem d_look1 : bw_D wL_look 12 14 1 := by
  intro p l e R s m args below meth c H locs cells slots Q q sl lv hx hb hl k
  refine lv_astore_n hx hb dL_look_12 rfl hl (by decide) rfl (fun sl' _ => ?_)
  exact lv_iconst (v := 1) hx hb dL_look_13 rfl (k sl')
theorem aw_look {a1 : Int32} (h : REL M m) : Aw wL_look mX10_look [.int a1] M m := by
  by_cases g : 0 ≤ a1 ∧ a1 ≤ 1
  · exact Aw.r (z := mX9_look) (pcZ := 15) (e_look) (fun _ _ => Nat.le_of_ble_eq_true rfl) lL_64 qX9_look rfl (fun _ => rfl) dL_look_4 dL_look_7 dL_look_8 dL_look_9 (by decide) dL_look_15 dL_look_16 (by decide) rfl rfl (p_look h g)
  · exact Aw.t (z := mX9_look) [] ⟨0, 9, 12, 13⟩ [] rfl (e_look) (fun _ _ => Nat.le_of_ble_eq_true rfl) lL_64 qX9_look rfl (fun _ => rfl) dL_look_4 pass0 (by decide) (by decide) hL_13 eIA_c d_look1 dL_look_14 (by decide) rfl (by decide) (f_look h g)
theorem e_gusts {a1 a2 a3 a4 : Int32} : bw_E wL_gusts 9 [.int a1, .int a2, .int a3, .int a4] := by
  intro p l e R s m args below meth c H Q x o sl hx hb hl k
  refine lv_aload hx hb dL_gusts_0 (lv_at hl 5 rfl) ?_
  refine lv_iconst (v := 0) hx hb dL_gusts_2 rfl ?_
  refine lv_aload_n hx hb dL_gusts_3 rfl (lv_at hl 0 rfl) ?_
  refine lv_iload_n hx hb dL_gusts_4 rfl (lv_at hl 1 rfl) ?_
  refine lv_iload_n hx hb dL_gusts_5 rfl (lv_at hl 2 rfl) ?_
  refine lv_iload_n hx hb dL_gusts_6 rfl (lv_at hl 3 rfl) ?_
  refine lv_iload hx hb dL_gusts_7 (lv_at hl 4 rfl) ?_
  exact k
theorem d_gusts1 : bw_D wL_gusts 16 19 1 := by
  intro p l e R s m args below meth c H locs cells slots Q q sl lv hx hb hl k
  refine lv_astore hx hb dL_gusts_16 hl (by decide) rfl (fun sl' _ => ?_)
  exact lv_iconst (v := 1) hx hb dL_gusts_18 rfl (k sl')
theorem aw_gusts {a1 a2 a3 a4 : Int32} (h : REL M m) : Aw wL_gusts mX10_gusts [.int a1, .int a2, .int a3, .int a4] M m := by
  by_cases g : (0 ≤ a1 ∧ a1 ≤ 12) ∧ (0 ≤ a2 ∧ a2 ≤ 12) ∧ (0 ≤ a3 ∧ a3 ≤ 16) ∧ (0 ≤ a4 ∧ a4 ≤ 1)
  · exact Aw.rl (z := mX9_gusts) (pcZ := 20) (e_gusts) (fun _ _ => Nat.le_of_ble_eq_true rfl) lL_67 qX9_gusts rfl (fun _ => rfl) dL_gusts_9 dL_gusts_12 dL_gusts_13 (by decide) dL_gusts_20 dL_gusts_21 (by decide) rfl rfl (p_gusts h g)
  · exact Aw.t (z := mX9_gusts) [] ⟨0, 13, 16, 13⟩ [] rfl (e_gusts) (fun _ _ => Nat.le_of_ble_eq_true rfl) lL_67 qX9_gusts rfl (fun _ => rfl) dL_gusts_9 pass0 (by decide) (by decide) hL_13 eIA_c d_gusts1 dL_gusts_19 (by decide) rfl (by decide) (f_gusts h g)
theorem e_bakers {a1 a2 a3 : Int32} : bw_E wL_bakers 7 [.int a1, .int a2, .int a3] := by
  intro p l e R s m args below meth c H Q x o sl hx hb hl k
  refine lv_aload hx hb dL_bakers_0 (lv_at hl 4 rfl) ?_
  refine lv_iconst (v := 0) hx hb dL_bakers_2 rfl ?_
  refine lv_aload_n hx hb dL_bakers_3 rfl (lv_at hl 0 rfl) ?_
  refine lv_iload_n hx hb dL_bakers_4 rfl (lv_at hl 1 rfl) ?_
  refine lv_iload_n hx hb dL_bakers_5 rfl (lv_at hl 2 rfl) ?_
  refine lv_iload_n hx hb dL_bakers_6 rfl (lv_at hl 3 rfl) ?_
  exact k
theorem d_bakers1 : bw_D wL_bakers 15 18 1 := by
  intro p l e R s m args below meth c H locs cells slots Q q sl lv hx hb hl k
  refine lv_astore hx hb dL_bakers_15 hl (by decide) rfl (fun sl' _ => ?_)
  exact lv_iconst (v := 1) hx hb dL_bakers_17 rfl (k sl')
theorem aw_bakers {a1 a2 a3 : Int32} (h : REL M m) : Aw wL_bakers mX10_bakers [.int a1, .int a2, .int a3] M m := by
  by_cases g : (0 ≤ a1 ∧ a1 ≤ 9) ∧ (0 ≤ a2 ∧ a2 ≤ 99) ∧ (0 ≤ a3 ∧ a3 ≤ 2)
  · exact Aw.r (z := mX9_bakers) (pcZ := 19) (e_bakers) (fun _ _ => Nat.le_of_ble_eq_true rfl) lL_71 qX9_bakers rfl (fun _ => rfl) dL_bakers_7 dL_bakers_10 dL_bakers_11 dL_bakers_12 (by decide) dL_bakers_19 dL_bakers_20 (by decide) rfl rfl (p_bakers h g)
  · exact Aw.t (z := mX9_bakers) [] ⟨0, 12, 15, 13⟩ [] rfl (e_bakers) (fun _ _ => Nat.le_of_ble_eq_true rfl) lL_71 qX9_bakers rfl (fun _ => rfl) dL_bakers_7 pass0 (by decide) (by decide) hL_13 eIA_c d_bakers1 dL_bakers_18 (by decide) rfl (by decide) (f_bakers h g)
theorem e_sacks {a1 a2 a3 : Int32} : bw_E wL_sacks 7 [.int a1, .int a2, .int a3] := by
  intro p l e R s m args below meth c H Q x o sl hx hb hl k
  refine lv_aload hx hb dL_sacks_0 (lv_at hl 4 rfl) ?_
  refine lv_iconst (v := 0) hx hb dL_sacks_2 rfl ?_
  refine lv_aload_n hx hb dL_sacks_3 rfl (lv_at hl 0 rfl) ?_
  refine lv_iload_n hx hb dL_sacks_4 rfl (lv_at hl 1 rfl) ?_
  refine lv_iload_n hx hb dL_sacks_5 rfl (lv_at hl 2 rfl) ?_
  refine lv_iload_n hx hb dL_sacks_6 rfl (lv_at hl 3 rfl) ?_
  exact k
theorem d_sacks1 : bw_D wL_sacks 15 18 1 := by
  intro p l e R s m args below meth c H locs cells slots Q q sl lv hx hb hl k
  refine lv_astore hx hb dL_sacks_15 hl (by decide) rfl (fun sl' _ => ?_)
  exact lv_iconst (v := 1) hx hb dL_sacks_17 rfl (k sl')
theorem d_sacks2 : bw_D wL_sacks 19 22 2 := by
  intro p l e R s m args below meth c H locs cells slots Q q sl lv hx hb hl k
  refine lv_astore hx hb dL_sacks_19 hl (by decide) rfl (fun sl' _ => ?_)
  exact lv_iconst (v := 2) hx hb dL_sacks_21 rfl (k sl')
theorem aw_sacks {a1 a2 a3 : Int32} (h : REL M m) : Aw wL_sacks mX10_sacks [.int a1, .int a2, .int a3] M m := by
  by_cases g : (0 ≤ a1 ∧ a1 < M 3 0)
  · by_cases g2 : (0 ≤ a2 ∧ a2 ≤ 1 <<< (M 3 0 &&& 31) - 1) ∧ (0 ≤ a3 ∧ a3 ≤ 999)
    · exact Aw.r (z := mX9_sacks) (pcZ := 23) (e_sacks) (fun _ _ => Nat.le_of_ble_eq_true rfl) lL_75 qX9_sacks rfl (fun _ => rfl) dL_sacks_7 dL_sacks_10 dL_sacks_11 dL_sacks_12 (by decide) dL_sacks_23 dL_sacks_24 (by decide) rfl rfl (p_sacks h ⟨g, g2⟩)
    · exact Aw.t (z := mX9_sacks) [⟨0, 12, 15, 31⟩] ⟨0, 12, 19, 13⟩ [] rfl (e_sacks) (fun _ _ => Nat.le_of_ble_eq_true rfl) lL_75 qX9_sacks rfl (fun _ => rfl) dL_sacks_7 (pass1 (by decide) hL_31) (by decide) (by decide) hL_13 eIA_c d_sacks2 dL_sacks_22 (by decide) rfl (by decide) (f_sacksW h g g2)
  · exact Aw.t (z := mX9_sacks) [] ⟨0, 12, 15, 31⟩ [⟨0, 12, 19, 13⟩] rfl (e_sacks) (fun _ _ => Nat.le_of_ble_eq_true rfl) lL_75 qX9_sacks rfl (fun _ => rfl) dL_sacks_7 pass0 (by decide) (by decide) hL_31 eNS_c d_sacks1 dL_sacks_18 (by decide) rfl (by decide) (f_sacksT h g)
theorem e_key {a1 : Int32} : bw_E wL_key 4 [.int a1] := by
  intro p l e R s m args below meth c H Q x o sl hx hb hl k
  refine lv_aload_n hx hb dL_key_0 rfl (lv_at hl 2 rfl) ?_
  refine lv_iconst (v := 0) hx hb dL_key_1 rfl ?_
  refine lv_aload_n hx hb dL_key_2 rfl (lv_at hl 0 rfl) ?_
  refine lv_iload_n hx hb dL_key_3 rfl (lv_at hl 1 rfl) ?_
  exact k
theorem d_key1 : bw_D wL_key 12 14 1 := by
  intro p l e R s m args below meth c H locs cells slots Q q sl lv hx hb hl k
  refine lv_astore_n hx hb dL_key_12 rfl hl (by decide) rfl (fun sl' _ => ?_)
  exact lv_iconst (v := 1) hx hb dL_key_13 rfl (k sl')
theorem aw_key {a1 : Int32} (h : REL M m) : Aw wL_key mX10_key [.int a1] M m := by
  by_cases g : 0 ≤ a1 ∧ a1 < M 3 0
  · exact Aw.r (z := mX9_key) (pcZ := 15) (e_key) (fun _ _ => Nat.le_of_ble_eq_true rfl) lL_78 qX9_key rfl (fun _ => rfl) dL_key_4 dL_key_7 dL_key_8 dL_key_9 (by decide) dL_key_15 dL_key_16 (by decide) rfl rfl (p_key h g)
  · exact Aw.t (z := mX9_key) [] ⟨0, 9, 12, 31⟩ [] rfl (e_key) (fun _ _ => Nat.le_of_ble_eq_true rfl) lL_78 qX9_key rfl (fun _ => rfl) dL_key_4 pass0 (by decide) (by decide) hL_31 eNS_c d_key1 dL_key_14 (by decide) rfl (by decide) (f_keyT h g)
theorem e_nearest {a1 : Int32} : bw_E wL_nearest 4 [.int a1] := by
  intro p l e R s m args below meth c H Q x o sl hx hb hl k
  refine lv_aload_n hx hb dL_nearest_0 rfl (lv_at hl 2 rfl) ?_
  refine lv_iconst (v := 0) hx hb dL_nearest_1 rfl ?_
  refine lv_aload_n hx hb dL_nearest_2 rfl (lv_at hl 0 rfl) ?_
  refine lv_iload_n hx hb dL_nearest_3 rfl (lv_at hl 1 rfl) ?_
  exact k
theorem d_nearest1 : bw_D wL_nearest 12 14 1 := by
  intro p l e R s m args below meth c H locs cells slots Q q sl lv hx hb hl k
  refine lv_astore_n hx hb dL_nearest_12 rfl hl (by decide) rfl (fun sl' _ => ?_)
  exact lv_iconst (v := 1) hx hb dL_nearest_13 rfl (k sl')
theorem aw_nearest {a1 : Int32} (h : REL M m) : Aw wL_nearest mX10_nearest [.int a1] M m := by
  by_cases g : 0 ≤ a1 ∧ a1 ≤ 1
  · exact Aw.r (z := mX9_nearest) (pcZ := 15) (e_nearest) (fun _ _ => Nat.le_of_ble_eq_true rfl) lL_81 qX9_nearest rfl (fun _ => rfl) dL_nearest_4 dL_nearest_7 dL_nearest_8 dL_nearest_9 (by decide) dL_nearest_15 dL_nearest_16 (by decide) rfl rfl (p_nearest h g)
  · exact Aw.t (z := mX9_nearest) [] ⟨0, 9, 12, 13⟩ [] rfl (e_nearest) (fun _ _ => Nat.le_of_ble_eq_true rfl) lL_81 qX9_nearest rfl (fun _ => rfl) dL_nearest_4 pass0 (by decide) (by decide) hL_13 eIA_c d_nearest1 dL_nearest_14 (by decide) rfl (by decide) (f_nearest h g)
theorem e_sweetest {a1 : Int32} : bw_E wL_sweetest 4 [.int a1] := by
  intro p l e R s m args below meth c H Q x o sl hx hb hl k
  refine lv_aload_n hx hb dL_sweetest_0 rfl (lv_at hl 2 rfl) ?_
  refine lv_iconst (v := 0) hx hb dL_sweetest_1 rfl ?_
  refine lv_aload_n hx hb dL_sweetest_2 rfl (lv_at hl 0 rfl) ?_
  refine lv_iload_n hx hb dL_sweetest_3 rfl (lv_at hl 1 rfl) ?_
  exact k
theorem d_sweetest1 : bw_D wL_sweetest 12 14 1 := by
  intro p l e R s m args below meth c H locs cells slots Q q sl lv hx hb hl k
  refine lv_astore_n hx hb dL_sweetest_12 rfl hl (by decide) rfl (fun sl' _ => ?_)
  exact lv_iconst (v := 1) hx hb dL_sweetest_13 rfl (k sl')
theorem aw_sweetest {a1 : Int32} (h : REL M m) : Aw wL_sweetest mX10_sweetest [.int a1] M m := by
  by_cases g : 0 ≤ a1 ∧ a1 ≤ 1
  · exact Aw.r (z := mX9_sweetest) (pcZ := 15) (e_sweetest) (fun _ _ => Nat.le_of_ble_eq_true rfl) lL_84 qX9_sweetest rfl (fun _ => rfl) dL_sweetest_4 dL_sweetest_7 dL_sweetest_8 dL_sweetest_9 (by decide) dL_sweetest_15 dL_sweetest_16 (by decide) rfl rfl (p_sweetest h g)
  · exact Aw.t (z := mX9_sweetest) [] ⟨0, 9, 12, 13⟩ [] rfl (e_sweetest) (fun _ _ => Nat.le_of_ble_eq_true rfl) lL_84 qX9_sweetest rfl (fun _ => rfl) dL_sweetest_4 pass0 (by decide) (by decide) hL_13 eIA_c d_sweetest1 dL_sweetest_14 (by decide) rfl (by decide) (f_sweetest h g)
theorem e_heaviest {a1 : Int32} : bw_E wL_heaviest 4 [.int a1] := by
  intro p l e R s m args below meth c H Q x o sl hx hb hl k
  refine lv_aload_n hx hb dL_heaviest_0 rfl (lv_at hl 2 rfl) ?_
  refine lv_iconst (v := 0) hx hb dL_heaviest_1 rfl ?_
  refine lv_aload_n hx hb dL_heaviest_2 rfl (lv_at hl 0 rfl) ?_
  refine lv_iload_n hx hb dL_heaviest_3 rfl (lv_at hl 1 rfl) ?_
  exact k
theorem d_heaviest1 : bw_D wL_heaviest 12 14 1 := by
  intro p l e R s m args below meth c H locs cells slots Q q sl lv hx hb hl k
  refine lv_astore_n hx hb dL_heaviest_12 rfl hl (by decide) rfl (fun sl' _ => ?_)
  exact lv_iconst (v := 1) hx hb dL_heaviest_13 rfl (k sl')
theorem aw_heaviest {a1 : Int32} (h : REL M m) : Aw wL_heaviest mX10_heaviest [.int a1] M m := by
  by_cases g : 0 ≤ a1 ∧ a1 ≤ 1
  · exact Aw.r (z := mX9_heaviest) (pcZ := 15) (e_heaviest) (fun _ _ => Nat.le_of_ble_eq_true rfl) lL_87 qX9_heaviest rfl (fun _ => rfl) dL_heaviest_4 dL_heaviest_7 dL_heaviest_8 dL_heaviest_9 (by decide) dL_heaviest_15 dL_heaviest_16 (by decide) rfl rfl (p_heaviest h g)
  · exact Aw.t (z := mX9_heaviest) [] ⟨0, 9, 12, 13⟩ [] rfl (e_heaviest) (fun _ _ => Nat.le_of_ble_eq_true rfl) lL_87 qX9_heaviest rfl (fun _ => rfl) dL_heaviest_4 pass0 (by decide) (by decide) hL_13 eIA_c d_heaviest1 dL_heaviest_14 (by decide) rfl (by decide) (f_heaviest h g)
theorem e_side {a1 : Int32} : bw_E wL_side 4 [.int a1] := by
  intro p l e R s m args below meth c H Q x o sl hx hb hl k
  refine lv_aload_n hx hb dL_side_0 rfl (lv_at hl 2 rfl) ?_
  refine lv_iconst (v := 0) hx hb dL_side_1 rfl ?_
  refine lv_aload_n hx hb dL_side_2 rfl (lv_at hl 0 rfl) ?_
  refine lv_iload_n hx hb dL_side_3 rfl (lv_at hl 1 rfl) ?_
  exact k
theorem d_side1 : bw_D wL_side 12 14 1 := by
  intro p l e R s m args below meth c H locs cells slots Q q sl lv hx hb hl k
  refine lv_astore_n hx hb dL_side_12 rfl hl (by decide) rfl (fun sl' _ => ?_)
  exact lv_iconst (v := 1) hx hb dL_side_13 rfl (k sl')
theorem aw_side {a1 : Int32} (h : REL M m) : Aw wL_side mX10_side [.int a1] M m := by
  by_cases g : 0 ≤ a1 ∧ a1 ≤ 3
  · exact Aw.r (z := mX9_side) (pcZ := 15) (e_side) (fun _ _ => Nat.le_of_ble_eq_true rfl) lL_90 qX9_side rfl (fun _ => rfl) dL_side_4 dL_side_7 dL_side_8 dL_side_9 (by decide) dL_side_15 dL_side_16 (by decide) rfl rfl (p_side h g)
  · exact Aw.t (z := mX9_side) [] ⟨0, 9, 12, 13⟩ [] rfl (e_side) (fun _ _ => Nat.le_of_ble_eq_true rfl) lL_90 qX9_side rfl (fun _ => rfl) dL_side_4 pass0 (by decide) (by decide) hL_13 eIA_c d_side1 dL_side_14 (by decide) rfl (by decide) (f_side h g)
theorem e_room {a1 : Int32} : bw_E wL_room 4 [.int a1] := by
  intro p l e R s m args below meth c H Q x o sl hx hb hl k
  refine lv_aload_n hx hb dL_room_0 rfl (lv_at hl 2 rfl) ?_
  refine lv_iconst (v := 0) hx hb dL_room_1 rfl ?_
  refine lv_aload_n hx hb dL_room_2 rfl (lv_at hl 0 rfl) ?_
  refine lv_iload_n hx hb dL_room_3 rfl (lv_at hl 1 rfl) ?_
  exact k
theorem d_room1 : bw_D wL_room 12 14 1 := by
  intro p l e R s m args below meth c H locs cells slots Q q sl lv hx hb hl k
  refine lv_astore_n hx hb dL_room_12 rfl hl (by decide) rfl (fun sl' _ => ?_)
  exact lv_iconst (v := 1) hx hb dL_room_13 rfl (k sl')
theorem aw_room {a1 : Int32} (h : REL M m) : Aw wL_room mX10_room [.int a1] M m := by
  by_cases g : 0 ≤ a1 ∧ a1 ≤ 3
  · exact Aw.r (z := mX9_room) (pcZ := 15) (e_room) (fun _ _ => Nat.le_of_ble_eq_true rfl) lL_93 qX9_room rfl (fun _ => rfl) dL_room_4 dL_room_7 dL_room_8 dL_room_9 (by decide) dL_room_15 dL_room_16 (by decide) rfl rfl (p_room h g)
  · exact Aw.t (z := mX9_room) [] ⟨0, 9, 12, 13⟩ [] rfl (e_room) (fun _ _ => Nat.le_of_ble_eq_true rfl) lL_93 qX9_room rfl (fun _ => rfl) dL_room_4 pass0 (by decide) (by decide) hL_13 eIA_c d_room1 dL_room_14 (by decide) rfl (by decide) (f_room h g)
theorem e_cool {a1 : Int32} : bw_E wL_cool 4 [.int a1] := by
  intro p l e R s m args below meth c H Q x o sl hx hb hl k
  refine lv_aload_n hx hb dL_cool_0 rfl (lv_at hl 2 rfl) ?_
  refine lv_iconst (v := 0) hx hb dL_cool_1 rfl ?_
  refine lv_aload_n hx hb dL_cool_2 rfl (lv_at hl 0 rfl) ?_
  refine lv_iload_n hx hb dL_cool_3 rfl (lv_at hl 1 rfl) ?_
  exact k
theorem d_cool1 : bw_D wL_cool 12 14 1 := by
  intro p l e R s m args below meth c H locs cells slots Q q sl lv hx hb hl k
  refine lv_astore_n hx hb dL_cool_12 rfl hl (by decide) rfl (fun sl' _ => ?_)
  exact lv_iconst (v := 1) hx hb dL_cool_13 rfl (k sl')
theorem aw_cool {a1 : Int32} (h : REL M m) : Aw wL_cool mX10_cool [.int a1] M m := by
  by_cases g : 0 ≤ a1 ∧ a1 ≤ 1
  · exact Aw.r (z := mX9_cool) (pcZ := 15) (e_cool) (fun _ _ => Nat.le_of_ble_eq_true rfl) lL_96 qX9_cool rfl (fun _ => rfl) dL_cool_4 dL_cool_7 dL_cool_8 dL_cool_9 (by decide) dL_cool_15 dL_cool_16 (by decide) rfl rfl (p_cool h g)
  · exact Aw.t (z := mX9_cool) [] ⟨0, 9, 12, 13⟩ [] rfl (e_cool) (fun _ _ => Nat.le_of_ble_eq_true rfl) lL_96 qX9_cool rfl (fun _ => rfl) dL_cool_4 pass0 (by decide) (by decide) hL_13 eIA_c d_cool1 dL_cool_14 (by decide) rfl (by decide) (f_cool h g)
theorem e_season {a1 a2 a3 a4 : Int32} : bw_E wL_season 9 [.int a1, .int a2, .int a3, .int a4] := by
  intro p l e R s m args below meth c H Q x o sl hx hb hl k
  refine lv_aload hx hb dL_season_0 (lv_at hl 5 rfl) ?_
  refine lv_iconst (v := 0) hx hb dL_season_2 rfl ?_
  refine lv_aload_n hx hb dL_season_3 rfl (lv_at hl 0 rfl) ?_
  refine lv_iload_n hx hb dL_season_4 rfl (lv_at hl 1 rfl) ?_
  refine lv_iload_n hx hb dL_season_5 rfl (lv_at hl 2 rfl) ?_
  refine lv_iload_n hx hb dL_season_6 rfl (lv_at hl 3 rfl) ?_
  refine lv_iload hx hb dL_season_7 (lv_at hl 4 rfl) ?_
  exact k
theorem d_season1 : bw_D wL_season 17 20 1 := by
  intro p l e R s m args below meth c H locs cells slots Q q sl lv hx hb hl k
  refine lv_astore hx hb dL_season_17 hl (by decide) rfl (fun sl' _ => ?_)
  exact lv_iconst (v := 1) hx hb dL_season_19 rfl (k sl')
theorem aw_season {a1 a2 a3 a4 : Int32} (h : REL M m) : Aw wL_season mX10_season [.int a1, .int a2, .int a3, .int a4] M m := by
  by_cases g : (0 ≤ a2 ∧ a2 ≤ 16) ∧ (1 ≤ a3 ∧ a3 ≤ 96) ∧ (0 ≤ a4 ∧ a4 ≤ 3)
  · exact Aw.r (z := mX9_season) (pcZ := 21) (e_season) (fun _ _ => Nat.le_of_ble_eq_true rfl) lL_99 qX9_season rfl (fun _ => rfl) dL_season_9 dL_season_12 dL_season_13 dL_season_14 (by decide) dL_season_21 dL_season_22 (by decide) rfl rfl (p_season h g)
  · exact Aw.t (z := mX9_season) [] ⟨0, 14, 17, 13⟩ [] rfl (e_season) (fun _ _ => Nat.le_of_ble_eq_true rfl) lL_99 qX9_season rfl (fun _ => rfl) dL_season_9 pass0 (by decide) (by decide) hL_13 eIA_c d_season1 dL_season_20 (by decide) rfl (by decide) (f_season h g)
theorem e_span {a1 a2 a3 a4 a5 : Int32} : bw_E wL_span 11 [.int a1, .int a2, .int a3, .int a4, .int a5] := by
  intro p l e R s m args below meth c H Q x o sl hx hb hl k
  refine lv_aload hx hb dL_span_0 (lv_at hl 6 rfl) ?_
  refine lv_iconst (v := 0) hx hb dL_span_2 rfl ?_
  refine lv_aload_n hx hb dL_span_3 rfl (lv_at hl 0 rfl) ?_
  refine lv_iload_n hx hb dL_span_4 rfl (lv_at hl 1 rfl) ?_
  refine lv_iload_n hx hb dL_span_5 rfl (lv_at hl 2 rfl) ?_
  refine lv_iload_n hx hb dL_span_6 rfl (lv_at hl 3 rfl) ?_
  refine lv_iload hx hb dL_span_7 (lv_at hl 4 rfl) ?_
  refine lv_iload hx hb dL_span_9 (lv_at hl 5 rfl) ?_
  exact k
theorem d_span1 : bw_D wL_span 19 22 1 := by
  intro p l e R s m args below meth c H locs cells slots Q q sl lv hx hb hl k
  refine lv_astore hx hb dL_span_19 hl (by decide) rfl (fun sl' _ => ?_)
  exact lv_iconst (v := 1) hx hb dL_span_21 rfl (k sl')
theorem aw_span {a1 a2 a3 a4 a5 : Int32} (h : REL M m) : Aw wL_span mX10_span [.int a1, .int a2, .int a3, .int a4, .int a5] M m := by
  by_cases g : (1 ≤ a2 ∧ a2 ≤ 20) ∧ (0 ≤ a3 ∧ a3 ≤ 16) ∧ (1 ≤ a4 ∧ a4 ≤ 96) ∧ (0 ≤ a5 ∧ a5 ≤ 2)
  · exact Aw.r (z := mX9_span) (pcZ := 23) (e_span) (fun _ _ => Nat.le_of_ble_eq_true rfl) lL_103 qX9_span rfl (fun _ => rfl) dL_span_11 dL_span_14 dL_span_15 dL_span_16 (by decide) dL_span_23 dL_span_24 (by decide) rfl rfl (p_span h g)
  · exact Aw.t (z := mX9_span) [] ⟨0, 16, 19, 13⟩ [] rfl (e_span) (fun _ _ => Nat.le_of_ble_eq_true rfl) lL_103 qX9_span rfl (fun _ => rfl) dL_span_11 pass0 (by decide) (by decide) hL_13 eIA_c d_span1 dL_span_22 (by decide) rfl (by decide) (f_span h g)
end T97
