/-! BreadCity$Plan does its steps -/
section RUN
variable {d : Nat} {μ μ0 ν : bc_M} {n no nq : Nat}
theorem row_ext {c : Nat} {A : Row} (h0 : ∀ k, k < 6 → μ c (k + 2) = A k) (h1 : ∀ o, o < 8 → μ (c + 1) o = A (o + 6)) (h2 : ∀ o, o < 8 → μ (c + 2) o = A (o + 14)) (h3 : ∀ o, o < 6 → μ (c + 3) o = A (o + 22)) (h4 : ∀ k, 28 ≤ k → A k = 0) : row c μ = A := by
  funext x
  by_cases x6 : x < 6
  · rw [row_v x6]; exact h0 x x6
  · by_cases x14 : x < 14
    · obtain ⟨o, rfl⟩ : ∃ o, x = o + 6 := ⟨x - 6, by omega⟩
      rw [row_hl (by omega)]; exact h1 o (by omega)
    · by_cases x22 : x < 22
      · obtain ⟨o, rfl⟩ : ∃ o, x = o + 14 := ⟨x - 14, by omega⟩
        rw [row_tl (by omega)]; exact h2 o (by omega)
      · by_cases x28 : x < 28
        · obtain ⟨o, rfl⟩ : ∃ o, x = o + 22 := ⟨x - 22, by omega⟩
          rw [row_on (by omega)]; exact h3 o (by omega)
        · rw [row_out (by omega), h4 x (by omega)]
theorem upd_ne {f : Nat → Int32} {k j : Nat} {v : Int32} (h : j ≠ k) : upd f k v j = f j := if_neg h
theorem upd_eq {f : Nat → Int32} {k : Nat} {v : Int32} : upd f k v k = v := if_pos rfl
theorem row_u0 {c k : Nat} {v : Int32} (h : k < 6) : row c (bc_u μ c (k + 2) v) = upd (row c μ) k v := by
  refine row_ext (fun x hx => ?_) (fun x hx => ?_) (fun x hx => ?_) (fun x hx => ?_) (fun x hx => ?_)
  · by_cases e : x = k
    · subst e; rw [bu1, upd_eq]
    · rw [bu2 (by omega), upd_ne e, row_v hx]
  · rw [bu2 (by omega), upd_ne (by omega), row_hl hx]
  · rw [bu2 (by omega), upd_ne (by omega), row_tl hx]
  · rw [bu2 (by omega), upd_ne (by omega), row_on hx]
  · rw [upd_ne (by omega), row_out hx]
theorem row_u1 {c k : Nat} {v : Int32} (h : k < 8) : row c (bc_u μ (c + 1) k v) = upd (row c μ) (k + 6) v := by
  refine row_ext (fun x hx => ?_) (fun x hx => ?_) (fun x hx => ?_) (fun x hx => ?_) (fun x hx => ?_)
  · rw [bu2 (by omega), upd_ne (by omega), row_v hx]
  · by_cases e : x = k
    · subst e; rw [bu1, upd_eq]
    · rw [bu2 (by omega), upd_ne (by omega), row_hl hx]
  · rw [bu2 (by omega), upd_ne (by omega), row_tl hx]
  · rw [bu2 (by omega), upd_ne (by omega), row_on hx]
  · rw [upd_ne (by omega), row_out hx]
theorem row_u2 {c k : Nat} {v : Int32} (h : k < 8) : row c (bc_u μ (c + 2) k v) = upd (row c μ) (k + 14) v := by
  refine row_ext (fun x hx => ?_) (fun x hx => ?_) (fun x hx => ?_) (fun x hx => ?_) (fun x hx => ?_)
  · rw [bu2 (by omega), upd_ne (by omega), row_v hx]
  · rw [bu2 (by omega), upd_ne (by omega), row_hl hx]
  · by_cases e : x = k
    · subst e; rw [bu1, upd_eq]
    · rw [bu2 (by omega), upd_ne (by omega), row_tl hx]
  · rw [bu2 (by omega), upd_ne (by omega), row_on hx]
  · rw [upd_ne (by omega), row_out hx]
theorem row_u3 {c k : Nat} {v : Int32} (h : k < 6) : row c (bc_u μ (c + 3) k v) = upd (row c μ) (k + 22) v := by
  refine row_ext (fun x hx => ?_) (fun x hx => ?_) (fun x hx => ?_) (fun x hx => ?_) (fun x hx => ?_)
  · rw [bu2 (by omega), upd_ne (by omega), row_v hx]
  · rw [bu2 (by omega), upd_ne (by omega), row_hl hx]
  · rw [bu2 (by omega), upd_ne (by omega), row_tl hx]
  · by_cases e : x = k
    · subst e; rw [bu1, upd_eq]
    · rw [bu2 (by omega), upd_ne (by omega), row_on hx]
  · rw [upd_ne (by omega), row_out hx]
theorem row_same {c : Nat} (h : ∀ i j, c ≤ i → i ≤ c + 3 → (i = c → 2 ≤ j ∧ j ≤ 7) → ν i j = μ i j) : row c ν = row c μ := by
  refine row_ext (fun x hx => ?_) (fun x hx => ?_) (fun x hx => ?_) (fun x hx => ?_) (fun x hx => ?_)
  · rw [row_v hx]; exact h _ _ (by omega) (by omega) (by omega)
  · rw [row_hl hx]; exact h _ _ (by omega) (by omega) (by omega)
  · rw [row_tl hx]; exact h _ _ (by omega) (by omega) (by omega)
  · rw [row_on hx]; exact h _ _ (by omega) (by omega) (by omega)
  · exact row_out hx
theorem row_lt {c o : Nat} (h : o < 8) : row c (ltM μ c o) = upd (upd (upd (row c μ) (o + 6) 4) (o + 14) (row c μ (o + 14) + 1)) 3 (row c μ 3 - 1) := by
  unfold ltM
  rw [row_u0 (c := c) (k := 3) (by omega), row_u2 h, row_u1 h, row_tl h, row_v (by omega)]
def rR (μ0 : bc_M) (s : RSt) (μ : bc_M) : Prop := (∀ i j, ¬ scr 31 i j → ¬ (i = 31 ∧ 2 ≤ j ∧ j ≤ 7) → i ≠ 32 → i ≠ 33 → i ≠ 34 → ¬ (i = 24 ∧ (j = 4 ∨ j = 5 ∨ j = 6)) → μ i j = μ0 i j) ∧ μ 24 4 = nI s.1 ∧ μ 24 5 = nI s.2.1 ∧ μ 24 6 = nI s.2.2.1 ∧ row 31 μ = s.2.2.2
theorem rR.env {s : RSt} (h : rR μ0 s μ) : envE μ0 μ := ⟨fun i j a b => h.1 i j (by unfold scr; omega) (by omega) (by omega) (by omega) (by omega) (by omega), h.1 19 1 (by unfold scr; omega) (by omega) (by omega) (by omega) (by omega) (by omega), fun j => h.1 20 j (by unfold scr; omega) (by omega) (by omega) (by omega) (by omega) (by omega)⟩
theorem rR.pl {s : RSt} (h : rR μ0 s μ) {l : List PE} (hl : plR μ0 l) : plR μ l := by
  refine ⟨by rw [h.1 24 3 (by unfold scr; omega) (by omega) (by omega) (by omega) (by omega) (by omega)]; exact hl.1, fun i z hz => ?_⟩
  rw [h.1 25 i (by unfold scr; omega) (by omega) (by omega) (by omega) (by omega) (by omega), h.1 26 i (by unfold scr; omega) (by omega) (by omega) (by omega) (by omega) (by omega), h.1 27 i (by unfold scr; omega) (by omega) (by omega) (by omega) (by omega) (by omega)]
  exact hl.2 i z hz
/-- nothing but the city 31 has changed -/
def ctS (μ ν : bc_M) : Prop := ∀ i j, ¬ scr 31 i j → ¬ (i = 31 ∧ 2 ≤ j ∧ j ≤ 7) → i ≠ 32 → i ≠ 33 → i ≠ 34 → ν i j = μ i j
theorem rR.ct {s : RSt} (h : rR μ0 s μ) (hc : ctS μ ν) {A : Row} (hA : row 31 ν = A) : rR μ0 (s.1, s.2.1, s.2.2.1, A) ν := by
  refine ⟨fun i j a b c e f g => (hc i j a b c e f).trans (h.1 i j a b c e f g), ?_, ?_, ?_, hA⟩
  · rw [hc 24 4 (by unfold scr; omega) (by omega) (by omega) (by omega) (by omega)]; exact h.2.1
  · rw [hc 24 5 (by unfold scr; omega) (by omega) (by omega) (by omega) (by omega)]; exact h.2.2.1
  · rw [hc 24 6 (by unfold scr; omega) (by omega) (by omega) (by omega) (by omega)]; exact h.2.2.2.1
theorem s_isDone {s : RSt} {l : List PE} {p : Nat} {z : PE} (hB : okB μ0 n no nq) (hl : plR μ0 l) (hz : l[p]? = some z) (hp : p < 150) (hE : okE no nq z) (h : rR μ0 s μ) : bc_C (d + 6) LC mX5_isDone [.ref 24, .ref 31, .int (nI p)] μ (fun r ν => r = some (.int (if (actR μ0 n no nq z s.2.2.2).1 = true then 1 else 0)) ∧ rR μ0 (s.1, s.2.1, s.2.2.1, (actR μ0 n no nq z s.2.2.2).2) ν) := by
  obtain ⟨k1, k2, k3, k4, k5⟩ := hE
  obtain ⟨g1, g2, g3⟩ := (h.pl hl).2 p z hz
  have hno : no ≤ 8 := hB.1.2.1
  have hnq : nq ≤ 6 := hB.2.1.2.1
  have hrow : row 31 μ = s.2.2.2 := h.2.2.2.2
  have e26 : en μ 26 150 (nI p) = nI z.2.1 := by rw [en_N hp (by decide)]; exact g2
  have e25 : en μ 25 150 (nI p) = nI z.1 := by rw [en_N hp (by decide)]; exact g1
  have e27 : en μ 27 150 (nI p) = nI z.2.2 := by rw [en_N hp (by decide)]; exact g3
  have hself : rR μ0 (s.1, s.2.1, s.2.2.1, s.2.2.2) μ := h
  obtain ⟨zk, za, zb⟩ := z
  simp only at k1 k2 k3 k4 k5 e25 e26 e27
  refine bc_enter (by decide) (Nat.le_of_ble_eq_true rfl) rfl ?_
  have hcs : zk = 0 ∨ zk = 1 ∨ zk = 2 ∨ zk = 3 ∨ zk = 4 := by omega
  rcases hcs with rfl | rfl | rfl | rfl | rfl
  · have ha : za < 8 := by have := k2 (by omega); omega
    have hact : actR μ0 n no nq (0, za, zb) s.2.2.2 = (if 0 < s.2.2.2 (za + 6) ∨ ¬ 0 < s.2.2.2 3 then (false, s.2.2.2) else (true, upd (upd (upd s.2.2.2 (za + 6) 4) (za + 14) (s.2.2.2 (za + 14) + 1)) 3 (s.2.2.2 3 - 1))) := rfl
    have r6 : s.2.2.2 (za + 6) = μ 32 za := by rw [← hrow]; exact row_hl ha
    have r3 : s.2.2.2 3 = μ 31 5 := by rw [← hrow]; exact row_v (by omega)
    refine bc_aload_n dX5_isDone_0 rfl ?_
    refine bc_getr dX5_isDone_1 fX5_15 (rfl) rfl ?_
    refine bc_iload_n dX5_isDone_4 rfl ?_
    refine bc_callSN (z := mX9_entry) dX5_isDone_5 lX5_90 qX9_entry (by rfl) (by rfl) (Nat.le_of_ble_eq_true rfl) (s_entry (n := 150) rfl (by decide) _) (fun r5 μ5 e5 => ?_)
    obtain ⟨rfl, q5⟩ := e5
    obtain rfl := q5.symm
    rw [e26]
    refine bc_istore_n dX5_isDone_8 (by decide) rfl ?_
    refine bc_aload_n dX5_isDone_9 rfl ?_
    refine bc_getr dX5_isDone_10 fX5_9 (rfl) rfl ?_
    refine bc_iload_n dX5_isDone_13 rfl ?_
    refine bc_callSN (z := mX9_entry) dX5_isDone_14 lX5_90 qX9_entry (by rfl) (by rfl) (Nat.le_of_ble_eq_true rfl) (s_entry (n := 150) rfl (by decide) _) (fun r14 μ14 e14 => ?_)
    obtain ⟨rfl, q14⟩ := e14
    obtain rfl := q14.symm
    rw [e25]
    refine bc_tableIn (off := 31) (tgt := 48) dX5_isDone_17 (by decide) (by decide) (by decide) (by decide) ?_
    refine bc_aload_n dX5_isDone_48 rfl ?_
    refine bc_iload_n dX5_isDone_49 rfl ?_
    refine bc_callV (z := mX1_lightOven) (ci := 1) dX5_isDone_50 lX5_102 qX1_lightOven (by rfl) (by rfl) (by rfl) (by rfl) (Nat.le_of_ble_eq_true rfl) (s_lightOven (.inl rfl) ha) (fun r50 μ50 e50 => ?_)
    obtain e50 := e50
    rcases e50 with ⟨c1, rfl, rfl⟩ | ⟨c1, c2, rfl, rfl⟩
    · refine bc_ireturn dX5_isDone_53 rfl rfl ?_
      have hA := hact.trans (if_pos (by rw [r6, r3]; exact c1))
      rw [hA]
      exact ⟨rfl, hself⟩
    · refine bc_ireturn dX5_isDone_53 rfl rfl ?_
      have hA := hact.trans (if_neg (by rw [r6, r3]; exact fun x => x.elim c1 (fun y => y c2)))
      rw [hA]
      refine ⟨rfl, h.ct (fun i j a b c e f => ?_) ?_⟩
      · unfold ltM
        rw [bu2 (by omega), bu2 (by omega), bu2 (by omega)]
      · rw [row_lt ha, hrow]
  · have ha : za < 8 := by have := k2 (by omega); omega
    have hact : actR μ0 n no nq (1, za, zb) s.2.2.2 = (if 0 < s.2.2.2 (za + 6) then (true, upd s.2.2.2 (za + 6) 0) else (false, s.2.2.2)) := rfl
    have r6 : s.2.2.2 (za + 6) = μ 32 za := by rw [← hrow]; exact row_hl ha
    refine bc_aload_n dX5_isDone_0 rfl ?_
    refine bc_getr dX5_isDone_1 fX5_15 (rfl) rfl ?_
    refine bc_iload_n dX5_isDone_4 rfl ?_
    refine bc_callSN (z := mX9_entry) dX5_isDone_5 lX5_90 qX9_entry (by rfl) (by rfl) (Nat.le_of_ble_eq_true rfl) (s_entry (n := 150) rfl (by decide) _) (fun r5 μ5 e5 => ?_)
    obtain ⟨rfl, q5⟩ := e5
    obtain rfl := q5.symm
    rw [e26]
    refine bc_istore_n dX5_isDone_8 (by decide) rfl ?_
    refine bc_aload_n dX5_isDone_9 rfl ?_
    refine bc_getr dX5_isDone_10 fX5_9 (rfl) rfl ?_
    refine bc_iload_n dX5_isDone_13 rfl ?_
    refine bc_callSN (z := mX9_entry) dX5_isDone_14 lX5_90 qX9_entry (by rfl) (by rfl) (Nat.le_of_ble_eq_true rfl) (s_entry (n := 150) rfl (by decide) _) (fun r14 μ14 e14 => ?_)
    obtain ⟨rfl, q14⟩ := e14
    obtain rfl := q14.symm
    rw [e25]
    refine bc_tableIn (off := 37) (tgt := 54) dX5_isDone_17 (by decide) (by decide) (by decide) (by decide) ?_
    refine bc_aload_n dX5_isDone_54 rfl ?_
    refine bc_iload_n dX5_isDone_55 rfl ?_
    refine bc_callV (z := mX1_quenchOven) (ci := 1) dX5_isDone_56 lX5_108 qX1_quenchOven (by rfl) (by rfl) (by rfl) (by rfl) (Nat.le_of_ble_eq_true rfl) (s_quenchOven (.inl rfl) ha) (fun r56 μ56 e56 => ?_)
    obtain e56 := e56
    rcases e56 with ⟨c1, rfl, rfl⟩ | ⟨c1, rfl, rfl⟩
    · refine bc_ireturn dX5_isDone_59 rfl rfl ?_
      have hA := hact.trans (if_neg (by rw [r6]; exact c1))
      rw [hA]
      exact ⟨rfl, hself⟩
    · refine bc_ireturn dX5_isDone_59 rfl rfl ?_
      have hA := hact.trans (if_pos (by rw [r6]; exact c1))
      rw [hA]
      refine ⟨rfl, h.ct (fun i j a b c e f => ?_) ?_⟩
      · rw [bu2 (by omega)]
      · rw [row_u1 ha, hrow]
  · have ha : za < 6 := by have := k3 (by omega); omega
    have hact : actR μ0 n no nq (2, za, zb) s.2.2.2 = (if s.2.2.2 (za + 22) = nI zb then (false, s.2.2.2) else (true, upd s.2.2.2 (za + 22) (nI zb))) := rfl
    have r6 : s.2.2.2 (za + 22) = μ 34 za := by rw [← hrow]; exact row_on ha
    refine bc_aload_n dX5_isDone_0 rfl ?_
    refine bc_getr dX5_isDone_1 fX5_15 (rfl) rfl ?_
    refine bc_iload_n dX5_isDone_4 rfl ?_
    refine bc_callSN (z := mX9_entry) dX5_isDone_5 lX5_90 qX9_entry (by rfl) (by rfl) (Nat.le_of_ble_eq_true rfl) (s_entry (n := 150) rfl (by decide) _) (fun r5 μ5 e5 => ?_)
    obtain ⟨rfl, q5⟩ := e5
    obtain rfl := q5.symm
    rw [e26]
    refine bc_istore_n dX5_isDone_8 (by decide) rfl ?_
    refine bc_aload_n dX5_isDone_9 rfl ?_
    refine bc_getr dX5_isDone_10 fX5_9 (rfl) rfl ?_
    refine bc_iload_n dX5_isDone_13 rfl ?_
    refine bc_callSN (z := mX9_entry) dX5_isDone_14 lX5_90 qX9_entry (by rfl) (by rfl) (Nat.le_of_ble_eq_true rfl) (s_entry (n := 150) rfl (by decide) _) (fun r14 μ14 e14 => ?_)
    obtain ⟨rfl, q14⟩ := e14
    obtain rfl := q14.symm
    rw [e25]
    refine bc_tableIn (off := 43) (tgt := 60) dX5_isDone_17 (by decide) (by decide) (by decide) (by decide) ?_
    refine bc_aload_n dX5_isDone_60 rfl ?_
    refine bc_iload_n dX5_isDone_61 rfl ?_
    refine bc_aload_n dX5_isDone_62 rfl ?_
    refine bc_getr dX5_isDone_63 fX5_18 (rfl) rfl ?_
    refine bc_iload_n dX5_isDone_66 rfl ?_
    refine bc_callSN (z := mX9_entry) dX5_isDone_67 lX5_90 qX9_entry (by rfl) (by rfl) (Nat.le_of_ble_eq_true rfl) (s_entry (n := 150) rfl (by decide) _) (fun r67 μ67 e67 => ?_)
    obtain ⟨rfl, q67⟩ := e67
    obtain rfl := q67.symm
    rw [e27]
    refine bc_callV (z := mX1_layOnions) (ci := 1) dX5_isDone_70 lX5_111 qX1_layOnions (by rfl) (by rfl) (by rfl) (by rfl) (Nat.le_of_ble_eq_true rfl) (s_layOnions (d := d + 3) (.inl rfl) ha _) (fun r70 μ70 e70 => ?_)
    obtain e70 := e70
    rcases e70 with ⟨c1, rfl, rfl⟩ | ⟨c1, rfl, rfl⟩
    · refine bc_ireturn dX5_isDone_73 rfl rfl ?_
      have hA := hact.trans (if_pos (by rw [r6]; exact c1))
      rw [hA]
      exact ⟨rfl, hself⟩
    · refine bc_ireturn dX5_isDone_73 rfl rfl ?_
      have hA := hact.trans (if_neg (by rw [r6]; exact c1))
      rw [hA]
      refine ⟨rfl, h.ct (fun i j a b c e f => ?_) ?_⟩
      · rw [bu2 (by omega)]
      · rw [row_u3 ha, hrow]
  · have ha : za < 6 := by have := k3 (by omega); omega
    have hact : actR μ0 n no nq (3, za, zb) s.2.2.2 = (true, upd s.2.2.2 5 (s.2.2.2 5 ^^^ 1 <<< (nI za &&& 31))) := rfl
    have r6 : s.2.2.2 5 = μ 31 7 := by rw [← hrow]; exact row_v (by omega)
    refine bc_aload_n dX5_isDone_0 rfl ?_
    refine bc_getr dX5_isDone_1 fX5_15 (rfl) rfl ?_
    refine bc_iload_n dX5_isDone_4 rfl ?_
    refine bc_callSN (z := mX9_entry) dX5_isDone_5 lX5_90 qX9_entry (by rfl) (by rfl) (Nat.le_of_ble_eq_true rfl) (s_entry (n := 150) rfl (by decide) _) (fun r5 μ5 e5 => ?_)
    obtain ⟨rfl, q5⟩ := e5
    obtain rfl := q5.symm
    rw [e26]
    refine bc_istore_n dX5_isDone_8 (by decide) rfl ?_
    refine bc_aload_n dX5_isDone_9 rfl ?_
    refine bc_getr dX5_isDone_10 fX5_9 (rfl) rfl ?_
    refine bc_iload_n dX5_isDone_13 rfl ?_
    refine bc_callSN (z := mX9_entry) dX5_isDone_14 lX5_90 qX9_entry (by rfl) (by rfl) (Nat.le_of_ble_eq_true rfl) (s_entry (n := 150) rfl (by decide) _) (fun r14 μ14 e14 => ?_)
    obtain ⟨rfl, q14⟩ := e14
    obtain rfl := q14.symm
    rw [e25]
    refine bc_tableIn (off := 57) (tgt := 74) dX5_isDone_17 (by decide) (by decide) (by decide) (by decide) ?_
    refine bc_aload_n dX5_isDone_74 rfl ?_
    refine bc_iload_n dX5_isDone_75 rfl ?_
    refine bc_callV (z := mX1_turnCold) (ci := 1) dX5_isDone_76 lX5_115 qX1_turnCold (by rfl) (by rfl) (by rfl) (by rfl) (Nat.le_of_ble_eq_true rfl) (s_turnCold (.inl rfl) _) (fun r76 μ76 e76 => ?_)
    obtain ⟨rfl, q76⟩ := e76
    obtain rfl := q76.symm
    refine bc_iconst (v := 1) dX5_isDone_79 (by decide) ?_
    exact bc_ireturn dX5_isDone_80 rfl rfl (by
rw [hact]
refine ⟨rfl, h.ct (fun i j a b c e f => ?_) ?_⟩
· rw [bu2 (by omega)]
· rw [row_u0 (c := 31) (k := 5) (by omega), hrow, r6])
  · have hact : actR μ0 n no nq (4, za, zb) s.2.2.2 = (if 900 ≤ s.2.2.2 2 then (false, s.2.2.2) else (true, hourR μ0 n no nq s.2.2.2)) := rfl
    have r2 : s.2.2.2 2 = μ 31 4 := by rw [← hrow]; exact row_v (by omega)
    refine bc_aload_n dX5_isDone_0 rfl ?_
    refine bc_getr dX5_isDone_1 fX5_15 (rfl) rfl ?_
    refine bc_iload_n dX5_isDone_4 rfl ?_
    refine bc_callSN (z := mX9_entry) dX5_isDone_5 lX5_90 qX9_entry (by rfl) (by rfl) (Nat.le_of_ble_eq_true rfl) (s_entry (n := 150) rfl (by decide) _) (fun r5 μ5 e5 => ?_)
    obtain ⟨rfl, q5⟩ := e5
    obtain rfl := q5.symm
    rw [e26]
    refine bc_istore_n dX5_isDone_8 (by decide) rfl ?_
    refine bc_aload_n dX5_isDone_9 rfl ?_
    refine bc_getr dX5_isDone_10 fX5_9 (rfl) rfl ?_
    refine bc_iload_n dX5_isDone_13 rfl ?_
    refine bc_callSN (z := mX9_entry) dX5_isDone_14 lX5_90 qX9_entry (by rfl) (by rfl) (Nat.le_of_ble_eq_true rfl) (s_entry (n := 150) rfl (by decide) _) (fun r14 μ14 e14 => ?_)
    obtain ⟨rfl, q14⟩ := e14
    obtain rfl := q14.symm
    rw [e25]
    refine bc_tableOut (tgt := 81) dX5_isDone_17 (by decide) (by decide) ?_
    refine bc_aload_n dX5_isDone_81 rfl ?_
    refine bc_geti dX5_isDone_82 fX5_119 (rfl) rfl ?_
    refine bc_sipush (v := 900) dX5_isDone_85 (by decide) ?_
    refine bc_icmp_lt (tgt := 93) dX5_isDone_88 (by decide) (fun h88 => ?_) (fun h88 => ?_)
    · refine bc_aload_n dX5_isDone_93 rfl ?_
      refine bc_callV (z := mX1_passHour) (ci := 1) dX5_isDone_94 lX5_122 qX1_passHour (by rfl) (by rfl) (by rfl) (by rfl) (Nat.le_of_ble_eq_true rfl) (s_passHour (d := d) (.inl rfl) (okB_env h.env hB)) (fun r94 μ94 e94 => ?_)
      obtain ⟨rfl, e94⟩ := e94
      refine bc_iconst (v := 1) dX5_isDone_97 (by decide) ?_
      exact bc_ireturn dX5_isDone_98 rfl rfl (by
have hA := hact.trans (if_neg (by rw [r2]; exact Int32.not_le.mpr h88))
rw [hA]
refine ⟨rfl, h.ct (fun i j a b c e f => ?_) ?_⟩
· exact e94.1 i j a (by omega) c
· rw [hr_row (.inl rfl) h.env hB e94, hrow])
    · refine bc_iconst (v := 0) dX5_isDone_91 (by decide) ?_
      exact bc_ireturn dX5_isDone_92 rfl rfl (by
have hA := hact.trans (if_pos (by rw [r2]; exact bn_nlt h88))
rw [hA]
exact ⟨rfl, hself⟩)
end RUN
