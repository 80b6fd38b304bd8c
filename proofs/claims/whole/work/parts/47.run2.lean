/-! BreadCity$Plan.run -/
section RUN
variable {d : Nat} {μ μ0 ν : bc_M} {n no nq : Nat}
theorem rR.b1 {s : RSt} (h : rR μ0 s μ) : rR μ0 (s.1 + 1, s.2) (bc_u μ 24 4 (nI (s.1 + 1))) := by
  refine ⟨fun i j a b c e f g => by rw [bu2 (by omega)]; exact h.1 i j a b c e f g, bu1, ?_, ?_, ?_⟩
  · rw [bu2 (by omega)]; exact h.2.2.1
  · rw [bu2 (by omega)]; exact h.2.2.2.1
  · rw [row_same (μ := μ) (fun i j a b _ => bu2 (by omega))]; exact h.2.2.2.2
theorem rR.dn {s : RSt} (h : rR μ0 s μ) {x y : Nat} : rR μ0 (s.1, s.2.1 + x, s.2.2.1 + y, s.2.2.2) (bc_u (bc_u μ 24 5 (nI (s.2.1 + x))) 24 6 (nI (s.2.2.1 + y))) := by
  refine ⟨fun i j a b c e f g => by rw [bu2 (by omega), bu2 (by omega)]; exact h.1 i j a b c e f g, ?_, ?_, bu1, ?_⟩
  · rw [bu2 (by omega), bu2 (by omega)]; exact h.2.1
  · rw [bu2 (by omega), bu1]
  · rw [row_same (μ := μ) (fun i j a b _ => by rw [bu2 (by omega), bu2 (by omega)])]; exact h.2.2.2.2
theorem s_runW {l : List PE} (hB : okB μ0 n no nq) (hl : plR μ0 l) (hl150 : l.length ≤ 150) : ∀ (m D dep p q i : Nat) (s : RSt) (μ : bc_M) (v2 v7 v8 v9 : Value), D = d + dep + 7 → dep ≤ 6 → BlkX no nq l dep p q → q ≤ l.length → rR μ0 s μ → s.1 ≤ 200 → 201 ≤ m + s.1 → i + (q - p) ≤ 150 → v2.category = 1 → v7.category = 1 → v8.category = 1 → v9.category = 1 → bc_W D LC mX5_run 6 [.ref 24, .ref 31, v2, .int (nI q), .int (nI (6 - dep)), .int (nI p), .int (nI i), v7, v8, v9] [] μ (fun r ν => r = none ∧ rR μ0 (runP l (actR μ0 n no nq) m p q s) ν) := by
  intro m
  induction m with
  | zero => intro D dep p q i s μ v2 v7 v8 v9 hD h6 hb hq h hs hf; omega
  | succ m ih =>
    intro D dep p q i s μ v2 v7 v8 v9 hD h6 hb hq h hs hf hi c2 c7 c8 c9
    have hC : ∀ (D' dep' p q : Nat) (s : RSt) (μ : bc_M), D' = d + dep' + 7 → dep' ≤ 6 → BlkX no nq l dep' p q → q ≤ l.length → rR μ0 s μ → s.1 ≤ 200 → 201 ≤ m + s.1 → bc_C D' LC mX5_run [.ref 24, .ref 31, .int (nI p), .int (nI q), .int (nI (6 - dep'))] μ (fun r ν => r = none ∧ rR μ0 (runP l (actR μ0 n no nq) m p q s) ν) := by
      intro D' dep' p q s μ hD' h6' hb' hq' h' hs' hf'
      refine bc_enter (by decide) (Nat.le_of_ble_eq_true rfl) rfl ?_
      refine bc_iload_n dX5_run_0 rfl ?_
      refine bc_istore dX5_run_1 (by decide) rfl ?_
      refine bc_iconst (v := 0) dX5_run_3 (by decide) ?_
      refine bc_istore dX5_run_4 (by decide) rfl ?_
      exact ih D' dep' p q 0 s μ _ _ _ _ hD' h6' hb' hq' h' hs' hf' (by omega) rfl rfl rfl rfl
    obtain ⟨E, rfl⟩ : ∃ E, D = E + 7 := ⟨d + dep, hD⟩
    have hE : E = d + dep := by omega
    rcases BlkX_cs hb with e | ⟨hpq, z, hz, hc⟩
    · subst e
      have hr : runP l (actR μ0 n no nq) (m + 1) p p s = s := by simp only [runP]; rw [if_neg (by omega)]
      rw [hr]
      refine bc_iload dX5_run_6 rfl ?_
      refine bc_sipush (v := 150) dX5_run_8 (by decide) ?_
      refine bc_icmp_ge (tgt := 183) dX5_run_11 (by decide) (fun h11 => ?_) (fun h11 => ?_)
      · exact bc_return dX5_run_183 rfl (⟨rfl, h⟩)
      · refine bc_iload dX5_run_14 rfl ?_
        refine bc_iload_n dX5_run_16 rfl ?_
        refine bc_icmp_ge (tgt := 183) dX5_run_17 (by decide) (fun h17 => ?_) (fun h17 => absurd h17 (fun x => x (Int32.le_refl _)))
        exact bc_return dX5_run_183 rfl (⟨rfl, h⟩)
    · by_cases h200 : s.1 < 200
      · have hp150 : p < 150 := by omega
        obtain ⟨g1, g2, g3⟩ := (h.b1.pl hl).2 p z hz
        have e25 : en (bc_u μ 24 4 (nI (s.1 + 1))) 25 150 (nI p) = nI z.1 := by rw [en_N hp150 (by decide)]; exact g1
        have e26 : en (bc_u μ 24 4 (nI (s.1 + 1))) 26 150 (nI p) = nI z.2.1 := by rw [en_N hp150 (by decide)]; exact g2
        have e27 : en (bc_u μ 24 4 (nI (s.1 + 1))) 27 150 (nI p) = nI z.2.2 := by rw [en_N hp150 (by decide)]; exact g3
        have hb1 := h.2.1
        rcases hc with ⟨ho, hb2⟩ | ⟨hz5, hz30, dep', hdep, hb2, hb3, hb4, hb5⟩
        · have hn5 : ¬ z.1 = 5 := by have := ho.1; omega
          have hr : runP l (actR μ0 n no nq) (m + 1) p q s = runP l (actR μ0 n no nq) m (p + 1) q (rstep (actR μ0 n no nq) z s) := by
            simp only [runP]; rw [if_pos ⟨hpq, h200⟩, hz]; simp only; rw [if_neg hn5]
          rw [hr]
          have fin : ∀ (ν : bc_M) (x y : Nat) (v7 v8 v9 : Value), rR μ0 (s.1 + 1, s.2.1, s.2.2.1, (actR μ0 n no nq z s.2.2.2).2) ν → v7.category = 1 → v8.category = 1 → v9.category = 1 → x = (if (actR μ0 n no nq z s.2.2.2).1 = true then 1 else 0) → y = (if (actR μ0 n no nq z s.2.2.2).1 = true then 0 else 1) → bc_W (E + 7) LC mX5_run 6 [.ref 24, .ref 31, v2, .int (nI q), .int (nI (6 - dep)), .int (nI (p + 1)), .int (nI (i + 1)), v7, v8, v9] [] (bc_u (bc_u ν 24 5 (nI (s.2.1 + x))) 24 6 (nI (s.2.2.1 + y))) (fun r ν => r = none ∧ rR μ0 (runP l (actR μ0 n no nq) m (p + 1) q (rstep (actR μ0 n no nq) z s)) ν) := by
            intro ν x y v7 v8 v9 hν c7 c8 c9 hx hy
            subst hx
            subst hy
            exact ih (E + 7) dep (p + 1) q (i + 1) (rstep (actR μ0 n no nq) z s) _ _ _ _ _ hD h6 hb2 hq hν.dn (by show s.1 + 1 ≤ 200; omega) (by show 201 ≤ m + (s.1 + 1); omega) (by omega) c2 c7 c8 c9
          by_cases ha : (actR μ0 n no nq z s.2.2.2).1 = true
          · skip
            refine bc_iload dX5_run_6 rfl ?_
            refine bc_sipush (v := 150) dX5_run_8 (by decide) ?_
            refine bc_icmp_ge (tgt := 183) dX5_run_11 (by decide) (fun h11 => absurd h11 (by rw [show (150 : Int32) = nI 150 from rfl, bn_leN (by omega) (by omega)]; omega)) (fun h11 => ?_)
            refine bc_iload dX5_run_14 rfl ?_
            refine bc_iload_n dX5_run_16 rfl ?_
            refine bc_icmp_ge (tgt := 183) dX5_run_17 (by decide) (fun h17 => absurd h17 (by rw [bn_leN (by omega) (by omega)]; omega)) (fun h17 => ?_)
            refine bc_aload_n dX5_run_20 rfl ?_
            refine bc_geti dX5_run_21 fX5_81 (rfl) rfl ?_
            refine bc_sipush (v := 200) dX5_run_24 (by decide) ?_
            refine bc_icmp_ge (tgt := 183) dX5_run_27 (by decide) (fun h27 => absurd h27 (by rw [hb1, show (200 : Int32) = nI 200 from rfl, bn_leN (by omega) (by omega)]; omega)) (fun h27 => ?_)
            refine bc_aload_n dX5_run_30 rfl ?_
            refine bc_dup dX5_run_31 rfl ?_
            refine bc_geti dX5_run_32 fX5_81 (rfl) rfl ?_
            refine bc_iconst (v := 1) dX5_run_35 (by decide) ?_
            refine bc_iadd dX5_run_36 ?_
            refine bc_put dX5_run_37 fX5_81 ftX5 fpX5_4 rfl rfl (rfl) rfl ?_
            rw [hb1, bn_add1]
            refine bc_aload_n dX5_run_40 rfl ?_
            refine bc_getr dX5_run_41 fX5_9 (rfl) rfl ?_
            refine bc_iload dX5_run_44 rfl ?_
            refine bc_callSN (z := mX9_entry) dX5_run_46 lX5_90 qX9_entry (by rfl) (by rfl) (Nat.le_of_ble_eq_true rfl) (s_entry (n := 150) rfl (by decide) _) (fun r46 μ46 e46 => ?_)
            obtain ⟨rfl, q46⟩ := e46
            obtain rfl := q46.symm
            rw [e25]
            refine bc_iconst (v := 5) dX5_run_49 (by decide) ?_
            refine bc_icmp_ne (tgt := 127) dX5_run_50 (by decide) (fun h50 => ?_) (fun h50 => absurd h50 (by rw [show (5 : Int32) = nI 5 from rfl, bn_eqN (by have := ho.1; omega) (by omega)]; exact hn5))
            refine bc_aload_n dX5_run_127 rfl ?_
            refine bc_aload_n dX5_run_128 rfl ?_
            refine bc_iload dX5_run_129 rfl ?_
            refine bc_callV (z := mX5_isDone) (ci := 5) dX5_run_131 lX5_98 qX5_isDone (by rfl) (by rfl) (by rfl) (by rfl) (Nat.le_of_ble_eq_true rfl) (s_isDone (d := E) hB hl hz hp150 ho h.b1) (fun r131 μ131 e131 => ?_)
            obtain ⟨rfl, h131⟩ := e131
            rw [if_pos ha]
            refine bc_istore dX5_run_134 (by decide) rfl ?_
            refine bc_aload_n dX5_run_136 rfl ?_
            refine bc_dup dX5_run_137 rfl ?_
            refine bc_geti dX5_run_138 fX5_84 (rfl) rfl ?_
            refine bc_iload dX5_run_141 rfl ?_
            refine bc_if_eq (tgt := 150) dX5_run_143 (by decide) (fun h143 => absurd h143 (by decide)) (fun h143 => ?_)
            refine bc_iconst (v := 1) dX5_run_146 (by decide) ?_
            refine bc_goto (tgt := 151) dX5_run_147 (by decide) ?_
            refine bc_iadd dX5_run_151 ?_
            refine bc_put dX5_run_152 fX5_84 ftX5 fpX5_5 rfl rfl (rfl) rfl ?_
            refine bc_aload_n dX5_run_155 rfl ?_
            refine bc_dup dX5_run_156 rfl ?_
            refine bc_geti dX5_run_157 fX5_87 (rfl) rfl ?_
            refine bc_iload dX5_run_160 rfl ?_
            refine bc_if_eq (tgt := 169) dX5_run_162 (by decide) (fun h162 => absurd h162 (by decide)) (fun h162 => ?_)
            refine bc_iconst (v := 0) dX5_run_165 (by decide) ?_
            refine bc_goto (tgt := 170) dX5_run_166 (by decide) ?_
            refine bc_iadd dX5_run_170 ?_
            refine bc_put dX5_run_171 fX5_87 ftX5 fpX5_6 rfl rfl (rfl) rfl ?_
            refine bc_iinc1 dX5_run_174 rfl (by decide) rfl ?_
            refine bc_iinc1 dX5_run_177 rfl (by decide) rfl ?_
            refine bc_goto (tgt := 6) dX5_run_180 (by decide) ?_
            rw [bu2 (by omega), h131.2.2.1, h131.2.2.2.1, bn_add1, show (0 : Int32) = nI 0 from rfl, bn_add, bn_add1, bn_add1]
            exact fin _ 1 0 _ _ _ h131 rfl c8 c9 (by rw [if_pos ha]) (by rw [if_pos ha])
          · skip
            refine bc_iload dX5_run_6 rfl ?_
            refine bc_sipush (v := 150) dX5_run_8 (by decide) ?_
            refine bc_icmp_ge (tgt := 183) dX5_run_11 (by decide) (fun h11 => absurd h11 (by rw [show (150 : Int32) = nI 150 from rfl, bn_leN (by omega) (by omega)]; omega)) (fun h11 => ?_)
            refine bc_iload dX5_run_14 rfl ?_
            refine bc_iload_n dX5_run_16 rfl ?_
            refine bc_icmp_ge (tgt := 183) dX5_run_17 (by decide) (fun h17 => absurd h17 (by rw [bn_leN (by omega) (by omega)]; omega)) (fun h17 => ?_)
            refine bc_aload_n dX5_run_20 rfl ?_
            refine bc_geti dX5_run_21 fX5_81 (rfl) rfl ?_
            refine bc_sipush (v := 200) dX5_run_24 (by decide) ?_
            refine bc_icmp_ge (tgt := 183) dX5_run_27 (by decide) (fun h27 => absurd h27 (by rw [hb1, show (200 : Int32) = nI 200 from rfl, bn_leN (by omega) (by omega)]; omega)) (fun h27 => ?_)
            refine bc_aload_n dX5_run_30 rfl ?_
            refine bc_dup dX5_run_31 rfl ?_
            refine bc_geti dX5_run_32 fX5_81 (rfl) rfl ?_
            refine bc_iconst (v := 1) dX5_run_35 (by decide) ?_
            refine bc_iadd dX5_run_36 ?_
            refine bc_put dX5_run_37 fX5_81 ftX5 fpX5_4 rfl rfl (rfl) rfl ?_
            rw [hb1, bn_add1]
            refine bc_aload_n dX5_run_40 rfl ?_
            refine bc_getr dX5_run_41 fX5_9 (rfl) rfl ?_
            refine bc_iload dX5_run_44 rfl ?_
            refine bc_callSN (z := mX9_entry) dX5_run_46 lX5_90 qX9_entry (by rfl) (by rfl) (Nat.le_of_ble_eq_true rfl) (s_entry (n := 150) rfl (by decide) _) (fun r46 μ46 e46 => ?_)
            obtain ⟨rfl, q46⟩ := e46
            obtain rfl := q46.symm
            rw [e25]
            refine bc_iconst (v := 5) dX5_run_49 (by decide) ?_
            refine bc_icmp_ne (tgt := 127) dX5_run_50 (by decide) (fun h50 => ?_) (fun h50 => absurd h50 (by rw [show (5 : Int32) = nI 5 from rfl, bn_eqN (by have := ho.1; omega) (by omega)]; exact hn5))
            refine bc_aload_n dX5_run_127 rfl ?_
            refine bc_aload_n dX5_run_128 rfl ?_
            refine bc_iload dX5_run_129 rfl ?_
            refine bc_callV (z := mX5_isDone) (ci := 5) dX5_run_131 lX5_98 qX5_isDone (by rfl) (by rfl) (by rfl) (by rfl) (Nat.le_of_ble_eq_true rfl) (s_isDone (d := E) hB hl hz hp150 ho h.b1) (fun r131 μ131 e131 => ?_)
            obtain ⟨rfl, h131⟩ := e131
            rw [if_neg ha]
            refine bc_istore dX5_run_134 (by decide) rfl ?_
            refine bc_aload_n dX5_run_136 rfl ?_
            refine bc_dup dX5_run_137 rfl ?_
            refine bc_geti dX5_run_138 fX5_84 (rfl) rfl ?_
            refine bc_iload dX5_run_141 rfl ?_
            refine bc_if_eq (tgt := 150) dX5_run_143 (by decide) (fun h143 => ?_) (fun h143 => absurd h143 (fun x => x rfl))
            refine bc_iconst (v := 0) dX5_run_150 (by decide) ?_
            refine bc_iadd dX5_run_151 ?_
            refine bc_put dX5_run_152 fX5_84 ftX5 fpX5_5 rfl rfl (rfl) rfl ?_
            refine bc_aload_n dX5_run_155 rfl ?_
            refine bc_dup dX5_run_156 rfl ?_
            refine bc_geti dX5_run_157 fX5_87 (rfl) rfl ?_
            refine bc_iload dX5_run_160 rfl ?_
            refine bc_if_eq (tgt := 169) dX5_run_162 (by decide) (fun h162 => ?_) (fun h162 => absurd h162 (fun x => x rfl))
            refine bc_iconst (v := 1) dX5_run_169 (by decide) ?_
            refine bc_iadd dX5_run_170 ?_
            refine bc_put dX5_run_171 fX5_87 ftX5 fpX5_6 rfl rfl (rfl) rfl ?_
            refine bc_iinc1 dX5_run_174 rfl (by decide) rfl ?_
            refine bc_iinc1 dX5_run_177 rfl (by decide) rfl ?_
            refine bc_goto (tgt := 6) dX5_run_180 (by decide) ?_
            rw [bu2 (by omega), h131.2.2.1, h131.2.2.2.1, bn_add1, show (0 : Int32) = nI 0 from rfl, bn_add, bn_add1, bn_add1]
            exact fin _ 0 1 _ _ _ h131 rfl c8 c9 (by rw [if_neg ha]) (by rw [if_neg ha])
        · have hr : runP l (actR μ0 n no nq) (m + 1) p q s = runP l (actR μ0 n no nq) m z.2.2 q (iterR (runP l (actR μ0 n no nq) m (p + 1) z.2.2) z.2.1 (s.1 + 1, s.2)) := by
            simp only [runP]; rw [if_pos ⟨hpq, h200⟩, hz]; simp only; rw [if_pos hz5]
          rw [hr]
          have hit : ∀ k, (iterR (runP l (actR μ0 n no nq) m (p + 1) z.2.2) k (s.1 + 1, s.2)).1 ≤ 200 ∧ s.1 + 1 ≤ (iterR (runP l (actR μ0 n no nq) m (p + 1) z.2.2) k (s.1 + 1, s.2)).1 := by
            intro k
            refine ⟨?_, iterR_mono (runP_mono m (p + 1) z.2.2) k (s.1 + 1, s.2)⟩
            induction k with
            | zero => show s.1 + 1 ≤ 200; omega
            | succ k ik => exact runP_le m (p + 1) z.2.2 _ ik
          have inner : ∀ (r k : Nat) (μ : bc_M), k + r = z.2.1 → rR μ0 (iterR (runP l (actR μ0 n no nq) m (p + 1) z.2.2) k (s.1 + 1, s.2)) μ → bc_W (E + 7) LC mX5_run 78 [.ref 24, .ref 31, v2, .int (nI q), .int (nI (6 - dep)), .int (nI p), .int (nI i), .int (nI z.2.2), .int (nI z.2.1), .int (nI k)] [] μ (fun r ν => r = none ∧ rR μ0 (runP l (actR μ0 n no nq) m z.2.2 q (iterR (runP l (actR μ0 n no nq) m (p + 1) z.2.2) z.2.1 (s.1 + 1, s.2))) ν) := by
            intro r
            induction r with
            | zero =>
              intro k μ hk hR
              have hk : k = z.2.1 := by omega
              subst hk
              obtain ⟨x1, x2⟩ := hit z.2.1
              refine bc_iload dX5_run_78 rfl ?_
              refine bc_iload dX5_run_80 rfl ?_
              refine bc_icmp_ge (tgt := 120) dX5_run_82 (by decide) (fun h82 => ?_) (fun h82 => absurd h82 (fun x => x (Int32.le_refl _)))
              refine bc_iload dX5_run_120 rfl ?_
              refine bc_istore dX5_run_122 (by decide) rfl ?_
              refine bc_goto (tgt := 177) dX5_run_124 (by decide) ?_
              refine bc_iinc1 dX5_run_177 rfl (by decide) rfl ?_
              refine bc_goto (tgt := 6) dX5_run_180 (by decide) ?_
              rw [bn_add1]
              exact ih (E + 7) dep z.2.2 q (i + 1) _ _ _ _ _ _ hD h6 hb5 hq hR x1 (by omega) (by omega) c2 rfl rfl rfl
            | succ r ir =>
              intro k μ hk hR
              obtain ⟨x1, x2⟩ := hit k
              refine bc_iload dX5_run_78 rfl ?_
              refine bc_iload dX5_run_80 rfl ?_
              refine bc_icmp_ge (tgt := 120) dX5_run_82 (by decide) (fun h82 => absurd h82 (by rw [bn_leN (by omega) (by omega)]; omega)) (fun h82 => ?_)
              refine bc_iload dX5_run_85 rfl ?_
              refine bc_bipush (v := 30) dX5_run_87 (by decide) ?_
              refine bc_icmp_ge (tgt := 120) dX5_run_89 (by decide) (fun h89 => absurd h89 (by rw [show (30 : Int32) = nI 30 from rfl, bn_leN (by omega) (by omega)]; omega)) (fun h89 => ?_)
              refine bc_iload dX5_run_92 rfl ?_
              refine bc_bipush (v := 6) dX5_run_94 (by decide) ?_
              refine bc_icmp_ge (tgt := 120) dX5_run_96 (by decide) (fun h96 => absurd h96 (by rw [show (6 : Int32) = nI 6 from rfl, bn_leN (by omega) (by omega)]; omega)) (fun h96 => ?_)
              refine bc_aload_n dX5_run_99 rfl ?_
              refine bc_aload_n dX5_run_100 rfl ?_
              refine bc_iload dX5_run_101 rfl ?_
              refine bc_iconst (v := 1) dX5_run_103 (by decide) ?_
              refine bc_iadd dX5_run_104 ?_
              refine bc_iload dX5_run_105 rfl ?_
              refine bc_iload dX5_run_107 rfl ?_
              refine bc_iconst (v := 1) dX5_run_109 (by decide) ?_
              refine bc_iadd dX5_run_110 ?_
              rw [bn_add1, bn_add1, show 6 - dep + 1 = 6 - dep' by omega]
              refine bc_callV (z := mX5_run) (ci := 5) dX5_run_111 lX5_94 qX5_run (by rfl) (by rfl) (by rfl) (by rfl) (Nat.le_of_ble_eq_true rfl) (hC (E + 6) dep' (p + 1) z.2.2 _ _ (by omega) (by omega) hb2 (by omega) hR x1 (by omega)) (fun r111 μ111 e111 => ?_)
              obtain ⟨rfl, h111⟩ := e111
              refine bc_iinc1 dX5_run_114 rfl (by decide) rfl ?_
              refine bc_goto (tgt := 78) dX5_run_117 (by decide) ?_
              rw [bn_add1]
              exact ir (k + 1) _ (by omega) h111
          refine bc_iload dX5_run_6 rfl ?_
          refine bc_sipush (v := 150) dX5_run_8 (by decide) ?_
          refine bc_icmp_ge (tgt := 183) dX5_run_11 (by decide) (fun h11 => absurd h11 (by rw [show (150 : Int32) = nI 150 from rfl, bn_leN (by omega) (by omega)]; omega)) (fun h11 => ?_)
          refine bc_iload dX5_run_14 rfl ?_
          refine bc_iload_n dX5_run_16 rfl ?_
          refine bc_icmp_ge (tgt := 183) dX5_run_17 (by decide) (fun h17 => absurd h17 (by rw [bn_leN (by omega) (by omega)]; omega)) (fun h17 => ?_)
          refine bc_aload_n dX5_run_20 rfl ?_
          refine bc_geti dX5_run_21 fX5_81 (rfl) rfl ?_
          refine bc_sipush (v := 200) dX5_run_24 (by decide) ?_
          refine bc_icmp_ge (tgt := 183) dX5_run_27 (by decide) (fun h27 => absurd h27 (by rw [hb1, show (200 : Int32) = nI 200 from rfl, bn_leN (by omega) (by omega)]; omega)) (fun h27 => ?_)
          refine bc_aload_n dX5_run_30 rfl ?_
          refine bc_dup dX5_run_31 rfl ?_
          refine bc_geti dX5_run_32 fX5_81 (rfl) rfl ?_
          refine bc_iconst (v := 1) dX5_run_35 (by decide) ?_
          refine bc_iadd dX5_run_36 ?_
          refine bc_put dX5_run_37 fX5_81 ftX5 fpX5_4 rfl rfl (rfl) rfl ?_
          rw [hb1, bn_add1]
          refine bc_aload_n dX5_run_40 rfl ?_
          refine bc_getr dX5_run_41 fX5_9 (rfl) rfl ?_
          refine bc_iload dX5_run_44 rfl ?_
          refine bc_callSN (z := mX9_entry) dX5_run_46 lX5_90 qX9_entry (by rfl) (by rfl) (Nat.le_of_ble_eq_true rfl) (s_entry (n := 150) rfl (by decide) _) (fun r46 μ46 e46 => ?_)
          obtain ⟨rfl, q46⟩ := e46
          obtain rfl := q46.symm
          rw [e25, hz5]
          refine bc_iconst (v := 5) dX5_run_49 (by decide) ?_
          refine bc_icmp_ne (tgt := 127) dX5_run_50 (by decide) (fun h50 => absurd h50 (fun x => x rfl)) (fun h50 => ?_)
          refine bc_aload_n dX5_run_53 rfl ?_
          refine bc_getr dX5_run_54 fX5_18 (rfl) rfl ?_
          refine bc_iload dX5_run_57 rfl ?_
          refine bc_callSN (z := mX9_entry) dX5_run_59 lX5_90 qX9_entry (by rfl) (by rfl) (Nat.le_of_ble_eq_true rfl) (s_entry (n := 150) rfl (by decide) _) (fun r59 μ59 e59 => ?_)
          obtain ⟨rfl, q59⟩ := e59
          obtain rfl := q59.symm
          rw [e27]
          refine bc_istore dX5_run_62 (by decide) rfl ?_
          refine bc_aload_n dX5_run_64 rfl ?_
          refine bc_getr dX5_run_65 fX5_15 (rfl) rfl ?_
          refine bc_iload dX5_run_68 rfl ?_
          refine bc_callSN (z := mX9_entry) dX5_run_70 lX5_90 qX9_entry (by rfl) (by rfl) (Nat.le_of_ble_eq_true rfl) (s_entry (n := 150) rfl (by decide) _) (fun r70 μ70 e70 => ?_)
          obtain ⟨rfl, q70⟩ := e70
          obtain rfl := q70.symm
          rw [e26]
          refine bc_istore dX5_run_73 (by decide) rfl ?_
          refine bc_iconst (v := 0) dX5_run_75 (by decide) ?_
          refine bc_istore dX5_run_76 (by decide) rfl ?_
          exact inner z.2.1 0 _ (by omega) h.b1
      · have hr : runP l (actR μ0 n no nq) (m + 1) p q s = s := by simp only [runP]; rw [if_neg (fun x => h200 x.2)]
        rw [hr]
        refine bc_iload dX5_run_6 rfl ?_
        refine bc_sipush (v := 150) dX5_run_8 (by decide) ?_
        refine bc_icmp_ge (tgt := 183) dX5_run_11 (by decide) (fun h11 => absurd h11 (by rw [show (150 : Int32) = nI 150 from rfl, bn_leN (by omega) (by omega)]; omega)) (fun h11 => ?_)
        refine bc_iload dX5_run_14 rfl ?_
        refine bc_iload_n dX5_run_16 rfl ?_
        refine bc_icmp_ge (tgt := 183) dX5_run_17 (by decide) (fun h17 => absurd h17 (by rw [bn_leN (by omega) (by omega)]; omega)) (fun h17 => ?_)
        refine bc_aload_n dX5_run_20 rfl ?_
        refine bc_geti dX5_run_21 fX5_81 (rfl) rfl ?_
        refine bc_sipush (v := 200) dX5_run_24 (by decide) ?_
        refine bc_icmp_ge (tgt := 183) dX5_run_27 (by decide) (fun h27 => ?_) (fun h27 => absurd h27 (by rw [h.2.1, show (200 : Int32) = nI 200 from rfl, bn_leN (by omega) (by omega)]; omega))
        exact bc_return dX5_run_183 rfl (⟨rfl, h⟩)
theorem s_run {l : List PE} {s : RSt} (hB : okB μ0 n no nq) (hl : plR μ0 l) (hl150 : l.length ≤ 150) (hb : BlkX no nq l 6 0 l.length) (h : rR μ0 s μ) (hs : s.1 = 0) : bc_C (d + 13) LC mX5_run [.ref 24, .ref 31, .int 0, .int (nI l.length), .int 0] μ (fun r ν => r = none ∧ rR μ0 (runP l (actR μ0 n no nq) 201 0 l.length s) ν) := by
  have h0 := s_runW (d := d) hB hl hl150 201 (d + 13) 6 0 l.length 0 s μ (.int 0) .null .null .null rfl (Nat.le_refl _) hb (Nat.le_refl _) h (by omega) (by omega) (by omega) rfl rfl rfl rfl
  refine bc_enter (by decide) (Nat.le_of_ble_eq_true rfl) rfl ?_
  refine bc_iload_n dX5_run_0 rfl ?_
  refine bc_istore dX5_run_1 (by decide) rfl ?_
  refine bc_iconst (v := 0) dX5_run_3 (by decide) ?_
  refine bc_istore dX5_run_4 (by decide) rfl ?_
  exact h0
theorem s_beginRun : bc_C d LC mX5_beginRun [.ref 24] μ (fun r ν => r = none ∧ ν = bc_u (bc_u (bc_u μ 24 4 0) 24 5 0) 24 6 0) := by
  refine bc_enter (by decide) (Nat.le_of_ble_eq_true rfl) rfl ?_
  refine bc_aload_n dX5_beginRun_0 rfl ?_
  refine bc_iconst (v := 0) dX5_beginRun_1 (by decide) ?_
  refine bc_put dX5_beginRun_2 fX5_81 ftX5 fpX5_4 rfl rfl (rfl) rfl ?_
  refine bc_aload_n dX5_beginRun_5 rfl ?_
  refine bc_iconst (v := 0) dX5_beginRun_6 (by decide) ?_
  refine bc_put dX5_beginRun_7 fX5_84 ftX5 fpX5_5 rfl rfl (rfl) rfl ?_
  refine bc_aload_n dX5_beginRun_10 rfl ?_
  refine bc_iconst (v := 0) dX5_beginRun_11 (by decide) ?_
  refine bc_put dX5_beginRun_12 fX5_87 ftX5 fpX5_6 rfl rfl (rfl) rfl ?_
  exact bc_return dX5_beginRun_15 rfl (⟨rfl, rfl⟩)
end RUN
