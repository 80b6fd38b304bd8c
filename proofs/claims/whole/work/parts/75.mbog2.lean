/-! the reference: bog -/
/-- what a read text leaves alone -/
def wF (m ν : bc_M) : Prop := (∀ i, i ≠ 0 → i ≠ 3 → i ≠ 4 → i ≠ 5 → i ≠ 6 → i ≠ 11 → i ≠ 12 → i ≠ 17 → i ≠ 22 → ν i = m i) ∧ (∀ j, ¬ (j = 0 ∨ (2 ≤ j ∧ j ≤ 8) ∨ (18 ≤ j ∧ j ≤ 24) ∨ j = 34 ∨ j = 39) → ν 0 j = m 0 j) ∧ ν 0 0 = 0 ∧ ν 0 2 = 0
section T75
variable {d : Nat} {m μ ν M : bc_M} {n p : Nat} {t : Nat → Int32}
theorem wF.rF (h : wF m μ) (h2 : rF μ ν) : wF m ν := ⟨fun i a b c e f g k l q => (h2.1 i a b c e f g k l q).trans (h.1 i a b c e f g k l q), fun j hj => (h2.2 j (by omega)).trans (h.2.1 j hj), (h2.2 0 (by omega)).trans h.2.2.1, (h2.2 2 (by omega)).trans h.2.2.2⟩
theorem wF.u8 {v : Int32} (h : wF m μ) : wF m (bc_u μ 0 8 v) := ⟨fun i a b c e f g k l q => by rw [bc_u_ne _ _ _ a]; exact h.1 i a b c e f g k l q, fun j hj => by rw [bc_u_r, if_neg (by omega)]; exact h.2.1 j hj, h.2.2.1, h.2.2.2⟩
theorem wF.begin {ν : bc_M} (h1 : ∀ i, i ≠ 0 → ν i = bc_u m 0 0 0 i) (h2 : ∀ j, j ≠ 2 → j ≠ 3 → j ≠ 4 → j ≠ 5 → j ≠ 7 → j ≠ 8 → ν 0 j = bc_u m 0 0 0 0 j) (h3 : ν 0 2 = 0) : wF m ν := ⟨fun i a _ _ _ _ _ _ _ _ => by rw [h1 i a, bc_u_ne _ _ _ a], fun j hj => by rw [h2 j (by omega) (by omega) (by omega) (by omega) (by omega) (by omega), bc_u_r, if_neg (by omega)], by rw [h2 0 (by omega) (by omega) (by omega) (by omega) (by omega) (by omega)]; rfl, h3⟩
/-- a text told wrong -/
def flE (z : Nat × Nat) (m : bc_M) (r : Option Value) (ν : bc_M) : Prop := r = some (.int (nI z.1 - 10)) ∧ wF m ν ∧ ν 0 8 = nI z.2
def bgQ (m : bc_M) (z : TS × BG) (r : Option Value) (ξ : bc_M) : Prop := match z.1 with
  | .inl f => flE f m r ξ
  | .inr _ => r = some (.int (nI z.2.2.1.length)) ∧ ∃ ν, wF m ν ∧ ν 0 8 = -1 ∧ stS z.2 ν ξ
theorem sTwo_inl {lo1 hi1 lo2 hi2 : Nat} {f : Nat × Nat} : (sTwo t n lo1 hi1 lo2 hi2 (.inl f)).1 = .inl f := rfl
theorem pCl_inl {c w : Nat} {B : BG} {f : Nat × Nat} : (pCl t n c B w (.inl f)).1 = .inl f := by
  unfold pCl
  split <;> rfl
theorem pBg_inl {k c : Nat} {B : BG} {f : Nat × Nat} : pBg t n k c (.inl f, B) = (.inl f, B) := by cases k <;> rfl
theorem t_bogB {q : Int32} {tp : Nat} (ht : m 0 2 = nI tp) (h : ¬ (0 ≤ q ∧ q ≤ nI tp)) : bc_C (d + 2) LM mX10_bog [.ref 0, .int q] m (fun r ν => r = some (.int 0) ∧ ν = refM m 1 1) := by
  refine bc_enter (by decide) (Nat.le_of_ble_eq_true rfl) rfl ?_
  have bad : bc_W (d + 2) LM mX10_bog 22 [.ref 0, .int q, .null, .null] [.ref 0] (bc_u m 0 0 0) (fun r ν => r = some (.int 0) ∧ ν = refM m 1 1) := by
    refine bc_iconst (v := 0) dX10_bog_22 (by decide) ?_
    refine bc_iconst (v := 1) dX10_bog_23 (by decide) ?_
    refine bc_iconst (v := 1) dX10_bog_24 (by decide) ?_
    refine bc_callV (z := mX10_may) (ci := 10) dX10_bog_25 lX10_236 qX10_may (by rfl) (by rfl) (by rfl) (by rfl) (Nat.le_of_ble_eq_true rfl) (t_mayN (k := 1) False (fun x => x) _ (by decide) rfl (by decide)) (fun r25 μ25 e25 => ?_)
    obtain ⟨rfl, q25⟩ := e25
    obtain rfl := q25.symm
    refine bc_if_ne (tgt := 33) dX10_bog_28 (by decide) (fun h28 => absurd h28 (fun q => q rfl)) (fun h28 => ?_)
    refine bc_iconst (v := 0) dX10_bog_31 (by decide) ?_
    exact bc_ireturn dX10_bog_32 rfl rfl (⟨rfl, rfl⟩)
  refine bc_aload_n dX10_bog_0 rfl ?_
  refine bc_iconst (v := 0) dX10_bog_1 (by decide) ?_
  refine bc_put dX10_bog_2 fX10_3 ftX10 fpX10_0 rfl rfl (rfl) rfl ?_
  refine bc_aload_n dX10_bog_5 rfl ?_
  refine bc_iload_n dX10_bog_6 rfl ?_
  refine bc_if_lt (tgt := 22) dX10_bog_7 (by decide) (fun h7 => ?_) (fun h7 => ?_)
  · exact bad
  · refine bc_iload_n dX10_bog_10 rfl ?_
    refine bc_aload_n dX10_bog_11 rfl ?_
    refine bc_geti dX10_bog_12 fX10_115 (rfl) rfl ?_
    rw [show bc_u m 0 0 0 0 2 = nI tp from ht]
    refine bc_icmp_gt (tgt := 22) dX10_bog_15 (by decide) (fun h15 => ?_) (fun h15 => ?_)
    · exact bad
    · exact absurd ⟨Int32.not_lt.mp h7, Int32.not_lt.mp h15⟩ h
theorem t_bog {tp : Nat} (ht : m 0 2 = nI tp) (htp : tp ≤ 600) (hn : n ≤ tp) (hb : ∀ j, j < tp → b8R (t j) (m 2 j)) : bc_C (d + 7) LM mX10_bog [.ref 0, .int (nI n)] m (bgQ m (pBg t n 61 0 (.inr (skp t n 0), bg0))) := by
  refine bc_enter (by decide) (Nat.le_of_ble_eq_true rfl) rfl ?_
  have exitE : ∀ (z : Nat × Nat) (B : BG) (ν : bc_M) (v2 : Int32) (v3 : Value), v3.category = 1 → wF m ν → rS t n (.inl z) ν → bc_W (d + 7) LM mX10_bog 134 [.ref 0, .int (nI n), .int v2, v3] [] ν (bgQ m (.inl z, B)) := by
    intro z B ν v2 v3 c3 hw hs
    have hq : ν 0 5 = nI z.2 ∧ z.2 ≤ n := by
      obtain ⟨-, a, -, -, h5, -, h6⟩ := hs
      exact ⟨h5, h6⟩
    refine bc_aload_n dX10_bog_134 rfl ?_
    refine bc_aload_n dX10_bog_135 rfl ?_
    refine bc_geti dX10_bog_136 fX10_164 (rfl) rfl ?_
    refine bc_callV (z := mX10_result) (ci := 10) dX10_bog_139 lX10_262 qX10_result (by rfl) (by rfl) (by rfl) (by rfl) (Nat.le_of_ble_eq_true rfl) (t_result _ hs) (fun r139 μ139 e139 => ?_)
    obtain ⟨rfl, q139⟩ := e139
    obtain rfl := q139.symm
    refine bc_istore_n dX10_bog_142 (by decide) rfl ?_
    refine bc_aload_n dX10_bog_143 rfl ?_
    refine bc_geti dX10_bog_144 fX10_118 (rfl) rfl ?_
    rw [show bc_u ν 0 8 (rsF (.inl z)) 0 5 = nI z.2 from hq.1]
    refine bc_iconst (v := (-1)) dX10_bog_147 (by decide) ?_
    refine bc_icmp_ne (tgt := 155) dX10_bog_148 (by decide) (fun h148 => ?_) (fun h148 => absurd h148 (nI_m1 (by omega)))
    refine bc_iload_n dX10_bog_155 rfl ?_
    exact bc_ireturn dX10_bog_156 rfl rfl (⟨rfl, hw.u8, by rw [bc_u_r, if_pos ⟨rfl, rfl⟩]; rfl⟩)
  have loop : ∀ (k c : Nat) (S : TS) (B : BG) (ν : bc_M) (v3 : Value), v3.category = 1 → c + k = 61 → (c ≤ 60 ∨ ∃ z, S = .inl z) → wF m ν → rS t n S ν → (∀ p, S = .inr p → drB ν B ∧ bOk B) → bc_W (d + 7) LM mX10_bog 44 [.ref 0, .int (nI n), .int (nI c), v3] [] ν (bgQ m (pBg t n k c (S, B))) := by
    intro k
    induction k with
    | zero =>
      intro c S B ν v3 c3 hc h61 hw hs hB
      rcases h61 with q | ⟨z, rfl⟩
      · omega
      · rw [pBg_inl]
        refine bc_aload_n dX10_bog_44 rfl ?_
        refine bc_callV (z := mX10_fine) (ci := 10) dX10_bog_45 lX10_147 qX10_fine (by rfl) (by rfl) (by rfl) (by rfl) (Nat.le_of_ble_eq_true rfl) (t_fineN hs) (fun r45 μ45 e45 => ?_)
        obtain ⟨rfl, q45⟩ := e45
        obtain rfl := q45.symm
        refine bc_if_eq (tgt := 134) dX10_bog_48 (by decide) (fun h48 => ?_) (fun h48 => absurd h48 (fun q => q rfl))
        exact exitE z B ν _ _ c3 hw hs
    | succ k ih =>
      intro c S B ν v3 c3 hc h61 hw hs hB
      cases S with
      | inl z =>
        rw [pBg_inl]
        refine bc_aload_n dX10_bog_44 rfl ?_
        refine bc_callV (z := mX10_fine) (ci := 10) dX10_bog_45 lX10_147 qX10_fine (by rfl) (by rfl) (by rfl) (by rfl) (Nat.le_of_ble_eq_true rfl) (t_fineN hs) (fun r45 μ45 e45 => ?_)
        obtain ⟨rfl, q45⟩ := e45
        obtain rfl := q45.symm
        refine bc_if_eq (tgt := 134) dX10_bog_48 (by decide) (fun h48 => ?_) (fun h48 => absurd h48 (fun q => q rfl))
        exact exitE z B ν _ _ c3 hw hs
      | inr p =>
        obtain ⟨hB1, hO⟩ := hB p rfl
        have hc60 : c ≤ 60 := by
          rcases h61 with q | ⟨z, hz⟩
          · exact q
          · cases hz
        have hat := hs.at'
        have hpn := hs.le
        obtain ⟨ν1, hν1⟩ : ∃ ν1, ν1 = bc_u ν 0 4 (nI p) := ⟨_, rfl⟩
        have hf1 : f456 ν ν1 := by rw [hν1]; exact f456.u (by omega)
        rw [← hν1] at hat
        have hw1 : wF m ν1 := hw.rF hf1.rF
        have hB2 := hB1.mv hf1
        have q4 : ν1 0 4 = nI p := by rw [hν1, bc_u_r, if_pos ⟨rfl, rfl⟩]
        have u4 : bc_u ν1 0 4 (nI p) = ν1 := u_self q4
        by_cases hpl : p < n
        · have hstep : pBg t n (k + 1) c (.inr p, B) = pBg t n k (c + 1) (sNeed t n 59 (pCl t n c B (sWrd t n (bw 1) (.inr p)).2 (sCl t n c B p)).1, (pCl t n c B (sWrd t n (bw 1) (.inr p)).2 (sCl t n c B p)).2) := by
            rw [pBg, if_pos hpl]
          rw [hstep]
          have fault : ∀ (f : Nat × Nat), sCl t n c B p = .inl f → pBg t n k (c + 1) (sNeed t n 59 (pCl t n c B (sWrd t n (bw 1) (.inr p)).2 (sCl t n c B p)).1, (pCl t n c B (sWrd t n (bw 1) (.inr p)).2 (sCl t n c B p)).2) = (.inl f, (pCl t n c B (sWrd t n (bw 1) (.inr p)).2 (.inl f)).2) := by
            intro f hf
            rw [hf, pCl_inl]
            show pBg t n k (c + 1) (.inl f, _) = _
            rw [pBg_inl]
          by_cases hfd : (bw 1).idxOf (wd t n p) < (bw 1).length
          · obtain ⟨w, hwd⟩ : ∃ w, w = (bw 1).idxOf (wd t n p) := ⟨_, rfl⟩
            have hw6 : w < 6 := by rw [hwd]; exact hfd
            have eS : sWrd t n (bw 1) (.inr p) = (.inr (skp t n (ltE t n p)), w) := by rw [hwd]; simp only [sWrd]; rw [if_pos hfd]
            have eV : wV (bw 1) (wd t n p) = nI w := by rw [wV, if_pos hfd, hwd]
            have c60 : nI c = 60 ↔ c = 60 := bn_eqN (b := 60) (by omega) (by omega)
            by_cases hfull : 60 ≤ c ∨ fullB w B = true
            · have eC : sCl t n c B p = .inl (3, p) := by unfold sCl; rw [eS, if_pos hfull]; rfl
              rw [fault _ eC]
              have bad : bc_W (d + 7) LM mX10_bog 94 [.ref 0, .int (nI n), .int (nI c), .int (nI w)] [] ν1 (bgQ m (.inl (3, p), (pCl t n c B (sWrd t n (bw 1) (.inr p)).2 (.inl (3, p))).2)) := by
                refine bc_aload_n dX10_bog_94 rfl ?_
                refine bc_iconst (v := 3) dX10_bog_95 (by decide) ?_
                refine bc_aload_n dX10_bog_96 rfl ?_
                refine bc_geti dX10_bog_97 fX10_124 (rfl) rfl ?_
                rw [q4]
                refine bc_callV (z := mX10_wrong) (ci := 10) dX10_bog_100 lX10_154 qX10_wrong (by rfl) (by rfl) (by rfl) (by rfl) (Nat.le_of_ble_eq_true rfl) (t_wrongY (k := 3) hat hpn) (fun r100 μ100 e100 => ?_)
                obtain ⟨rfl, f100, s100, -⟩ := e100
                refine bc_aload_n dX10_bog_103 rfl ?_
                refine bc_callV (z := mX10_fine) (ci := 10) dX10_bog_104 lX10_147 qX10_fine (by rfl) (by rfl) (by rfl) (by rfl) (Nat.le_of_ble_eq_true rfl) (t_fineN s100) (fun r104 μ104 e104 => ?_)
                obtain ⟨rfl, q104⟩ := e104
                obtain rfl := q104.symm
                refine bc_if_ne (tgt := 113) dX10_bog_107 (by decide) (fun h107 => absurd h107 (fun q => q rfl)) (fun h107 => ?_)
                refine bc_goto (tgt := 134) dX10_bog_110 (by decide) ?_
                exact exitE (3, p) _ _ _ _ rfl (hw1.rF f100.rF) s100
              refine bc_aload_n dX10_bog_44 rfl ?_
              refine bc_callV (z := mX10_fine) (ci := 10) dX10_bog_45 lX10_147 qX10_fine (by rfl) (by rfl) (by rfl) (by rfl) (Nat.le_of_ble_eq_true rfl) (t_fineY rfl hs) (fun r45 μ45 e45 => ?_)
              obtain ⟨rfl, q45⟩ := e45
              obtain rfl := q45.symm
              refine bc_if_eq (tgt := 134) dX10_bog_48 (by decide) (fun h48 => absurd h48 (by decide)) (fun h48 => ?_)
              refine bc_aload_n dX10_bog_51 rfl ?_
              refine bc_callV (z := mX10_isMore) (ci := 10) dX10_bog_52 lX10_244 qX10_isMore (by rfl) (by rfl) (by rfl) (by rfl) (Nat.le_of_ble_eq_true rfl) (t_isMore hs) (fun r52 μ52 e52 => ?_)
              obtain ⟨rfl, q52⟩ := e52
              obtain rfl := q52.symm
              rw [if_pos hpl, ← hν1]
              refine bc_if_eq (tgt := 134) dX10_bog_55 (by decide) (fun h55 => absurd h55 (by decide)) (fun h55 => ?_)
              refine bc_aload_n dX10_bog_58 rfl ?_
              refine bc_callV (z := mX10_rowOf) (ci := 10) dX10_bog_59 lX10_247 qX10_rowOf (by rfl) (by rfl) (by rfl) (by rfl) (Nat.le_of_ble_eq_true rfl) (t_rowOf hat) (fun r59 μ59 e59 => ?_)
              obtain ⟨rfl, q59⟩ := e59
              obtain rfl := q59.symm
              rw [eV, u4]
              refine bc_istore_n dX10_bog_62 (by decide) rfl ?_
              refine bc_iload_n dX10_bog_63 rfl ?_
              refine bc_iconst (v := (-1)) dX10_bog_64 (by decide) ?_
              refine bc_icmp_ne (tgt := 80) dX10_bog_65 (by decide) (fun h65 => ?_) (fun h65 => absurd h65 (nI_m1 (by omega)))
              refine bc_iload_n dX10_bog_80 rfl ?_
              refine bc_bipush (v := 60) dX10_bog_81 (by decide) ?_
              refine bc_icmp_eq (tgt := 94) dX10_bog_83 (by decide) (fun h83 => ?_) (fun h83 => ?_)
              · exact bad
              · refine bc_aload_n dX10_bog_86 rfl ?_
                refine bc_iload_n dX10_bog_87 rfl ?_
                refine bc_callV (z := mX10_isFull) (ci := 10) dX10_bog_88 lX10_250 qX10_isFull (by rfl) (by rfl) (by rfl) (by rfl) (Nat.le_of_ble_eq_true rfl) (t_isFull hB2 hO hw6) (fun r88 μ88 e88 => ?_)
                obtain ⟨rfl, q88⟩ := e88
                obtain rfl := q88.symm
                refine bc_if_eq (tgt := 103) dX10_bog_91 (by decide) (fun h91 => absurd h91 (fun q => hfull.elim (fun z => h83 (c60.mpr (by omega))) (fun z => ite0.mp q z))) (fun h91 => ?_)
                exact bad
            · have eC : sCl t n c B p = .inr (skp t n (ltE t n p)) := by unfold sCl; rw [eS, if_neg hfull]
              rw [eC, eS]
              have hnf : fullB w B = false := by
                cases hq : fullB w B with
                | false => rfl
                | true => exact absurd (.inr hq) hfull
              have hp4 : rS t n (.inr (skp t n (ltE t n p))) (bc_u ν1 0 4 (nI (ltE t n p))) := by
                obtain ⟨ha1, a, ha2, ha3, ha4, ha5⟩ := hat
                exact ⟨ha1.mv (f456.u (by omega)), ltE t n p, rn_le hpn, by rw [bc_u_r, if_pos ⟨rfl, rfl⟩], by rw [bc_u_r, if_neg (by omega)]; exact ha4, rfl⟩
              refine bc_aload_n dX10_bog_44 rfl ?_
              refine bc_callV (z := mX10_fine) (ci := 10) dX10_bog_45 lX10_147 qX10_fine (by rfl) (by rfl) (by rfl) (by rfl) (Nat.le_of_ble_eq_true rfl) (t_fineY rfl hs) (fun r45 μ45 e45 => ?_)
              obtain ⟨rfl, q45⟩ := e45
              obtain rfl := q45.symm
              refine bc_if_eq (tgt := 134) dX10_bog_48 (by decide) (fun h48 => absurd h48 (by decide)) (fun h48 => ?_)
              refine bc_aload_n dX10_bog_51 rfl ?_
              refine bc_callV (z := mX10_isMore) (ci := 10) dX10_bog_52 lX10_244 qX10_isMore (by rfl) (by rfl) (by rfl) (by rfl) (Nat.le_of_ble_eq_true rfl) (t_isMore hs) (fun r52 μ52 e52 => ?_)
              obtain ⟨rfl, q52⟩ := e52
              obtain rfl := q52.symm
              rw [if_pos hpl, ← hν1]
              refine bc_if_eq (tgt := 134) dX10_bog_55 (by decide) (fun h55 => absurd h55 (by decide)) (fun h55 => ?_)
              refine bc_aload_n dX10_bog_58 rfl ?_
              refine bc_callV (z := mX10_rowOf) (ci := 10) dX10_bog_59 lX10_247 qX10_rowOf (by rfl) (by rfl) (by rfl) (by rfl) (Nat.le_of_ble_eq_true rfl) (t_rowOf hat) (fun r59 μ59 e59 => ?_)
              obtain ⟨rfl, q59⟩ := e59
              obtain rfl := q59.symm
              rw [eV, u4]
              refine bc_istore_n dX10_bog_62 (by decide) rfl ?_
              refine bc_iload_n dX10_bog_63 rfl ?_
              refine bc_iconst (v := (-1)) dX10_bog_64 (by decide) ?_
              refine bc_icmp_ne (tgt := 80) dX10_bog_65 (by decide) (fun h65 => ?_) (fun h65 => absurd h65 (nI_m1 (by omega)))
              refine bc_iload_n dX10_bog_80 rfl ?_
              refine bc_bipush (v := 60) dX10_bog_81 (by decide) ?_
              refine bc_icmp_eq (tgt := 94) dX10_bog_83 (by decide) (fun h83 => absurd h83 (fun q => hfull (.inl (by have := c60.mp q; omega)))) (fun h83 => ?_)
              refine bc_aload_n dX10_bog_86 rfl ?_
              refine bc_iload_n dX10_bog_87 rfl ?_
              refine bc_callV (z := mX10_isFull) (ci := 10) dX10_bog_88 lX10_250 qX10_isFull (by rfl) (by rfl) (by rfl) (by rfl) (Nat.le_of_ble_eq_true rfl) (t_isFull hB2 hO hw6) (fun r88 μ88 e88 => ?_)
              obtain ⟨rfl, q88⟩ := e88
              obtain rfl := q88.symm
              refine bc_if_eq (tgt := 103) dX10_bog_91 (by decide) (fun h91 => ?_) (fun h91 => absurd h91 (fun q => q (by rw [hnf]; rfl)))
              refine bc_aload_n dX10_bog_103 rfl ?_
              refine bc_callV (z := mX10_fine) (ci := 10) dX10_bog_104 lX10_147 qX10_fine (by rfl) (by rfl) (by rfl) (by rfl) (Nat.le_of_ble_eq_true rfl) (t_fineY rfl hat) (fun r104 μ104 e104 => ?_)
              obtain ⟨rfl, q104⟩ := e104
              obtain rfl := q104.symm
              refine bc_if_ne (tgt := 113) dX10_bog_107 (by decide) (fun h107 => ?_) (fun h107 => absurd h107 (by decide))
              refine bc_aload_n dX10_bog_113 rfl ?_
              refine bc_callV (z := mX10_pass) (ci := 10) dX10_bog_114 lX10_253 qX10_pass (by rfl) (by rfl) (by rfl) (by rfl) (Nat.le_of_ble_eq_true rfl) (t_pass' hat.1 hpn q4) (fun r114 μ114 e114 => ?_)
              obtain ⟨rfl, q114⟩ := e114
              obtain rfl := q114.symm
              refine bc_aload_n dX10_bog_117 rfl ?_
              refine bc_iload_n dX10_bog_118 rfl ?_
              refine bc_callV (z := mX10_readRow) (ci := 10) dX10_bog_119 lX10_256 qX10_readRow (by rfl) (by rfl) (by rfl) (by rfl) (Nat.le_of_ble_eq_true rfl) (t_readRow (c := c) hp4 (hB2.mv (f456.u (by omega))) hO hw6 hnf) (fun r119 μ119 e119 => ?_)
              obtain ⟨rfl, f119, s119, b119⟩ := e119
              refine bc_aload_n dX10_bog_122 rfl ?_
              refine bc_bipush (v := 59) dX10_bog_123 (by decide) ?_
              refine bc_callV (z := mX10_sign) (ci := 10) dX10_bog_125 lX10_259 qX10_sign (by rfl) (by rfl) (by rfl) (by rfl) (Nat.le_of_ble_eq_true rfl) (t_sign (c := 59) s119 (by omega) (by omega)) (fun r125 μ125 e125 => ?_)
              obtain ⟨rfl, f125, s125⟩ := e125
              refine bc_iinc1 dX10_bog_128 rfl (by decide) rfl ?_
              refine bc_goto (tgt := 44) dX10_bog_131 (by decide) ?_
              rw [bn_add1]
              refine ih (c + 1) _ _ _ _ rfl (by omega) (.inl (by omega)) (((hw1.rF (f456.u (by omega)).rF).rF f119).rF f125.rF) s125 (fun p' hp' => ?_)
              obtain ⟨p0, e0, -, -⟩ := sNeed_ok hp'
              exact ⟨b119.mv f125, pCl_ok hO hnf e0⟩
          · have eS : sWrd t n (bw 1) (.inr p) = (.inl (1, p), 99) := by simp only [sWrd]; rw [if_neg hfd]
            have eV : wV (bw 1) (wd t n p) = -1 := by rw [wV, if_neg hfd]
            have eC : sCl t n c B p = .inl (1, p) := by unfold sCl; rw [eS]; split <;> rfl
            rw [fault _ eC]
            refine bc_aload_n dX10_bog_44 rfl ?_
            refine bc_callV (z := mX10_fine) (ci := 10) dX10_bog_45 lX10_147 qX10_fine (by rfl) (by rfl) (by rfl) (by rfl) (Nat.le_of_ble_eq_true rfl) (t_fineY rfl hs) (fun r45 μ45 e45 => ?_)
            obtain ⟨rfl, q45⟩ := e45
            obtain rfl := q45.symm
            refine bc_if_eq (tgt := 134) dX10_bog_48 (by decide) (fun h48 => absurd h48 (by decide)) (fun h48 => ?_)
            refine bc_aload_n dX10_bog_51 rfl ?_
            refine bc_callV (z := mX10_isMore) (ci := 10) dX10_bog_52 lX10_244 qX10_isMore (by rfl) (by rfl) (by rfl) (by rfl) (Nat.le_of_ble_eq_true rfl) (t_isMore hs) (fun r52 μ52 e52 => ?_)
            obtain ⟨rfl, q52⟩ := e52
            obtain rfl := q52.symm
            rw [if_pos hpl, ← hν1]
            refine bc_if_eq (tgt := 134) dX10_bog_55 (by decide) (fun h55 => absurd h55 (by decide)) (fun h55 => ?_)
            refine bc_aload_n dX10_bog_58 rfl ?_
            refine bc_callV (z := mX10_rowOf) (ci := 10) dX10_bog_59 lX10_247 qX10_rowOf (by rfl) (by rfl) (by rfl) (by rfl) (Nat.le_of_ble_eq_true rfl) (t_rowOf hat) (fun r59 μ59 e59 => ?_)
            obtain ⟨rfl, q59⟩ := e59
            obtain rfl := q59.symm
            rw [eV, u4]
            refine bc_istore_n dX10_bog_62 (by decide) rfl ?_
            refine bc_iload_n dX10_bog_63 rfl ?_
            refine bc_iconst (v := (-1)) dX10_bog_64 (by decide) ?_
            refine bc_icmp_ne (tgt := 80) dX10_bog_65 (by decide) (fun h65 => absurd h65 (fun q => q rfl)) (fun h65 => ?_)
            refine bc_aload_n dX10_bog_68 rfl ?_
            refine bc_iconst (v := 1) dX10_bog_69 (by decide) ?_
            refine bc_aload_n dX10_bog_70 rfl ?_
            refine bc_geti dX10_bog_71 fX10_124 (rfl) rfl ?_
            rw [q4]
            refine bc_callV (z := mX10_wrong) (ci := 10) dX10_bog_74 lX10_154 qX10_wrong (by rfl) (by rfl) (by rfl) (by rfl) (Nat.le_of_ble_eq_true rfl) (t_wrongY (k := 1) hat hpn) (fun r74 μ74 e74 => ?_)
            obtain ⟨rfl, f74, s74, -⟩ := e74
            refine bc_goto (tgt := 103) dX10_bog_77 (by decide) ?_
            refine bc_aload_n dX10_bog_103 rfl ?_
            refine bc_callV (z := mX10_fine) (ci := 10) dX10_bog_104 lX10_147 qX10_fine (by rfl) (by rfl) (by rfl) (by rfl) (Nat.le_of_ble_eq_true rfl) (t_fineN s74) (fun r104 μ104 e104 => ?_)
            obtain ⟨rfl, q104⟩ := e104
            obtain rfl := q104.symm
            refine bc_if_ne (tgt := 113) dX10_bog_107 (by decide) (fun h107 => absurd h107 (fun q => q rfl)) (fun h107 => ?_)
            refine bc_goto (tgt := 134) dX10_bog_110 (by decide) ?_
            exact exitE (1, p) _ _ _ _ rfl (hw1.rF f74.rF) s74
        · have hstep : pBg t n (k + 1) c (.inr p, B) = (.inr p, B) := by rw [pBg, if_neg hpl]
          rw [hstep]
          have b19 : ν1 0 19 = nI B.2.1.length := hB2.2.1.1
          have h5 : ν1 0 5 = -1 := by
            obtain ⟨-, a, -, -, h5, -⟩ := hat
            exact h5
          have hB3 : drB (bc_u ν1 0 8 (rsF (.inr p))) B := hB2
          refine bc_aload_n dX10_bog_44 rfl ?_
          refine bc_callV (z := mX10_fine) (ci := 10) dX10_bog_45 lX10_147 qX10_fine (by rfl) (by rfl) (by rfl) (by rfl) (Nat.le_of_ble_eq_true rfl) (t_fineY rfl hs) (fun r45 μ45 e45 => ?_)
          obtain ⟨rfl, q45⟩ := e45
          obtain rfl := q45.symm
          refine bc_if_eq (tgt := 134) dX10_bog_48 (by decide) (fun h48 => absurd h48 (by decide)) (fun h48 => ?_)
          refine bc_aload_n dX10_bog_51 rfl ?_
          refine bc_callV (z := mX10_isMore) (ci := 10) dX10_bog_52 lX10_244 qX10_isMore (by rfl) (by rfl) (by rfl) (by rfl) (Nat.le_of_ble_eq_true rfl) (t_isMore hs) (fun r52 μ52 e52 => ?_)
          obtain ⟨rfl, q52⟩ := e52
          obtain rfl := q52.symm
          rw [if_neg hpl, ← hν1]
          refine bc_if_eq (tgt := 134) dX10_bog_55 (by decide) (fun h55 => ?_) (fun h55 => absurd h55 (fun q => q rfl))
          refine bc_aload_n dX10_bog_134 rfl ?_
          refine bc_aload_n dX10_bog_135 rfl ?_
          refine bc_geti dX10_bog_136 fX10_164 (rfl) rfl ?_
          rw [b19]
          refine bc_callV (z := mX10_result) (ci := 10) dX10_bog_139 lX10_262 qX10_result (by rfl) (by rfl) (by rfl) (by rfl) (Nat.le_of_ble_eq_true rfl) (t_result _ hat) (fun r139 μ139 e139 => ?_)
          obtain ⟨rfl, q139⟩ := e139
          obtain rfl := q139.symm
          refine bc_istore_n dX10_bog_142 (by decide) rfl ?_
          refine bc_aload_n dX10_bog_143 rfl ?_
          refine bc_geti dX10_bog_144 fX10_118 (rfl) rfl ?_
          refine bc_iconst (v := (-1)) dX10_bog_147 (by decide) ?_
          refine bc_icmp_ne (tgt := 155) dX10_bog_148 (by decide) (fun h148 => absurd h148 (fun q => q h5)) (fun h148 => ?_)
          refine bc_aload_n dX10_bog_151 rfl ?_
          refine bc_callV (z := mX10_sets) (ci := 10) dX10_bog_152 lX10_112 qX10_sets (by rfl) (by rfl) (by rfl) (by rfl) (Nat.le_of_ble_eq_true rfl) (t_sets hB3 hO) (fun r152 μ152 e152 => ?_)
          obtain ⟨rfl, h152⟩ := e152
          refine bc_iload_n dX10_bog_155 rfl ?_
          exact bc_ireturn dX10_bog_156 rfl rfl (⟨rfl, _, hw1.u8, by rw [bc_u_r, if_pos ⟨rfl, rfl⟩]; rfl, h152⟩)
  refine bc_aload_n dX10_bog_0 rfl ?_
  refine bc_iconst (v := 0) dX10_bog_1 (by decide) ?_
  refine bc_put dX10_bog_2 fX10_3 ftX10 fpX10_0 rfl rfl (rfl) rfl ?_
  refine bc_aload_n dX10_bog_5 rfl ?_
  refine bc_iload_n dX10_bog_6 rfl ?_
  refine bc_if_lt (tgt := 22) dX10_bog_7 (by decide) (fun h7 => absurd h7 (bn_nn (by omega))) (fun h7 => ?_)
  refine bc_iload_n dX10_bog_10 rfl ?_
  refine bc_aload_n dX10_bog_11 rfl ?_
  refine bc_geti dX10_bog_12 fX10_115 (rfl) rfl ?_
  rw [show bc_u m 0 0 0 0 2 = nI tp from ht]
  refine bc_icmp_gt (tgt := 22) dX10_bog_15 (by decide) (fun h15 => absurd h15 (by rw [bn_ltN (by omega) (by omega)]; omega)) (fun h15 => ?_)
  refine bc_iconst (v := 1) dX10_bog_18 (by decide) ?_
  refine bc_goto (tgt := 23) dX10_bog_19 (by decide) ?_
  refine bc_iconst (v := 1) dX10_bog_23 (by decide) ?_
  refine bc_iconst (v := 1) dX10_bog_24 (by decide) ?_
  refine bc_callV (z := mX10_may) (ci := 10) dX10_bog_25 lX10_236 qX10_may (by rfl) (by rfl) (by rfl) (by rfl) (Nat.le_of_ble_eq_true rfl) (t_mayY (k := 1) True trivial _ (by decide) rfl (by decide)) (fun r25 μ25 e25 => ?_)
  obtain ⟨rfl, q25⟩ := e25
  obtain rfl := q25.symm
  refine bc_if_ne (tgt := 33) dX10_bog_28 (by decide) (fun h28 => ?_) (fun h28 => absurd h28 (by decide))
  refine bc_aload_n dX10_bog_33 rfl ?_
  refine bc_iload_n dX10_bog_34 rfl ?_
  refine bc_callV (z := mX10_begins) (ci := 10) dX10_bog_35 lX10_240 qX10_begins (by rfl) (by rfl) (by rfl) (by rfl) (Nat.le_of_ble_eq_true rfl) (t_begins (t := t) (n := n) (by omega) (fun j hj => hb j (by omega))) (fun r35 μ35 e35 => ?_)
  obtain ⟨rfl, g1, g2, g3, g4, g5, g6⟩ := e35
  refine bc_aload_n dX10_bog_38 rfl ?_
  refine bc_callV (z := mX10_clears) (ci := 10) dX10_bog_39 lX10_109 qX10_clears (by rfl) (by rfl) (by rfl) (by rfl) (Nat.le_of_ble_eq_true rfl) (t_clears) (fun r39 μ39 e39 => ?_)
  obtain ⟨rfl, f39, b39, s39⟩ := e39
  refine bc_iconst (v := 0) dX10_bog_42 (by decide) ?_
  refine bc_istore_n dX10_bog_43 (by decide) rfl ?_
  exact loop 61 0 _ bg0 _ _ rfl (by omega) (.inl (by omega)) ((wF.begin g1 g2 g3).rF f39) (s39 _ _ _ g6) (fun _ _ => ⟨b39, bg0_ok⟩)
end T75
