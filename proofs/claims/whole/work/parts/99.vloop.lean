section LO
variable {Z : lj_Z}
theorem n64 (y : Int32) : ∃ n, n < 64 ∧ y &&& 63 = nI n := by
  have hle : y.toBitVec.toNat &&& 63 ≤ 63 := Nat.and_le_right
  refine ⟨y.toBitVec.toNat &&& 63, by omega, ?_⟩
  apply Int32.toBitVec_inj.mp
  apply BitVec.eq_of_toNat_eq
  rw [Int32.toBitVec_and, BitVec.toNat_and]
  show y.toBitVec.toNat &&& 63 = (y.toBitVec.toNat &&& 63) % 4294967296
  omega
theorem lj_gt {i L : Nat} (hi : i ≤ 4096) (hL : L ≤ 4096) : nI i > Int32.ofNat L - 8 ↔ L < i + 8 := by
  show Int32.ofNat L - 8 < nI i ↔ L < i + 8
  have e1 : (Int32.ofNat L).toInt = (L : Int) := nI_toInt (by omega)
  have e2 : (8 : Int32).toInt = 8 := rfl
  rw [Int32.lt_iff_toInt_lt, Int32.toInt_sub, e1, e2, nI_toInt (by omega), Int.bmod_eq_of_le (by omega) (by omega)]
  omega
theorem lj_head {i cells slots : Nat} {M m9 : bc_M} {f : Nat → Int64} (C : lj_H Z) (hi : i ≤ 4096) (hcc : cells ≤ 601024) (hss : slots ≤ 7293034) (kk : i + 8 ≤ lj_n Z → lj Z 33 (lj_b Z i) [] M m9 f cells slots) : lj Z 23 (lj_b Z i) [] M m9 f cells slots := by
  obtain ⟨p, l, e, s, m, below, meth, c, b, L, xs, X, X', o⟩ := Z
  intro H locs sl h1 h2 h3 hS hl
  refine lv_iload C.1.1 C.1.2.1 dL_law__23 (lv_at hl 4 rfl) ?_
  refine lv_aload_n C.1.1 C.1.2.1 dL_law__25 rfl (lv_at hl 0 rfl) ?_
  refine va_slen C.1.1 C.1.2.1 C.2.1.1 C.2.1.2.1 (A := fun q => s.heap.size ≤ q) (Nat.not_le.mpr C.2.1.2.1) hS dL_law__26 ?_
  refine lv_bipush (v := 8) C.1.1 C.1.2.1 dL_law__27 rfl ?_
  refine lv_isub C.1.1 C.1.2.1 dL_law__29 ?_
  refine lv_icmp_gt (tgt := 2371) C.1.1 C.1.2.1 dL_law__30 (by decide) (fun _ => ?_) (fun q => ?_)
  · refine lv_iconst (v := 1) C.1.1 C.1.2.1 dL_law__2371 rfl ?_
    refine va_forget hS.2.2 ?_
    refine W.widen hcc hss ?_
    exact lw_ret C.1.1 C.1.2.1 C.1.2.2.1 C.1.2.2.2.2.1 dL_law__2372
  · refine kk ?_ H locs sl h1 h2 h3 hS hl
    have q2 : ¬ L < i + 8 := fun z => q ((lj_gt hi C.2.1.2.2).mpr z)
    exact Nat.not_lt.mp q2
theorem lj_next {i cells slots : Nat} {M m9 : bc_M} {f : Nat → Int64} (C : lj_H Z) (kk : lj Z 23 (lj_b Z (i + 8)) [] M m9 f cells slots) : lj Z 2365 (lj_b Z i) [] M m9 f cells slots := by
  obtain ⟨p, l, e, s, m, below, meth, c, b, L, xs, X, X', o⟩ := Z
  intro H locs sl h1 h2 h3 hS hl
  refine lv_iinc (k := 4) (v := nI (i + 8)) C.1.1 C.1.2.1 dL_law__2365 hl rfl (nI_add i 8) (by decide) rfl (fun sl hl => ?_)
  exact lv_goto (tgt := 23) C.1.1 C.1.2.1 dL_law__2368 (by decide) (kk H locs sl h1 h2 h3 hS (lv_sub hl [1, 2, 3, 4, 0] rfl))
set_option maxHeartbeats 4000000 in
set_option maxRecDepth 20000 in
theorem lj_turn {i cells slots : Nat} {M m9 : bc_M} {f : Nat → Int64} (C : lj_H Z) (hR : REL M m9) (hi : i + 8 ≤ lj_n Z) (hc : cells + 1 ≤ 601024) (hs : slots + 6 ≤ 7293034) (kk : ∀ ν ξ f', REL ν ξ → lj Z 2365 (lj_b Z i) [] ν ξ f' (cells + 1) (slots + 6)) : lj Z 33 (lj_b Z i) [] M m9 f cells slots := by
  have sw : ∀ n : Nat, n < 64 → lj Z 40 (lj_b Z i) [.int (nI n)] M m9 f cells slots := by
    intro n hn
    have hcase : n = 0 ∨ n = 1 ∨ n = 2 ∨ n = 3 ∨ n = 4 ∨ n = 5 ∨ n = 6 ∨ n = 7 ∨ n = 8 ∨ n = 9 ∨ n = 10 ∨ n = 11 ∨ n = 12 ∨ n = 13 ∨ n = 14 ∨ n = 15 ∨ n = 16 ∨ n = 17 ∨ n = 18 ∨ n = 19 ∨ n = 20 ∨ n = 21 ∨ n = 22 ∨ n = 23 ∨ n = 24 ∨ n = 25 ∨ n = 26 ∨ n = 27 ∨ n = 28 ∨ n = 29 ∨ n = 30 ∨ n = 31 ∨ n = 32 ∨ n = 33 ∨ n = 34 ∨ n = 35 ∨ n = 36 ∨ n = 37 ∨ n = 38 ∨ 38 < n := by omega
    have hin : ∀ {tgt : Nat} (off : Int), n ≤ 38 → (#[172, 245, 301, 357, 413, 469, 482, 495, 551, 619, 687, 755, 823, 879, 1011, 1079, 1147, 1203, 1259, 1315, 1371, 1462, 1542, 1622, 1635, 1691, 1747, 1803, 1859, 1915, 1971, 1984, 2040, 2053, 2145, 2249, 2262, 2275, 2300] : Array Int)[n]? = some off → ((40 : Nat) : Int) + off = (tgt : Int) → lj Z tgt (lj_b Z i) [] M m9 f cells slots → lj Z 40 (lj_b Z i) [.int (nI n)] M m9 f cells slots := by
      intro tgt off h9 h8 h7 k
      have e1 : (nI n).toInt = (n : Int) := nI_toInt (by omega)
      obtain ⟨p, l, e, s, m, below, meth, c, b, L, xs, X, X', o⟩ := Z
      intro H locs sl h1 h2 h3 hS hl
      exact lv_tableIn C.1.1 C.1.2.1 dL_law__40 (by rw [e1]; omega) (by rw [e1]; omega) (by rw [e1, show ((n : Int) - 0).toNat = n by omega]; exact h8) h7 (k H locs sl h1 h2 h3 hS hl)
    rcases hcase with rfl | rfl | rfl | rfl | rfl | rfl | rfl | rfl | rfl | rfl | rfl | rfl | rfl | rfl | rfl | rfl | rfl | rfl | rfl | rfl | rfl | rfl | rfl | rfl | rfl | rfl | rfl | rfl | rfl | rfl | rfl | rfl | rfl | rfl | rfl | rfl | rfl | rfl | rfl | h
    · exact hin 172 (by omega) rfl (by decide) (arm_feed C hR hi hc hs kk)
    · exact hin 245 (by omega) rfl (by decide) (arm_bog C hR hi hc hs kk)
    · exact hin 301 (by omega) rfl (by decide) (arm_law C hR hi hc hs kk)
    · exact hin 357 (by omega) rfl (by decide) (arm_work C hR hi hc hs kk)
    · exact hin 413 (by omega) rfl (by decide) (arm_book C hR hi hc hs kk)
    · exact hin 469 (by omega) rfl (by decide) (arm_fault C hR hi hc hs kk)
    · exact hin 482 (by omega) rfl (by decide) (arm_undo C hR hi hc hs kk)
    · exact hin 495 (by omega) rfl (by decide) (arm_told C hR hi hc hs kk)
    · exact hin 551 (by omega) rfl (by decide) (arm_quarter C hR hi hc hs kk)
    · exact hin 619 (by omega) rfl (by decide) (arm_oven C hR hi hc hs kk)
    · exact hin 687 (by omega) rfl (by decide) (arm_mooring C hR hi hc hs kk)
    · exact hin 755 (by omega) rfl (by decide) (arm_reed C hR hi hc hs kk)
    · exact hin 823 (by omega) rfl (by decide) (arm_drift C hR hi hc hs kk)
    · exact hin 879 (by omega) rfl (by decide) (arm_would C hR hi hc hs kk)
    · exact hin 1011 (by omega) rfl (by decide) (arm_ahead C hR hi hc hs kk)
    · exact hin 1079 (by omega) rfl (by decide) (arm_pilot C hR hi hc hs kk)
    · exact hin 1147 (by omega) rfl (by decide) (arm_trim C hR hi hc hs kk)
    · exact hin 1203 (by omega) rfl (by decide) (arm_steps C hR hi hc hs kk)
    · exact hin 1259 (by omega) rfl (by decide) (arm_fits C hR hi hc hs kk)
    · exact hin 1315 (by omega) rfl (by decide) (arm_look C hR hi hc hs kk)
    · exact hin 1371 (by omega) rfl (by decide) (arm_gusts C hR hi hc hs kk)
    · exact hin 1462 (by omega) rfl (by decide) (arm_bakers C hR hi hc hs kk)
    · exact hin 1542 (by omega) rfl (by decide) (arm_sacks C hR hi hc hs kk)
    · exact hin 1622 (by omega) rfl (by decide) (arm_leagues C hR hi hc hs kk)
    · exact hin 1635 (by omega) rfl (by decide) (arm_key C hR hi hc hs kk)
    · exact hin 1691 (by omega) rfl (by decide) (arm_nearest C hR hi hc hs kk)
    · exact hin 1747 (by omega) rfl (by decide) (arm_sweetest C hR hi hc hs kk)
    · exact hin 1803 (by omega) rfl (by decide) (arm_heaviest C hR hi hc hs kk)
    · exact hin 1859 (by omega) rfl (by decide) (arm_side C hR hi hc hs kk)
    · exact hin 1915 (by omega) rfl (by decide) (arm_room C hR hi hc hs kk)
    · exact hin 1971 (by omega) rfl (by decide) (arm_wreck C hR hi hc hs kk)
    · exact hin 1984 (by omega) rfl (by decide) (arm_cool C hR hi hc hs kk)
    · exact hin 2040 (by omega) rfl (by decide) (arm_safe C hR hi hc hs kk)
    · exact hin 2053 (by omega) rfl (by decide) (arm_season C hR hi hc hs kk)
    · exact hin 2145 (by omega) rfl (by decide) (arm_span C hR hi hc hs kk)
    · exact hin 2249 (by omega) rfl (by decide) (arm_image C hR hi hc hs kk)
    · exact hin 2262 (by omega) rfl (by decide) (arm_restore C hR hi hc hs kk)
    · exact hin 2275 (by omega) rfl (by decide) (arm_status C hR hi hc hs kk)
    · exact hin 2300 (by omega) rfl (by decide) (arm_count C hR hi hc hs kk)
    · have e1 : (nI n).toInt = (n : Int) := nI_toInt (by omega)
      have k9 := lj_wide (Z := Z) (pc := 2365) (lv := lj_b Z i) (st := []) (cells := cells) (slots := slots) (by omega) (by omega) (kk M m9 f hR)
      obtain ⟨p, l, e, s, m, below, meth, c, b, L, xs, X, X', o⟩ := Z
      intro H locs sl h1 h2 h3 hS hl
      exact lv_tableOut C.1.1 C.1.2.1 dL_law__40 (by rw [e1]; omega) (by decide) (k9 H locs sl h1 h2 h3 hS hl)
  have h4 : lj_n Z ≤ 4096 := by
    obtain ⟨p, l, e, s, m, below, meth, c, b, L, xs, X, X', o⟩ := Z
    exact C.2.1.2.2
  obtain ⟨p, l, e, s, m, below, meth, c, b, L, xs, X, X', o⟩ := Z
  have hi : i + 8 ≤ L := hi
  have h4 : L ≤ 4096 := h4
  intro H locs sl h1 h2 h3 hS hl
  refine lv_aload_n C.1.1 C.1.2.1 dL_law__33 rfl (lv_at hl 0 rfl) ?_
  refine lv_iload C.1.1 C.1.2.1 dL_law__34 (lv_at hl 4 rfl) ?_
  refine va_sld C.1.1 C.1.2.1 C.2.1.1 C.2.1.2.1 (A := fun q => s.heap.size ≤ q) (Nat.not_le.mpr C.2.1.2.1) hS (vp_in_nI (by omega) (by omega)) dL_law__36 ?_
  refine lv_bipush (v := 63) C.1.1 C.1.2.1 dL_law__37 rfl ?_
  refine lv_iand C.1.1 C.1.2.1 dL_law__39 ?_
  obtain ⟨n, hn, en⟩ := n64 (xs (nI i).toNatClampNeg)
  rw [en]
  exact sw n hn H locs sl h1 h2 h3 hS hl
theorem lj_loop (C : lj_H Z) : ∀ (n i cells slots : Nat) (M m9 : bc_M) (f : Nat → Int64), lj_n Z ≤ i + 8 * n → i ≤ 4096 → cells + n ≤ 601024 → slots + 6 * n ≤ 7293034 → REL M m9 → lj Z 23 (lj_b Z i) [] M m9 f cells slots := by
  intro n
  induction n with
  | zero =>
    intro i cells slots M m9 f h1 h2 h3 h4 hR
    exact lj_head C h2 (by omega) (by omega) (fun h => by omega)
  | succ n ih =>
    intro i cells slots M m9 f h1 h2 h3 h4 hR
    refine lj_head C h2 (by omega) (by omega) (fun h => ?_)
    refine lj_turn C hR h (by omega) (by omega) (fun ν ξ f' hR' => ?_)
    refine lj_next C ?_
    have h5 : lj_n Z ≤ 4096 := by
      obtain ⟨p, l, e, s, m, below, meth, c, b, L, xs, X, X', o⟩ := Z
      exact C.2.1.2.2
    exact ih (i + 8) (cells + 1) (slots + 6) ν ξ f' (by omega) (by omega) (by omega) (by omega) hR'
end LO
