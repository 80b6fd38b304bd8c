section LK
variable {Z : lj_Z} {pc i cells slots : Nat} {st : List Value} {M m9 : bc_M} {f : Nat → Int64}
/-- what is behind a wrapper's call and the reference's: the ints -/
theorem lj_tail {k x : Int32} {o1 o2 o3 o4 : Int} (C : lj_H Z) (hcc : cells ≤ 601024) (hss : slots ≤ 7293034) (hk : m9 0 0 = k) (h0 : k = 0 → f 0 = x.toInt64)
    (d0 : decode code pc = .ok (.istore 6, 2)) (d2 : decode code (pc + 2) = .ok (.aload_n 2, 1)) (d3 : decode code (pc + 3) = .ok (.invokevirtual 121, 3)) (d6 : decode code (pc + 6) = .ok (.iload 5, 2)) (d8 : decode code (pc + 8) = .ok (.if_icmp .eq o1, 3)) (t8 : ((pc + 8 : Nat) : Int) + o1 = ((pc + 13 : Nat) : Int)) (d13 : decode code (pc + 13) = .ok (.iload 5, 2)) (d15 : decode code (pc + 15) = .ok (.ifCond .ne o2, 3)) (t15 : ((pc + 15 : Nat) : Int) + o2 = ((pc + 30 : Nat) : Int)) (d18 : decode code (pc + 18) = .ok (.aload_n 3, 1)) (d19 : decode code (pc + 19) = .ok (.iconst 0, 1)) (d20 : decode code (pc + 20) = .ok (.laload, 1)) (d21 : decode code (pc + 21) = .ok (.iload 6, 2)) (d23 : decode code (pc + 23) = .ok (.i2l, 1)) (d24 : decode code (pc + 24) = .ok (.lcmp, 1)) (d25 : decode code (pc + 25) = .ok (.ifCond .eq o3, 3)) (t25 : ((pc + 25 : Nat) : Int) + o3 = ((pc + 30 : Nat) : Int)) (d30 : decode code (pc + 30) = .ok (.goto o4, 3)) (t30 : ((pc + 30 : Nat) : Int) + o4 = ((2365 : Nat) : Int))
    (kk : lj Z 2365 (lj_b Z i) [] M m9 f cells slots) : lj Z pc ((5, .int k) :: lj_b Z i) [.int x] M m9 f cells slots := by
  have hend : lj Z (pc + 30) ((6, .int x) :: (5, .int k) :: lj_b Z i) [] M m9 f cells slots := by
    obtain ⟨p, l, e, s, m, below, meth, c, b, L, xs, X, X', o⟩ := Z
    intro H locs sl h1 h2 h3 hS hl
    exact lv_goto C.1.1 C.1.2.1 d30 t30 (kk H locs sl h1 h2 h3 hS (lv_sub hl [2, 3, 4, 5, 6] rfl))
  have hmid : lj Z (pc + 6) ((6, .int x) :: (5, .int k) :: lj_b Z i) [.int k] M m9 f cells slots := by
    obtain ⟨p, l, e, s, m, below, meth, c, b, L, xs, X, X', o⟩ := Z
    intro H locs sl h1 h2 h3 hS hl
    refine lv_iload C.1.1 C.1.2.1 d6 (lv_at hl 1 rfl) ?_
    refine lv_icmp_eq C.1.1 C.1.2.1 d8 t8 (fun _ => ?_) (fun q => absurd rfl q)
    refine lv_iload C.1.1 C.1.2.1 d13 (lv_at hl 1 rfl) ?_
    refine lv_if_ne C.1.1 C.1.2.1 d15 t15 (fun _ => hend H locs sl h1 h2 h3 hS hl) (fun q => ?_)
    have hk0 : k = 0 := q
    refine lv_aload_n C.1.1 C.1.2.1 d18 rfl (lv_at hl 5 rfl) ?_
    refine lv_iconst (v := 0) C.1.1 C.1.2.1 d19 rfl ?_
    refine va_lald (D := X.2.1) (i := 0) C.1.1 C.1.2.1 C.2.2.1.1.1 h3 0 3 rfl rfl vp_in01 d20 ?_
    refine lv_iload C.1.1 C.1.2.1 d21 (lv_at hl 0 rfl) ?_
    refine lv_i2l C.1.1 C.1.2.1 d23 rfl ?_
    refine W.lcmp C.1.1 C.1.2.1 d24 ?_
    refine lv_if_eq C.1.1 C.1.2.1 d25 t25 (fun _ => hend H locs sl h1 h2 h3 hS hl) (fun q => absurd ?_ q)
    rw [show f (Int32.toNatClampNeg 0) = x.toInt64 from h0 hk0]
    simp [lg_cmp]
  have hcall : lj Z (pc + 2) ((6, .int x) :: (5, .int k) :: lj_b Z i) [] M m9 f cells slots := by
    refine lj_al (i := i) (k := 2) C (lj_L.c (lj_L.c lj_L.rf)) 2 rfl d2 ?_
    refine lj_rf (z := mX10_thrown) (as := []) (v := .int k) (B := fun ξ => ξ = m9) C d3 lL_121 qX10_thrown rfl rfl (fun _ => rfl) (fun _ => rfl) rfl (by decide) hcc hss ?_ (fun ξ e => ?_)
    · rw [← hk]; exact t_thrown
    · subst e; exact hmid
  obtain ⟨p, l, e, s, m, below, meth, c, b, L, xs, X, X', o⟩ := Z
  intro H locs sl h1 h2 h3 hS hl
  exact lv_istore C.1.1 C.1.2.1 d0 hl (by decide) rfl (fun sl hl => hcall H locs sl h1 h2 h3 hS hl)
/-- .. the long -/
theorem lj_tailL {k : Int32} {x : Int64} {o1 o2 o3 o4 : Int} (C : lj_H Z) (hcc : cells ≤ 601024) (hss : slots ≤ 7293034) (hk : m9 0 0 = k) (h0 : k = 0 → f 0 = x)
    (d0 : decode code pc = .ok (.lstore 6, 2)) (d2 : decode code (pc + 2) = .ok (.aload_n 2, 1)) (d3 : decode code (pc + 3) = .ok (.invokevirtual 121, 3)) (d6 : decode code (pc + 6) = .ok (.iload 5, 2)) (d8 : decode code (pc + 8) = .ok (.if_icmp .eq o1, 3)) (t8 : ((pc + 8 : Nat) : Int) + o1 = ((pc + 13 : Nat) : Int)) (d13 : decode code (pc + 13) = .ok (.iload 5, 2)) (d15 : decode code (pc + 15) = .ok (.ifCond .ne o2, 3)) (t15 : ((pc + 15 : Nat) : Int) + o2 = ((pc + 29 : Nat) : Int)) (d18 : decode code (pc + 18) = .ok (.aload_n 3, 1)) (d19 : decode code (pc + 19) = .ok (.iconst 0, 1)) (d20 : decode code (pc + 20) = .ok (.laload, 1)) (d21 : decode code (pc + 21) = .ok (.lload 6, 2)) (d24 : decode code (pc + 23) = .ok (.lcmp, 1)) (d25 : decode code (pc + 24) = .ok (.ifCond .eq o3, 3)) (t25 : ((pc + 24 : Nat) : Int) + o3 = ((pc + 29 : Nat) : Int)) (d30 : decode code (pc + 29) = .ok (.goto o4, 3)) (t30 : ((pc + 29 : Nat) : Int) + o4 = ((2365 : Nat) : Int))
    (kk : lj Z 2365 (lj_b Z i) [] M m9 f cells slots) : lj Z pc ((5, .int k) :: lj_b Z i) [.long x] M m9 f cells slots := by
  have hend : lj Z (pc + 29) ((6, .long x) :: (5, .int k) :: lj_b Z i) [] M m9 f cells slots := by
    obtain ⟨p, l, e, s, m, below, meth, c, b, L, xs, X, X', o⟩ := Z
    intro H locs sl h1 h2 h3 hS hl
    exact lv_goto C.1.1 C.1.2.1 d30 t30 (kk H locs sl h1 h2 h3 hS (lv_sub hl [2, 3, 4, 5, 6] rfl))
  have hmid : lj Z (pc + 6) ((6, .long x) :: (5, .int k) :: lj_b Z i) [.int k] M m9 f cells slots := by
    obtain ⟨p, l, e, s, m, below, meth, c, b, L, xs, X, X', o⟩ := Z
    intro H locs sl h1 h2 h3 hS hl
    refine lv_iload C.1.1 C.1.2.1 d6 (lv_at hl 1 rfl) ?_
    refine lv_icmp_eq C.1.1 C.1.2.1 d8 t8 (fun _ => ?_) (fun q => absurd rfl q)
    refine lv_iload C.1.1 C.1.2.1 d13 (lv_at hl 1 rfl) ?_
    refine lv_if_ne C.1.1 C.1.2.1 d15 t15 (fun _ => hend H locs sl h1 h2 h3 hS hl) (fun q => ?_)
    have hk0 : k = 0 := q
    refine lv_aload_n C.1.1 C.1.2.1 d18 rfl (lv_at hl 5 rfl) ?_
    refine lv_iconst (v := 0) C.1.1 C.1.2.1 d19 rfl ?_
    refine va_lald (D := X.2.1) (i := 0) C.1.1 C.1.2.1 C.2.2.1.1.1 h3 0 3 rfl rfl vp_in01 d20 ?_
    refine lv_lload C.1.1 C.1.2.1 d21 (lv_at hl 0 rfl) ?_
    refine W.lcmp C.1.1 C.1.2.1 d24 ?_
    refine lv_if_eq C.1.1 C.1.2.1 d25 t25 (fun _ => hend H locs sl h1 h2 h3 hS hl) (fun q => absurd ?_ q)
    rw [show f (Int32.toNatClampNeg 0) = x from h0 hk0]
    simp [lg_cmp]
  have hcall : lj Z (pc + 2) ((6, .long x) :: (5, .int k) :: lj_b Z i) [] M m9 f cells slots := by
    refine lj_al (i := i) (k := 2) C (lj_L.c (lj_L.c lj_L.rf)) 2 rfl d2 ?_
    refine lj_rf (z := mX10_thrown) (as := []) (v := .int k) (B := fun ξ => ξ = m9) C d3 lL_121 qX10_thrown rfl rfl (fun _ => rfl) (fun _ => rfl) rfl (by decide) hcc hss ?_ (fun ξ e => ?_)
    · rw [← hk]; exact t_thrown
    · subst e; exact hmid
  obtain ⟨p, l, e, s, m, below, meth, c, b, L, xs, X, X', o⟩ := Z
  intro H locs sl h1 h2 h3 hS hl
  exact lv_lstore C.1.1 C.1.2.1 d0 hl (by decide) rfl (fun sl hl => hcall H locs sl h1 h2 h3 hS hl)
theorem lj_is5 {k : Int32} (C : lj_H Z) (d : decode code pc = .ok (.istore 5, 2)) (kk : lj Z (pc + 2) ((5, .int k) :: lj_b Z i) [] M m9 f cells slots) : lj Z pc (lj_b Z i) [.int k] M m9 f cells slots := by
  obtain ⟨p, l, e, s, m, below, meth, c, b, L, xs, X, X', o⟩ := Z
  intro H locs sl h1 h2 h3 hS hl
  exact lv_istore C.1.1 C.1.2.1 d hl (by decide) rfl (fun sl hl => kk H locs sl h1 h2 h3 hS hl)
theorem lj_cmp {x : Int32} {o1 : Int} (C : lj_H Z) (d : decode code pc = .ok (.if_icmp .eq o1, 3)) (t : (pc : Int) + o1 = ((2365 : Nat) : Int)) (kk : lj Z 2365 (lj_b Z i) [] M m9 f cells slots) : lj Z pc (lj_b Z i) [.int x, .int x] M m9 f cells slots := by
  obtain ⟨p, l, e, s, m, below, meth, c, b, L, xs, X, X', o⟩ := Z
  intro H locs sl h1 h2 h3 hS hl
  exact lv_icmp_eq C.1.1 C.1.2.1 d t (fun _ => kk H locs sl h1 h2 h3 hS hl) (fun q => absurd rfl q)
theorem lj_wide {lv : List (Nat × Value)} {c2 s2 : Nat} (h1 : cells ≤ c2) (h2 : slots ≤ s2) (kk : lj Z pc lv st M m9 f c2 s2) : lj Z pc lv st M m9 f cells slots := by
  obtain ⟨p, l, e, s, m, below, meth, c, b, L, xs, X, X', o⟩ := Z
  intro H locs sl g1 g2 g3 hS hl
  exact W.widen h1 h2 (kk H locs sl g1 g2 g3 hS hl)
end LK
