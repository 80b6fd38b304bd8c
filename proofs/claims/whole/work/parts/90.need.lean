/-! the class's own checks, when they throw -/
def eIA : String := "java/lang/IllegalArgumentException"
def eNS : String := "java/util/NoSuchElementException"
section T90
variable {d : Nat} {μ : bc_M}
theorem bx_atIA : ∀ w ∈ vx_atS "BreadCity" 391 "java/lang/IllegalArgumentException" bx_names, w ∈ bc_G ∨ w ∈ bx_B := by decide +kernel
theorem bx_atNS : ∀ w ∈ bx_atX "BreadCity" 398 "java/util/NoSuchElementException" 13 prog_28_method_4_code bx_names, w ∈ bc_G ∨ w ∈ bx_B := by decide +kernel
theorem bx_inIA : Cond.classLink "BreadCity" 387 "java/lang/IllegalArgumentException" ∈ bc_G ∧ Cond.initialized "java/lang/IllegalArgumentException" ∈ bc_G := by decide +kernel
theorem bx_inNS : Cond.classLink "BreadCity" 394 "java/util/NoSuchElementException" ∈ bc_G ∧ Cond.initialized "java/util/NoSuchElementException" ∈ bc_G := by decide +kernel
theorem x_needW {v lo hi : Int32} (g : v < lo ∨ ¬ v ≤ hi) : bc_CX (d + 6) LC mX9_needWithin [.ref 0, .int v, .int lo, .int hi] μ eIA (rfC μ 1) := by
  refine bx_enter (by decide) (Nat.le_of_ble_eq_true rfl) rfl ?_
  have thr : bc_WX (d + 6) LC mX9_needWithin 10 [.ref 0, .int v, .int lo, .int hi] [] μ eIA (rfC μ 1) := by
    refine bx_aload_n dX9_needWithin_10 rfl ?_
    refine bx_dup dX9_needWithin_11 rfl ?_
    refine bx_geti dX9_needWithin_12 fX9_384 (rfl) rfl ?_
    refine bx_iconst (v := 1) dX9_needWithin_15 (by decide) ?_
    refine bx_iadd dX9_needWithin_16 ?_
    refine bx_put dX9_needWithin_17 fX9_384 ftX9 fpX9_13 rfl rfl (rfl) rfl ?_
    exact bx_throw (K := 0) (text := "an argument is out of its range") (by omega) (by decide) bx_inIA.1 bx_inIA.2 (by decide) bx_atIA (by decide) dX9_needWithin_20 dX9_needWithin_23 dX9_needWithin_24 dX9_needWithin_27 dX9_needWithin_30
  refine bx_iload_n dX9_needWithin_0 rfl ?_
  refine bx_iload_n dX9_needWithin_1 rfl ?_
  refine bx_icmp_lt (tgt := 10) dX9_needWithin_2 (by decide) (fun h2 => thr) (fun h2 => ?_)
  refine bx_iload_n dX9_needWithin_5 rfl ?_
  refine bx_iload_n dX9_needWithin_6 rfl ?_
  exact bx_icmp_le (tgt := 31) dX9_needWithin_7 (by decide) (fun h7 => g.elim (fun q => absurd q h2) (fun q => absurd h7 q)) (fun h7 => thr)
theorem x_needT {v b : Int32} (g : v < 0 ∨ ¬ v < b) : bc_CX (d + 6) LC mX9_needThere [.ref 0, .int v, .int b] μ eNS (rfC μ 0) := by
  refine bx_enter (by decide) (Nat.le_of_ble_eq_true rfl) rfl ?_
  have thr : bc_WX (d + 6) LC mX9_needThere 9 [.ref 0, .int v, .int b] [] μ eNS (rfC μ 0) := by
    refine bx_aload_n dX9_needThere_9 rfl ?_
    refine bx_dup dX9_needThere_10 rfl ?_
    refine bx_geti dX9_needThere_11 fX9_381 (rfl) rfl ?_
    refine bx_iconst (v := 1) dX9_needThere_14 (by decide) ?_
    refine bx_iadd dX9_needThere_15 ?_
    refine bx_put dX9_needThere_16 fX9_381 ftX9 fpX9_12 rfl rfl (rfl) rfl ?_
    exact bx_throwX (K := 4) (ix := 13) (rx := prog_28_method_4_code) (by decide +kernel) (by decide +kernel) (by decide +kernel) (by decide +kernel) (text := "there is none of this number") (by omega) (by decide) bx_inNS.1 bx_inNS.2 (by decide) bx_atNS (by decide) dX9_needThere_19 dX9_needThere_22 dX9_needThere_23 dX9_needThere_26 dX9_needThere_29
  refine bx_iload_n dX9_needThere_0 rfl ?_
  refine bx_if_lt (tgt := 9) dX9_needThere_1 (by decide) (fun h1 => thr) (fun h1 => ?_)
  refine bx_iload_n dX9_needThere_4 rfl ?_
  refine bx_iload_n dX9_needThere_5 rfl ?_
  exact bx_icmp_lt (tgt := 30) dX9_needThere_6 (by decide) (fun h6 => g.elim (fun q => absurd q h1) (fun q => absurd h6 q)) (fun h6 => thr)
end T90
