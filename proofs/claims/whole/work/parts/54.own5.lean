/-! BreadCity itself: what changes it -/
section OW5
variable {d : Nat} {μ ν ξ : bc_M} {n no nq nm : Nat}
def arg5 (a b c e f : Int32) : Nat → Int32
  | 0 => a | 1 => b | 2 => c | 3 => e
  | _ => f
def fdS (a b c e f : Int32) (tp : Nat) (μ ν : bc_M) : Prop := (∀ i j, i ≠ 2 → ¬ (i = 1 ∧ j = 1) → ν i j = μ i j) ∧ ν 1 1 = nI (tp + 20) ∧ (∀ j, j < tp → ν 2 j = μ 2 j) ∧ ∀ i, i < 20 → ν 2 (tp + i) = byI (arg5 a b c e f (i / 4)) (i % 4)
theorem s_feedN {tp : Nat} (a b c e f : Int32) (ht : μ 1 1 = nI tp) (htp : tp ≤ 600) (h : 580 < tp) : bc_C d LC mX9_feed [.ref 0, .int a, .int b, .int c, .int e, .int f] μ (fun r ν => r = some (.int (-1)) ∧ ν = μ) := by
  refine bc_enter (by decide) (Nat.le_of_ble_eq_true rfl) rfl ?_
  refine bc_aload_n dX9_feed_0 rfl ?_
  refine bc_getr dX9_feed_1 fX9_10 (rfl) rfl ?_
  refine bc_geti dX9_feed_4 fX9_84 (rfl) rfl ?_
  rw [ht]
  refine bc_bipush (v := 20) dX9_feed_7 (by decide) ?_
  refine bc_iadd dX9_feed_9 ?_
  refine bc_sipush (v := 600) dX9_feed_10 (by decide) ?_
  refine bc_icmp_le (tgt := 18) dX9_feed_13 (by decide) (fun h13 => absurd h13 (by rw [show (20 : Int32) = nI 20 from rfl, show (600 : Int32) = nI 600 from rfl, bn_add, bn_leN (by omega) (by omega)]; omega)) (fun h13 => ?_)
  refine bc_iconst (v := (-1)) dX9_feed_16 (by decide) ?_
  exact bc_ireturn dX9_feed_17 rfl rfl (⟨rfl, rfl⟩)
theorem s_feedY {tp : Nat} (a b c e f : Int32) (ht : μ 1 1 = nI tp) (h : tp ≤ 580) : bc_C (d + 1) LC mX9_feed [.ref 0, .int a, .int b, .int c, .int e, .int f] μ (fun r ν => r = some (.int (nI (tp + 20))) ∧ fdS a b c e f tp μ ν) := by
  refine bc_enter (by decide) (Nat.le_of_ble_eq_true rfl) rfl ?_
  refine bc_aload_n dX9_feed_0 rfl ?_
  refine bc_getr dX9_feed_1 fX9_10 (rfl) rfl ?_
  refine bc_geti dX9_feed_4 fX9_84 (rfl) rfl ?_
  refine bc_bipush (v := 20) dX9_feed_7 (by decide) ?_
  refine bc_iadd dX9_feed_9 ?_
  refine bc_sipush (v := 600) dX9_feed_10 (by decide) ?_
  refine bc_icmp_le (tgt := 18) dX9_feed_13 (by decide) (fun h13 => ?_) (fun h13 => absurd h13 (fun q => q (by rw [ht, show (20 : Int32) = nI 20 from rfl, show (600 : Int32) = nI 600 from rfl, bn_add, bn_leN (by omega) (by omega)]; omega)))
  refine bc_aload_n dX9_feed_18 rfl ?_
  refine bc_getr dX9_feed_19 fX9_10 (rfl) rfl ?_
  refine bc_iload_n dX9_feed_22 rfl ?_
  refine bc_callV (z := mX7_append) (ci := 7) dX9_feed_23 lX9_88 qX7_append (by rfl) (by rfl) (by rfl) (by rfl) (Nat.le_of_ble_eq_true rfl) (s_append ht (by omega) a) (fun r23 μ23 e23 => ?_)
  obtain ⟨rfl, e1⟩ := e23
  refine bc_aload_n dX9_feed_26 rfl ?_
  refine bc_getr dX9_feed_27 fX9_10 (rfl) rfl ?_
  refine bc_iload_n dX9_feed_30 rfl ?_
  refine bc_callV (z := mX7_append) (ci := 7) dX9_feed_31 lX9_88 qX7_append (by rfl) (by rfl) (by rfl) (by rfl) (Nat.le_of_ble_eq_true rfl) (s_append e1.2.1 (by omega) b) (fun r31 μ31 e31 => ?_)
  obtain ⟨rfl, e2⟩ := e31
  refine bc_aload_n dX9_feed_34 rfl ?_
  refine bc_getr dX9_feed_35 fX9_10 (rfl) rfl ?_
  refine bc_iload_n dX9_feed_38 rfl ?_
  refine bc_callV (z := mX7_append) (ci := 7) dX9_feed_39 lX9_88 qX7_append (by rfl) (by rfl) (by rfl) (by rfl) (Nat.le_of_ble_eq_true rfl) (s_append e2.2.1 (by omega) c) (fun r39 μ39 e39 => ?_)
  obtain ⟨rfl, e3⟩ := e39
  refine bc_aload_n dX9_feed_42 rfl ?_
  refine bc_getr dX9_feed_43 fX9_10 (rfl) rfl ?_
  refine bc_iload dX9_feed_46 rfl ?_
  refine bc_callV (z := mX7_append) (ci := 7) dX9_feed_48 lX9_88 qX7_append (by rfl) (by rfl) (by rfl) (by rfl) (Nat.le_of_ble_eq_true rfl) (s_append e3.2.1 (by omega) e) (fun r48 μ48 e48 => ?_)
  obtain ⟨rfl, e4⟩ := e48
  refine bc_aload_n dX9_feed_51 rfl ?_
  refine bc_getr dX9_feed_52 fX9_10 (rfl) rfl ?_
  refine bc_iload dX9_feed_55 rfl ?_
  refine bc_callV (z := mX7_append) (ci := 7) dX9_feed_57 lX9_88 qX7_append (by rfl) (by rfl) (by rfl) (by rfl) (Nat.le_of_ble_eq_true rfl) (s_append e4.2.1 (by omega) f) (fun r57 μ57 e57 => ?_)
  obtain ⟨rfl, e5⟩ := e57
  refine bc_aload_n dX9_feed_60 rfl ?_
  refine bc_getr dX9_feed_61 fX9_10 (rfl) rfl ?_
  refine bc_geti dX9_feed_64 fX9_84 (rfl) rfl ?_
  exact bc_ireturn dX9_feed_67 rfl rfl (by
refine ⟨by rw [e5.2.1], fun i j q1 q2 => ?_, ?_, fun j hj => ?_, fun i hi => ?_⟩
· rw [e5.1 i j q1 q2, e4.1 i j q1 q2, e3.1 i j q1 q2, e2.1 i j q1 q2, e1.1 i j q1 q2]
· rw [e5.2.1]
· rw [e5.2.2.1 j (by omega), e4.2.2.1 j (by omega), e3.2.2.1 j (by omega), e2.2.2.1 j (by omega), e1.2.2.1 j (by omega)]
· by_cases h1 : i < 4
  · rw [e5.2.2.1 _ (by omega), e4.2.2.1 _ (by omega), e3.2.2.1 _ (by omega), e2.2.2.1 _ (by omega), e1.2.2.2 i h1, show i / 4 = 0 by omega, show i % 4 = i by omega]
    rfl
  · by_cases h2 : i < 8
    · rw [e5.2.2.1 _ (by omega), e4.2.2.1 _ (by omega), e3.2.2.1 _ (by omega), show tp + i = tp + 4 + (i - 4) by omega, e2.2.2.2 (i - 4) (by omega), show i / 4 = 1 by omega, show i % 4 = i - 4 by omega]
      rfl
    · by_cases h3 : i < 12
      · rw [e5.2.2.1 _ (by omega), e4.2.2.1 _ (by omega), show tp + i = tp + 4 + 4 + (i - 8) by omega, e3.2.2.2 (i - 8) (by omega), show i / 4 = 2 by omega, show i % 4 = i - 8 by omega]
        rfl
      · by_cases h4 : i < 16
        · rw [e5.2.2.1 _ (by omega), show tp + i = tp + 4 + 4 + 4 + (i - 12) by omega, e4.2.2.2 (i - 12) (by omega), show i / 4 = 3 by omega, show i % 4 = i - 12 by omega]
          rfl
        · rw [show tp + i = tp + 4 + 4 + 4 + 4 + (i - 16) by omega, e5.2.2.2 (i - 16) (by omega), show i / 4 = 4 by omega, show i % 4 = i - 16 by omega]
          rfl)
/-! a text begun -/
theorem bgT_2 : bgT μ n 2 = μ 2 := by unfold bgT; rw [bc_u_i (by decide), bc_u_i (by decide)]
theorem bgT_i {i : Nat} (h : i ≠ 1) : bgT μ n i = μ i := by unfold bgT; rw [bc_u_i h, bc_u_i h]
theorem bgT_n : bgT μ n 1 2 = nI n := bu1
theorem bgT_1 : bgT μ n 1 1 = 0 := by unfold bgT; rw [bu2 (by omega), bu1]
theorem skp_le (t : Nat → Int32) (n : Nat) : skp t n 0 ≤ n := rn_le (Nat.zero_le n)
theorem tq0 (t : Nat → Int32) : tq n (.inr (skp t n 0)) (skp t n 0) 0 (-1) := ⟨rfl, skp_le t n, rfl, rfl⟩
/-- a FAULT: nothing but the text, and the draft that was read into -/
def flS (D : Nat → Nat → Prop) (k q : Nat) (μ : bc_M) : Option Value → bc_M → Prop := fun r ν => r = some (.int (nI k - 10)) ∧ ν 1 1 = 0 ∧ ν 1 6 = nI q ∧ ∀ i j, i ≠ 1 → ¬ D i j → ν i j = μ i j
theorem s_bogE {tp k q : Nat} (ht : μ 1 1 = nI tp) (htp : tp ≤ 600) (hn : n ≤ tp) (hS : (pBg (μ 2) n 61 0 (.inr (skp (μ 2) n 0), bg0)).1 = .inl (k, q)) : bc_C (d + 8) LC mX9_bog [.ref 0, .int (nI n)] μ (flS (fun i _ => 11 ≤ i ∧ i ≤ 18) k q μ) := by
  refine bc_enter (by decide) (Nat.le_of_ble_eq_true rfl) rfl ?_
  refine bc_aload_n dX9_bog_0 rfl ?_
  refine bc_iload_n dX9_bog_1 rfl ?_
  refine bc_sipush (v := 600) dX9_bog_2 (by decide) ?_
  refine bc_callV (z := mX9_needText) (ci := 9) dX9_bog_5 lX9_92 qX9_needText (by rfl) (by rfl) (by rfl) (by rfl) (Nat.le_of_ble_eq_true rfl) (s_needX (b := 600) ht hn (by omega) (by omega) (by omega)) (fun r5 μ5 e5 => ?_)
  obtain ⟨rfl, q5⟩ := e5
  obtain rfl := q5.symm
  refine bc_aload_n dX9_bog_8 rfl ?_
  refine bc_getr dX9_bog_9 fX9_10 (rfl) rfl ?_
  refine bc_iload_n dX9_bog_12 rfl ?_
  refine bc_callV (z := mX7_begin) (ci := 7) dX9_bog_13 lX9_96 qX7_begin (by rfl) (by rfl) (by rfl) (by rfl) (Nat.le_of_ble_eq_true rfl) (s_begin (by omega)) (fun r13 μ13 e13 => ?_)
  obtain ⟨rfl, q13⟩ := e13
  obtain rfl := q13.symm
  refine bc_aload_n dX9_bog_16 rfl ?_
  refine bc_getr dX9_bog_17 fX9_23 (rfl) rfl ?_
  refine bc_aload_n dX9_bog_20 rfl ?_
  refine bc_getr dX9_bog_21 fX9_10 (rfl) rfl ?_
  refine bc_callV (z := mX0_readFrom) (ci := 0) dX9_bog_24 lX9_99 qX0_readFrom (by rfl) (by rfl) (by rfl) (by rfl) (Nat.le_of_ble_eq_true rfl) (s_readFrom (by omega) bgT_n (tq0 (μ 2))) (fun r24 μ24 e24 => ?_)
  obtain ⟨rfl, μ1, a1, k1, f1, q1, rfl, g1, g2, g3⟩ := e24
  refine bc_aload_n dX9_bog_27 rfl ?_
  refine bc_getr dX9_bog_28 fX9_10 (rfl) rfl ?_
  rw [bgT_2, hS] at g2
  have hf := tq_f g2
  refine bc_callV (z := mX7_isSound) (ci := 7) dX9_bog_31 lX9_103 qX7_isSound (by rfl) (by rfl) (by rfl) (by rfl) (Nat.le_of_ble_eq_true rfl) (s_sound) (fun r31 μ31 e31 => ?_)
  obtain ⟨rfl, q31⟩ := e31
  obtain rfl := q31.symm
  rw [if_neg hf]
  refine bc_if_ne (tgt := 48) dX9_bog_34 (by decide) (fun h34 => absurd h34 (by decide)) (fun h34 => ?_)
  refine bc_aload_n dX9_bog_37 rfl ?_
  refine bc_getr dX9_bog_38 fX9_10 (rfl) rfl ?_
  refine bc_geti dX9_bog_41 fX9_107 (rfl) rfl ?_
  refine bc_bipush (v := 10) dX9_bog_44 (by decide) ?_
  refine bc_isub dX9_bog_46 ?_
  exact bc_ireturn dX9_bog_47 rfl rfl (by
refine ⟨by rw [tx_5, g2.2.1], ?_, by rw [tx_6]; exact g2.2.2.1, fun i j h1 hD => ?_⟩
· rw [tx_o _ _ _ _ _ (by decide), g1 1 (by omega)]; exact bgT_1
· rw [tx_i _ _ _ _ _ h1, g1 i (by omega), bgT_i h1])
/-- the city as a bog begins it -/
def bgRow (B : BG) : Row := fun k => if k = 0 then nI B.2.2.2.2.1 else if k = 1 then nI B.2.2.2.2.2.1 else if k = 3 then nI B.2.2.2.2.2.2 else 0
def bokP (B : BG) (μ ν : bc_M) : Prop := bR 3 ν B ∧ (ν 19 1 = nI 7 ∧ ∀ i x, fstL[i]? = some x → ν 20 i = nI x) ∧ (ν 28 1 = 0 ∧ ∀ h, h < 13 → ν 29 h = -1) ∧ (ν 45 1 = 0 ∧ ν 45 5 = 0) ∧ row 31 ν = bgRow B ∧ (ν 0 11 = 0 ∧ ν 117 7 = 0) ∧ (ν 0 12 = μ 0 12 ∧ ν 0 13 = μ 0 13) ∧ ν 1 1 = 0 ∧ ν 1 6 = -1
theorem prR_cg {f g f' g' : Nat → Int32} {l : List (Nat × Nat)} (h : prR f g l) (e : ∀ i, i < l.length → f' i = f i ∧ g' i = g i) : prR f' g' l := fun i z hz => by
  have hi := (List.getElem?_eq_some_iff.mp hz).1
  rw [(e i hi).1, (e i hi).2]
  exact h i z hz
theorem boS.bR {B : BG} (h : boS μ ν) (hb : bR 11 μ B) (hO : bOk B) : bR 3 ν B := by
  obtain ⟨h1, h2, h3, h4, h5⟩ := h
  obtain ⟨⟨b1, b2⟩, ⟨b3, b4⟩, ⟨b5, b6⟩, ⟨b7, b8⟩, b9, b10, b11⟩ := hb
  obtain ⟨o1, o2, o3, o4, -⟩ := hO
  refine ⟨⟨(h2 0 (by omega)).trans b1, prR_cg b2 (fun i hi => ⟨(h3 i (by omega)).1, (h3 i (by omega)).2.1⟩)⟩, ⟨(h2 1 (by omega)).trans b3, prR_cg b4 (fun i hi => h4 i (by omega))⟩, ⟨(h2 2 (by omega)).trans b5, fun y hy => (h5 y hy).trans (b6 y hy)⟩, ⟨(h2 3 (by omega)).trans b7, prR_cg b8 (fun i hi => (h3 i (by omega)).2.2)⟩, (h2 4 (by omega)).trans b9, (h2 5 (by omega)).trans b10, (h2 6 (by omega)).trans b11⟩
theorem bR_eq {b : Nat} {B : BG} (h : ∀ i j, b ≤ i → i ≤ b + 7 → ν i j = μ i j) (hb : bR b μ B) : bR b ν B := by
  have e : ∀ i, b ≤ i → i ≤ b + 7 → ν i = μ i := fun i a c => funext fun j => h i j a c
  unfold bR at hb ⊢
  rw [e b (by omega) (by omega), e (b + 1) (by omega) (by omega), e (b + 2) (by omega) (by omega), e (b + 3) (by omega) (by omega), e (b + 4) (by omega) (by omega), e (b + 5) (by omega) (by omega), e (b + 6) (by omega) (by omega), e (b + 7) (by omega) (by omega)]
  exact hb
theorem bg0_ok : bOk bg0 := by unfold bOk bg0; simp
theorem s_bogOK {tp p : Nat} (ht : μ 1 1 = nI tp) (htp : tp ≤ 600) (hn : n ≤ tp) (hS : (pBg (μ 2) n 61 0 (.inr (skp (μ 2) n 0), bg0)).1 = .inr p) : bc_C (d + 8) LC mX9_bog [.ref 0, .int (nI n)] μ (fun r ν => r = some (.int (nI (pBg (μ 2) n 61 0 (.inr (skp (μ 2) n 0), bg0)).2.2.1.length)) ∧ bokP (pBg (μ 2) n 61 0 (.inr (skp (μ 2) n 0), bg0)).2 μ ν) := by
  have hO : bOk (pBg (μ 2) n 61 0 (.inr (skp (μ 2) n 0), bg0)).2 := pBg_ok 61 0 _ _ p bg0_ok hS
  refine bc_enter (by decide) (Nat.le_of_ble_eq_true rfl) rfl ?_
  refine bc_aload_n dX9_bog_0 rfl ?_
  refine bc_iload_n dX9_bog_1 rfl ?_
  refine bc_sipush (v := 600) dX9_bog_2 (by decide) ?_
  refine bc_callV (z := mX9_needText) (ci := 9) dX9_bog_5 lX9_92 qX9_needText (by rfl) (by rfl) (by rfl) (by rfl) (Nat.le_of_ble_eq_true rfl) (s_needX (b := 600) ht hn (by omega) (by omega) (by omega)) (fun r5 μ5 e5 => ?_)
  obtain ⟨rfl, q5⟩ := e5
  obtain rfl := q5.symm
  refine bc_aload_n dX9_bog_8 rfl ?_
  refine bc_getr dX9_bog_9 fX9_10 (rfl) rfl ?_
  refine bc_iload_n dX9_bog_12 rfl ?_
  refine bc_callV (z := mX7_begin) (ci := 7) dX9_bog_13 lX9_96 qX7_begin (by rfl) (by rfl) (by rfl) (by rfl) (Nat.le_of_ble_eq_true rfl) (s_begin (by omega)) (fun r13 μ13 e13 => ?_)
  obtain ⟨rfl, q13⟩ := e13
  obtain rfl := q13.symm
  refine bc_aload_n dX9_bog_16 rfl ?_
  refine bc_getr dX9_bog_17 fX9_23 (rfl) rfl ?_
  refine bc_aload_n dX9_bog_20 rfl ?_
  refine bc_getr dX9_bog_21 fX9_10 (rfl) rfl ?_
  refine bc_callV (z := mX0_readFrom) (ci := 0) dX9_bog_24 lX9_99 qX0_readFrom (by rfl) (by rfl) (by rfl) (by rfl) (Nat.le_of_ble_eq_true rfl) (s_readFrom (by omega) bgT_n (tq0 (μ 2))) (fun r24 μ24 e24 => ?_)
  obtain ⟨rfl, μ1, a1, k1, f1, q1, rfl, g1, g2, g3⟩ := e24
  refine bc_aload_n dX9_bog_27 rfl ?_
  refine bc_getr dX9_bog_28 fX9_10 (rfl) rfl ?_
  rw [bgT_2] at g2 g3
  have g3 := g3 p hS
  rw [hS] at g2
  generalize (pBg (μ 2) n 61 0 (.inr (skp (μ 2) n 0), bg0)).2 = B at hO g3 ⊢
  have g4 : bR 11 (tx μ1 a1 k1 f1 q1) B := bR_eq (fun i j x y => by rw [tx_i _ _ _ _ _ (by omega)]) g3
  have z1 : tx μ1 a1 k1 f1 q1 1 1 = 0 := by rw [tx_o _ _ _ _ _ (by decide), g1 1 (by omega)]; exact bgT_1
  have z6 : tx μ1 a1 k1 f1 q1 1 6 = -1 := by rw [tx_6]; exact g2.2.2.2
  have z0 : ∀ j, tx μ1 a1 k1 f1 q1 0 j = μ 0 j := fun j => by rw [tx_i _ _ _ _ _ (by omega), g1 0 (by omega), bgT_i (by omega)]
  refine bc_callV (z := mX7_isSound) (ci := 7) dX9_bog_31 lX9_103 qX7_isSound (by rfl) (by rfl) (by rfl) (by rfl) (Nat.le_of_ble_eq_true rfl) (s_sound) (fun r31 μ31 e31 => ?_)
  obtain ⟨rfl, q31⟩ := e31
  obtain rfl := q31.symm
  rw [if_pos g2.2.2.1]
  refine bc_if_ne (tgt := 48) dX9_bog_34 (by decide) (fun h34 => ?_) (fun h34 => absurd h34 (by decide))
  refine bc_aload_n dX9_bog_48 rfl ?_
  refine bc_getr dX9_bog_49 fX9_19 (rfl) rfl ?_
  refine bc_aload_n dX9_bog_52 rfl ?_
  refine bc_getr dX9_bog_53 fX9_23 (rfl) rfl ?_
  refine bc_callV (z := mX0_become) (ci := 0) dX9_bog_56 lX9_110 qX0_become (by rfl) (by rfl) (by rfl) (by rfl) (Nat.le_of_ble_eq_true rfl) (s_bogBecome) (fun r56 μ56 e56 => ?_)
  obtain ⟨rfl, e1⟩ := e56
  have y1 := e1.bR g4 hO
  refine bc_aload_n dX9_bog_59 rfl ?_
  refine bc_getr dX9_bog_60 fX9_29 (rfl) rfl ?_
  refine bc_callVN (z := mX2_becomeFirst) (ci := 2) dX9_bog_63 lX9_113 qX2_becomeFirst (by rfl) (by rfl) (by rfl) (by rfl) (Nat.le_of_ble_eq_true rfl) (s_becomeFirst) (fun r63 μ63 e63 => ?_)
  obtain ⟨rfl, e2, e3, e4⟩ := e63
  refine bc_aload_n dX9_bog_66 rfl ?_
  refine bc_getr dX9_bog_67 fX9_43 (rfl) rfl ?_
  refine bc_callVN (z := mX3_forget) (ci := 3) dX9_bog_70 lX9_116 qX3_forget (by rfl) (by rfl) (by rfl) (by rfl) (Nat.le_of_ble_eq_true rfl) (s_kForget) (fun r70 μ70 e70 => ?_)
  obtain ⟨rfl, e5, e6, e7⟩ := e70
  refine bc_aload_n dX9_bog_73 rfl ?_
  refine bc_getr dX9_bog_74 fX9_62 (rfl) rfl ?_
  refine bc_callV (z := mX4_forget) (ci := 4) dX9_bog_77 lX9_119 qX4_forget (by rfl) (by rfl) (by rfl) (by rfl) (Nat.le_of_ble_eq_true rfl) (s_pastForget) (fun r77 μ77 e77 => ?_)
  obtain ⟨rfl, q77⟩ := e77
  obtain rfl := q77.symm
  refine bc_aload_n dX9_bog_80 rfl ?_
  refine bc_getr dX9_bog_81 fX9_52 (rfl) rfl ?_
  refine bc_callVN (z := mX1_beginNight) (ci := 1) dX9_bog_84 lX9_120 qX1_beginNight (by rfl) (by rfl) (by rfl) (by rfl) (Nat.le_of_ble_eq_true rfl) (s_beginNight LC_g31 (by decide)) (fun r84 μ84 e84 => ?_)
  obtain ⟨rfl, e8⟩ := e84
  refine bc_aload_n dX9_bog_87 rfl ?_
  refine bc_callV (z := mX9_noteChange) (ci := 9) dX9_bog_88 lX9_123 qX9_noteChange (by rfl) (by rfl) (by rfl) (by rfl) (Nat.le_of_ble_eq_true rfl) (s_noteChange) (fun r88 μ88 e88 => ?_)
  obtain ⟨rfl, q88⟩ := e88
  obtain rfl := q88.symm
  refine bc_aload_n dX9_bog_91 rfl ?_
  refine bc_getr dX9_bog_92 fX9_19 (rfl) rfl ?_
  refine bc_geti dX9_bog_95 fX9_126 (rfl) rfl ?_
  exact bc_ireturn dX9_bog_98 rfl rfl (by
have w1 : ∀ i j, i ≠ 0 → i ≠ 117 → bc_u (bc_u μ84 0 11 0) 117 7 0 i j = μ84 i j := fun i j a b => by rw [bu2 (by omega), bu2 (by omega)]
have w2 : ∀ i j, ¬ (i = 31 ∧ 2 ≤ j ∧ j ≤ 7) → i ≠ 32 → i ≠ 33 → i ≠ 34 → i ≠ 45 → μ84 i j = μ70 i j := fun i j a b c e f => by rw [e8.1 i j a b c e, bu2 (by omega), bu2 (by omega)]
have w3 : ∀ i j, 3 ≤ i → i ≤ 10 → μ84 i j = μ56 i j := fun i j a b => by rw [w2 i j (by omega) (by omega) (by omega) (by omega) (by omega), e5 i j (by omega) (by omega) (by omega), e2 i j (by omega) (by omega) (by omega)]
have w4 : ∀ i j, i = 0 ∨ i = 1 → μ84 i j = tx μ1 a1 k1 f1 q1 i j := fun i j a => by rw [w2 i j (by omega) (by omega) (by omega) (by omega) (by omega), e5 i j (by omega) (by omega) (by omega), e2 i j (by omega) (by omega) (by omega), e1.1 i j (by omega) (by omega)]
have y2 : bR 3 μ84 B := bR_eq (fun i j a b => w3 i j (by omega) (by omega)) y1
have v3 : ∀ j, bc_u (bc_u μ70 45 1 0) 45 5 0 3 j = μ84 3 j := fun j => by rw [bu2 (by omega), bu2 (by omega)]; exact (w2 3 j (by omega) (by omega) (by omega) (by omega) (by omega)).symm
refine ⟨by rw [w1 3 1 (by omega) (by omega), y2.2.1.1], bR_eq (fun i j a b => w1 i j (by omega) (by omega)) y2, ⟨?_, fun i x hx => ?_⟩, ⟨?_, fun h hh => ?_⟩, ⟨?_, ?_⟩, row_ext (fun k hk => ?_) (fun k hk => ?_) (fun k hk => ?_) (fun k hk => ?_) (fun k hk => ?_), ⟨?_, bu1⟩, ⟨?_, ?_⟩, ?_, ?_⟩
· rw [w1 19 1 (by omega) (by omega), w2 19 1 (by omega) (by omega) (by omega) (by omega) (by omega), e5 19 1 (by omega) (by omega) (by omega)]; exact e3
· rw [w1 20 i (by omega) (by omega), w2 20 i (by omega) (by omega) (by omega) (by omega) (by omega), e5 20 i (by omega) (by omega) (by omega)]; exact e4 i x hx
· rw [w1 28 1 (by omega) (by omega), w2 28 1 (by omega) (by omega) (by omega) (by omega) (by omega)]; exact e6
· rw [w1 29 h (by omega) (by omega), w2 29 h (by omega) (by omega) (by omega) (by omega) (by omega)]; exact e7 h hh
· rw [w1 45 1 (by omega) (by omega), e8.1 45 1 (by omega) (by omega) (by omega) (by omega), bu2 (by omega), bu1]
· rw [w1 45 5 (by omega) (by omega), e8.1 45 5 (by omega) (by omega) (by omega) (by omega), bu1]
· rw [w1 31 _ (by omega) (by omega)]
  have hc : k = 0 ∨ k = 1 ∨ k = 2 ∨ k = 3 ∨ k = 4 ∨ k = 5 := by omega
  rcases hc with rfl | rfl | rfl | rfl | rfl | rfl
  · rw [e8.2.1, v3, y2.2.2.2.2.1]; rfl
  · rw [e8.2.2.1, v3, y2.2.2.2.2.2.1]; rfl
  · rw [e8.2.2.2.2.1]; rfl
  · rw [e8.2.2.2.1, v3, y2.2.2.2.2.2.2]; rfl
  · rw [e8.2.2.2.2.2.1]; rfl
  · rw [e8.2.2.2.2.2.2.1]; rfl
· rw [w1 _ _ (by omega) (by omega), e8.2.2.2.2.2.2.2.1 k hk]; unfold bgRow; rw [if_neg (by omega), if_neg (by omega), if_neg (by omega)]
· rw [w1 _ _ (by omega) (by omega), e8.2.2.2.2.2.2.2.2.1 k hk]; unfold bgRow; rw [if_neg (by omega), if_neg (by omega), if_neg (by omega)]
· rw [w1 _ _ (by omega) (by omega), e8.2.2.2.2.2.2.2.2.2 k hk]; unfold bgRow; rw [if_neg (by omega), if_neg (by omega), if_neg (by omega)]
· unfold bgRow; rw [if_neg (by omega), if_neg (by omega), if_neg (by omega)]
· rw [bu2 (by omega), bu1]
· rw [bu2 (by omega), bu2 (by omega), w4 0 12 (by omega), z0]
· rw [bu2 (by omega), bu2 (by omega), w4 0 13 (by omega), z0]
· rw [w1 1 1 (by omega) (by omega), w4 1 1 (by omega), z1]
· rw [w1 1 6 (by omega) (by omega), w4 1 6 (by omega), z6])
theorem s_lawE {tp k q : Nat} (ht : μ 1 1 = nI tp) (htp : tp ≤ 600) (hn : n ≤ tp) (hn2 : n ≤ 150) (hS : (pLaw (μ 2) n (skp (μ 2) n 0)).1 = .inl (k, q)) : bc_C (d + 38) LC mX9_law [.ref 0, .int (nI n)] μ (flS (fun i j => (i = 19 ∧ j = 3) ∨ i = 21) k q μ) := by
  refine bc_enter (by decide) (Nat.le_of_ble_eq_true rfl) rfl ?_
  refine bc_aload_n dX9_law_0 rfl ?_
  refine bc_iload_n dX9_law_1 rfl ?_
  refine bc_sipush (v := 150) dX9_law_2 (by decide) ?_
  refine bc_callV (z := mX9_needText) (ci := 9) dX9_law_5 lX9_92 qX9_needText (by rfl) (by rfl) (by rfl) (by rfl) (Nat.le_of_ble_eq_true rfl) (s_needX (b := 150) ht hn (by omega) (by omega) (by omega)) (fun r5 μ5 e5 => ?_)
  obtain ⟨rfl, q5⟩ := e5
  obtain rfl := q5.symm
  refine bc_aload_n dX9_law_8 rfl ?_
  refine bc_getr dX9_law_9 fX9_10 (rfl) rfl ?_
  refine bc_iload_n dX9_law_12 rfl ?_
  refine bc_callV (z := mX7_begin) (ci := 7) dX9_law_13 lX9_96 qX7_begin (by rfl) (by rfl) (by rfl) (by rfl) (Nat.le_of_ble_eq_true rfl) (s_begin (by omega)) (fun r13 μ13 e13 => ?_)
  obtain ⟨rfl, q13⟩ := e13
  obtain rfl := q13.symm
  refine bc_aload_n dX9_law_16 rfl ?_
  refine bc_getr dX9_law_17 fX9_29 (rfl) rfl ?_
  refine bc_aload_n dX9_law_20 rfl ?_
  refine bc_getr dX9_law_21 fX9_10 (rfl) rfl ?_
  refine bc_callV (z := mX2_readFrom) (ci := 2) dX9_law_24 lX9_129 qX2_readFrom (by rfl) (by rfl) (by rfl) (by rfl) (Nat.le_of_ble_eq_true rfl) (s_lawFrom hn2 bgT_n (tq0 (μ 2))) (fun r24 μ24 e24 => ?_)
  obtain ⟨rfl, μ1, a1, k1, f1, q1, rfl, g1, g2, g3⟩ := e24
  refine bc_aload_n dX9_law_27 rfl ?_
  refine bc_getr dX9_law_28 fX9_10 (rfl) rfl ?_
  rw [bgT_2, hS] at g2
  have hf := tq_f g2
  refine bc_callV (z := mX7_isSound) (ci := 7) dX9_law_31 lX9_103 qX7_isSound (by rfl) (by rfl) (by rfl) (by rfl) (Nat.le_of_ble_eq_true rfl) (s_sound) (fun r31 μ31 e31 => ?_)
  obtain ⟨rfl, q31⟩ := e31
  obtain rfl := q31.symm
  rw [if_neg hf]
  refine bc_if_ne (tgt := 48) dX9_law_34 (by decide) (fun h34 => absurd h34 (by decide)) (fun h34 => ?_)
  refine bc_aload_n dX9_law_37 rfl ?_
  refine bc_getr dX9_law_38 fX9_10 (rfl) rfl ?_
  refine bc_geti dX9_law_41 fX9_107 (rfl) rfl ?_
  refine bc_bipush (v := 10) dX9_law_44 (by decide) ?_
  refine bc_isub dX9_law_46 ?_
  exact bc_ireturn dX9_law_47 rfl rfl (by
refine ⟨by rw [tx_5, g2.2.1], ?_, by rw [tx_6]; exact g2.2.2.1, fun i j h1 hD => ?_⟩
· rw [tx_o _ _ _ _ _ (by decide), g1.1 1 (by omega) (by omega)]; exact bgT_1
· rw [tx_i _ _ _ _ _ h1]
  by_cases h19 : i = 19
  · subst h19; rw [g1.2 j (by omega), bgT_i h1]
  · rw [g1.1 i h19 (by omega), bgT_i h1])
def lokP (l : List Nat) (μ ν : bc_M) : Prop := (∀ i j, i ≠ 1 → ¬ (i = 19 ∧ (j = 1 ∨ j = 3)) → i ≠ 20 → i ≠ 21 → ¬ (i = 117 ∧ j = 7) → ν i j = μ i j) ∧ (ν 19 1 = nI l.length ∧ ∀ i x, l[i]? = some x → ν 20 i = nI x) ∧ ν 117 7 = 0 ∧ ν 1 1 = 0 ∧ ν 1 6 = -1
theorem s_lawOK {tp p : Nat} (ht : μ 1 1 = nI tp) (htp : tp ≤ 600) (hn : n ≤ tp) (hn2 : n ≤ 150) (hS : (pLaw (μ 2) n (skp (μ 2) n 0)).1 = .inr p) (hl : (pLaw (μ 2) n (skp (μ 2) n 0)).2.length ≤ 150) : bc_C (d + 38) LC mX9_law [.ref 0, .int (nI n)] μ (fun r ν => r = some (.int 1) ∧ lokP (pLaw (μ 2) n (skp (μ 2) n 0)).2 μ ν) := by
  refine bc_enter (by decide) (Nat.le_of_ble_eq_true rfl) rfl ?_
  refine bc_aload_n dX9_law_0 rfl ?_
  refine bc_iload_n dX9_law_1 rfl ?_
  refine bc_sipush (v := 150) dX9_law_2 (by decide) ?_
  refine bc_callV (z := mX9_needText) (ci := 9) dX9_law_5 lX9_92 qX9_needText (by rfl) (by rfl) (by rfl) (by rfl) (Nat.le_of_ble_eq_true rfl) (s_needX (b := 150) ht hn (by omega) (by omega) (by omega)) (fun r5 μ5 e5 => ?_)
  obtain ⟨rfl, q5⟩ := e5
  obtain rfl := q5.symm
  refine bc_aload_n dX9_law_8 rfl ?_
  refine bc_getr dX9_law_9 fX9_10 (rfl) rfl ?_
  refine bc_iload_n dX9_law_12 rfl ?_
  refine bc_callV (z := mX7_begin) (ci := 7) dX9_law_13 lX9_96 qX7_begin (by rfl) (by rfl) (by rfl) (by rfl) (Nat.le_of_ble_eq_true rfl) (s_begin (by omega)) (fun r13 μ13 e13 => ?_)
  obtain ⟨rfl, q13⟩ := e13
  obtain rfl := q13.symm
  refine bc_aload_n dX9_law_16 rfl ?_
  refine bc_getr dX9_law_17 fX9_29 (rfl) rfl ?_
  refine bc_aload_n dX9_law_20 rfl ?_
  refine bc_getr dX9_law_21 fX9_10 (rfl) rfl ?_
  refine bc_callV (z := mX2_readFrom) (ci := 2) dX9_law_24 lX9_129 qX2_readFrom (by rfl) (by rfl) (by rfl) (by rfl) (Nat.le_of_ble_eq_true rfl) (s_lawFrom hn2 bgT_n (tq0 (μ 2))) (fun r24 μ24 e24 => ?_)
  obtain ⟨rfl, μ1, a1, k1, f1, q1, rfl, g1, g2, g3⟩ := e24
  refine bc_aload_n dX9_law_27 rfl ?_
  refine bc_getr dX9_law_28 fX9_10 (rfl) rfl ?_
  rw [bgT_2] at g2 g3
  have g3 := g3 p hS
  rw [hS] at g2
  generalize (pLaw (μ 2) n (skp (μ 2) n 0)).2 = l at hl g3 ⊢
  refine bc_callV (z := mX7_isSound) (ci := 7) dX9_law_31 lX9_103 qX7_isSound (by rfl) (by rfl) (by rfl) (by rfl) (Nat.le_of_ble_eq_true rfl) (s_sound) (fun r31 μ31 e31 => ?_)
  obtain ⟨rfl, q31⟩ := e31
  obtain rfl := q31.symm
  rw [if_pos g2.2.2.1]
  refine bc_if_ne (tgt := 48) dX9_law_34 (by decide) (fun h34 => ?_) (fun h34 => absurd h34 (by decide))
  refine bc_aload_n dX9_law_48 rfl ?_
  refine bc_getr dX9_law_49 fX9_29 (rfl) rfl ?_
  refine bc_callV (z := mX2_adopt) (ci := 2) dX9_law_52 lX9_130 qX2_adopt (by rfl) (by rfl) (by rfl) (by rfl) (Nat.le_of_ble_eq_true rfl) (s_adopt LC_w) (fun r52 μ52 e52 => ?_)
  obtain ⟨rfl, q52⟩ := e52
  obtain rfl := q52.symm
  refine bc_aload_n dX9_law_55 rfl ?_
  refine bc_getr dX9_law_56 fX9_71 (rfl) rfl ?_
  refine bc_callV (z := mX8_forget) (ci := 8) dX9_law_59 lX9_133 qX8_forget (by rfl) (by rfl) (by rfl) (by rfl) (Nat.le_of_ble_eq_true rfl) (s_tforget) (fun r59 μ59 e59 => ?_)
  obtain ⟨rfl, q59⟩ := e59
  obtain rfl := q59.symm
  refine bc_iconst (v := 1) dX9_law_62 (by decide) ?_
  exact bc_ireturn dX9_law_63 rfl rfl (by
have w1 : ∀ i j, i ≠ 1 → ¬ (i = 19 ∧ j = 3) → i ≠ 21 → tx μ1 a1 k1 f1 q1 i j = μ i j := fun i j h1 h3 h4 => by
  rw [tx_i _ _ _ _ _ h1]
  by_cases h19 : i = 19
  · subst h19; rw [g1.2 j (by omega), bgT_i h1]
  · rw [g1.1 i h19 h4, bgT_i h1]
have w2 : ∀ i j, i ≠ 20 → ¬ (i = 19 ∧ j = 1) → ¬ (i = 117 ∧ j = 7) → bc_u (bc_u (bc_us (tx μ1 a1 k1 f1 q1) (19 + 1) (va_cpy (tx μ1 a1 k1 f1 q1 (19 + 2)) (tx μ1 a1 k1 f1 q1 (19 + 1)) 0 0 150)) 19 1 (tx μ1 a1 k1 f1 q1 19 3)) 117 7 0 i j = tx μ1 a1 k1 f1 q1 i j := fun i j h1 h2 h3 => by
  rw [bu2 h3, bu2 h2, bc_us_r, if_neg (by omega)]
refine ⟨rfl, fun i j h1 h2 h3 h4 h5 => ?_, ⟨?_, fun i x hx => ?_⟩, bu1, ?_, ?_⟩
· rw [w2 i j h3 (by omega) h5, w1 i j h1 (by omega) h4]
· rw [bu2 (by omega), bu1, tx_i _ _ _ _ _ (by omega)]; exact g3.1
· have hi := (List.getElem?_eq_some_iff.mp hx).1
  rw [bu2 (by omega), bu2 (by omega), bc_us_r, if_pos rfl, pk_cpy_in (by omega) (by omega), tx_i _ _ _ _ _ (by omega), show 0 + (i - 0) = i by omega]
  exact g3.2 i x hx
· rw [w2 1 1 (by omega) (by omega) (by omega), tx_o _ _ _ _ _ (by decide), g1.1 1 (by omega) (by omega)]; exact bgT_1
· rw [w2 1 6 (by omega) (by omega) (by omega), tx_6]; exact g2.2.2.2)
theorem s_bookE {tp k q : Nat} (ht : μ 1 1 = nI tp) (htp : tp ≤ 600) (hn : n ≤ tp) (hn2 : n ≤ 60) (hS : (pBk (μ 2) n 7 (.inr (skp (μ 2) n 0), bk0)).1 = .inl (k, q)) : bc_C (d + 6) LC mX9_book [.ref 0, .int (nI n)] μ (flS (fun i j => (i = 28 ∧ j = 3) ∨ i = 30) k q μ) := by
  refine bc_enter (by decide) (Nat.le_of_ble_eq_true rfl) rfl ?_
  refine bc_aload_n dX9_book_0 rfl ?_
  refine bc_iload_n dX9_book_1 rfl ?_
  refine bc_bipush (v := 60) dX9_book_2 (by decide) ?_
  refine bc_callV (z := mX9_needText) (ci := 9) dX9_book_4 lX9_92 qX9_needText (by rfl) (by rfl) (by rfl) (by rfl) (Nat.le_of_ble_eq_true rfl) (s_needX (b := 60) ht hn (by omega) (by omega) (by omega)) (fun r4 μ4 e4 => ?_)
  obtain ⟨rfl, q4⟩ := e4
  obtain rfl := q4.symm
  refine bc_aload_n dX9_book_7 rfl ?_
  refine bc_getr dX9_book_8 fX9_10 (rfl) rfl ?_
  refine bc_iload_n dX9_book_11 rfl ?_
  refine bc_callV (z := mX7_begin) (ci := 7) dX9_book_12 lX9_96 qX7_begin (by rfl) (by rfl) (by rfl) (by rfl) (Nat.le_of_ble_eq_true rfl) (s_begin (by omega)) (fun r12 μ12 e12 => ?_)
  obtain ⟨rfl, q12⟩ := e12
  obtain rfl := q12.symm
  refine bc_aload_n dX9_book_15 rfl ?_
  refine bc_getr dX9_book_16 fX9_43 (rfl) rfl ?_
  refine bc_aload_n dX9_book_19 rfl ?_
  refine bc_getr dX9_book_20 fX9_10 (rfl) rfl ?_
  refine bc_callV (z := mX3_readFrom) (ci := 3) dX9_book_23 lX9_163 qX3_readFrom (by rfl) (by rfl) (by rfl) (by rfl) (Nat.le_of_ble_eq_true rfl) (s_bookFrom (by omega) bgT_n (tq0 (μ 2))) (fun r23 μ23 e23 => ?_)
  obtain ⟨rfl, μ1, a1, k1, f1, q1, rfl, g1, g2, g3⟩ := e23
  refine bc_aload_n dX9_book_26 rfl ?_
  refine bc_getr dX9_book_27 fX9_10 (rfl) rfl ?_
  rw [bgT_2, hS] at g2
  have hf := tq_f g2
  refine bc_callV (z := mX7_isSound) (ci := 7) dX9_book_30 lX9_103 qX7_isSound (by rfl) (by rfl) (by rfl) (by rfl) (Nat.le_of_ble_eq_true rfl) (s_sound) (fun r30 μ30 e30 => ?_)
  obtain ⟨rfl, q30⟩ := e30
  obtain rfl := q30.symm
  rw [if_neg hf]
  refine bc_if_ne (tgt := 47) dX9_book_33 (by decide) (fun h33 => absurd h33 (by decide)) (fun h33 => ?_)
  refine bc_aload_n dX9_book_36 rfl ?_
  refine bc_getr dX9_book_37 fX9_10 (rfl) rfl ?_
  refine bc_geti dX9_book_40 fX9_107 (rfl) rfl ?_
  refine bc_bipush (v := 10) dX9_book_43 (by decide) ?_
  refine bc_isub dX9_book_45 ?_
  exact bc_ireturn dX9_book_46 rfl rfl (by
refine ⟨by rw [tx_5, g2.2.1], ?_, by rw [tx_6]; exact g2.2.2.1, fun i j h1 hD => ?_⟩
· rw [tx_o _ _ _ _ _ (by decide), g1.1 1 (by omega) (by omega)]; exact bgT_1
· rw [tx_i _ _ _ _ _ h1]
  by_cases h28 : i = 28
  · subst h28; rw [g1.2 j (by omega), bgT_i h1]
  · rw [g1.1 i h28 (by omega), bgT_i h1])
def kokP (B : BK) (μ ν : bc_M) : Prop := (∀ i j, i ≠ 1 → ¬ (i = 28 ∧ (j = 1 ∨ j = 3)) → i ≠ 29 → i ≠ 30 → ν i j = μ i j) ∧ (ν 28 1 = nI B.1 ∧ ∀ h, h < 13 → ν 29 h = B.2 h) ∧ ν 1 1 = 0 ∧ ν 1 6 = -1
theorem s_bookOK {tp p : Nat} (ht : μ 1 1 = nI tp) (htp : tp ≤ 600) (hn : n ≤ tp) (hn2 : n ≤ 60) (hS : (pBk (μ 2) n 7 (.inr (skp (μ 2) n 0), bk0)).1 = .inr p) : bc_C (d + 6) LC mX9_book [.ref 0, .int (nI n)] μ (fun r ν => r = some (.int (nI (pBk (μ 2) n 7 (.inr (skp (μ 2) n 0), bk0)).2.1)) ∧ kokP (pBk (μ 2) n 7 (.inr (skp (μ 2) n 0), bk0)).2 μ ν) := by
  refine bc_enter (by decide) (Nat.le_of_ble_eq_true rfl) rfl ?_
  refine bc_aload_n dX9_book_0 rfl ?_
  refine bc_iload_n dX9_book_1 rfl ?_
  refine bc_bipush (v := 60) dX9_book_2 (by decide) ?_
  refine bc_callV (z := mX9_needText) (ci := 9) dX9_book_4 lX9_92 qX9_needText (by rfl) (by rfl) (by rfl) (by rfl) (Nat.le_of_ble_eq_true rfl) (s_needX (b := 60) ht hn (by omega) (by omega) (by omega)) (fun r4 μ4 e4 => ?_)
  obtain ⟨rfl, q4⟩ := e4
  obtain rfl := q4.symm
  refine bc_aload_n dX9_book_7 rfl ?_
  refine bc_getr dX9_book_8 fX9_10 (rfl) rfl ?_
  refine bc_iload_n dX9_book_11 rfl ?_
  refine bc_callV (z := mX7_begin) (ci := 7) dX9_book_12 lX9_96 qX7_begin (by rfl) (by rfl) (by rfl) (by rfl) (Nat.le_of_ble_eq_true rfl) (s_begin (by omega)) (fun r12 μ12 e12 => ?_)
  obtain ⟨rfl, q12⟩ := e12
  obtain rfl := q12.symm
  refine bc_aload_n dX9_book_15 rfl ?_
  refine bc_getr dX9_book_16 fX9_43 (rfl) rfl ?_
  refine bc_aload_n dX9_book_19 rfl ?_
  refine bc_getr dX9_book_20 fX9_10 (rfl) rfl ?_
  refine bc_callV (z := mX3_readFrom) (ci := 3) dX9_book_23 lX9_163 qX3_readFrom (by rfl) (by rfl) (by rfl) (by rfl) (Nat.le_of_ble_eq_true rfl) (s_bookFrom (by omega) bgT_n (tq0 (μ 2))) (fun r23 μ23 e23 => ?_)
  obtain ⟨rfl, μ1, a1, k1, f1, q1, rfl, g1, g2, g3⟩ := e23
  refine bc_aload_n dX9_book_26 rfl ?_
  refine bc_getr dX9_book_27 fX9_10 (rfl) rfl ?_
  rw [bgT_2] at g2 g3
  have g3 := g3 p hS
  rw [hS] at g2
  generalize (pBk (μ 2) n 7 (.inr (skp (μ 2) n 0), bk0)).2 = B at g3 ⊢
  refine bc_callV (z := mX7_isSound) (ci := 7) dX9_book_30 lX9_103 qX7_isSound (by rfl) (by rfl) (by rfl) (by rfl) (Nat.le_of_ble_eq_true rfl) (s_sound) (fun r30 μ30 e30 => ?_)
  obtain ⟨rfl, q30⟩ := e30
  obtain rfl := q30.symm
  rw [if_pos g2.2.2.1]
  refine bc_if_ne (tgt := 47) dX9_book_33 (by decide) (fun h33 => ?_) (fun h33 => absurd h33 (by decide))
  refine bc_aload_n dX9_book_47 rfl ?_
  refine bc_getr dX9_book_48 fX9_43 (rfl) rfl ?_
  refine bc_callV (z := mX3_adopt) (ci := 3) dX9_book_51 lX9_164 qX3_adopt (by rfl) (by rfl) (by rfl) (by rfl) (Nat.le_of_ble_eq_true rfl) (s_kAdopt) (fun r51 μ51 e51 => ?_)
  obtain ⟨rfl, e1, e2, e3⟩ := e51
  refine bc_aload_n dX9_book_54 rfl ?_
  refine bc_getr dX9_book_55 fX9_43 (rfl) rfl ?_
  refine bc_geti dX9_book_58 fX9_165 (rfl) rfl ?_
  exact bc_ireturn dX9_book_61 rfl rfl (by
have w1 : ∀ i j, i ≠ 1 → ¬ (i = 28 ∧ j = 3) → i ≠ 30 → tx μ1 a1 k1 f1 q1 i j = μ i j := fun i j h1 h3 h4 => by
  rw [tx_i _ _ _ _ _ h1]
  by_cases h28 : i = 28
  · subst h28; rw [g1.2 j (by omega), bgT_i h1]
  · rw [g1.1 i h28 h4, bgT_i h1]
have e4 : μ51 28 1 = nI B.1 := by rw [e2, tx_i _ _ _ _ _ (by omega)]; exact g3.1
refine ⟨by rw [e4], fun i j h1 h2 h3 h4 => ?_, ⟨e4, fun h hh => ?_⟩, ?_, ?_⟩
· rw [e1 i j h3 (by omega), w1 i j h1 (by omega) h4]
· rw [e3 h hh, tx_i _ _ _ _ _ (by omega)]; exact g3.2 h hh
· rw [e1 1 1 (by omega) (by omega), tx_o _ _ _ _ _ (by decide), g1.1 1 (by omega) (by omega)]; exact bgT_1
· rw [e1 1 6 (by omega) (by omega), tx_6]; exact g2.2.2.2)
/-! undo, image, restore -/
theorem s_undoN (hw : μ 45 1 = 0) : bc_C d LC mX9_undo [.ref 0] μ (fun r ν => r = some (.int (-1)) ∧ ν = μ) := by
  refine bc_enter (by decide) (Nat.le_of_ble_eq_true rfl) rfl ?_
  refine bc_aload_n dX9_undo_0 rfl ?_
  refine bc_getr dX9_undo_1 fX9_62 (rfl) rfl ?_
  refine bc_geti dX9_undo_4 fX9_134 (rfl) rfl ?_
  refine bc_if_gt (tgt := 12) dX9_undo_7 (by decide) (fun h7 => absurd h7 (by rw [hw]; decide)) (fun h7 => ?_)
  refine bc_iconst (v := (-1)) dX9_undo_10 (by decide) ?_
  exact bc_ireturn dX9_undo_11 rfl rfl (⟨rfl, rfl⟩)
def undP (k : Nat) (μ ν : bc_M) : Prop := (∀ i j, ¬ (i = 31 ∧ 2 ≤ j ∧ j ≤ 7) → i ≠ 32 → i ≠ 33 → i ≠ 34 → ¬ (i = 45 ∧ j = 1) → ¬ (i = 0 ∧ j = 11) → ¬ (i = 117 ∧ j = 7) → ν i j = μ i j) ∧ ν 45 1 = nI k ∧ ν 0 11 = 0 ∧ ν 117 7 = 0 ∧ ∀ j, j < 28 → row 31 ν j = μ (47 + k) j
theorem svR_row {k : Nat} (hk : k < 28) : svR μ k = row 31 μ k := by
  unfold svR row
  by_cases h : k < 6
  · rw [if_pos h, if_pos h]
    have hc : k = 0 ∨ k = 1 ∨ k = 2 ∨ k = 3 ∨ k = 4 ∨ k = 5 := by omega
    rcases hc with rfl | rfl | rfl | rfl | rfl | rfl <;> rfl
  · rw [if_neg h, if_neg h]
    by_cases h1 : k < 14
    · rw [if_pos h1, if_pos h1]
    · rw [if_neg h1, if_neg h1]
      by_cases h2 : k < 22
      · rw [if_pos h2, if_pos h2]
      · rw [if_neg h2, if_neg h2, if_pos hk]
theorem s_undoY {k : Nat} (hk : k < 16) (hw : μ 45 1 = nI (k + 1)) : bc_C (d + 3) LC mX9_undo [.ref 0] μ (fun r ν => r = some (.int (nI k)) ∧ undP k μ ν) := by
  refine bc_enter (by decide) (Nat.le_of_ble_eq_true rfl) rfl ?_
  refine bc_aload_n dX9_undo_0 rfl ?_
  refine bc_getr dX9_undo_1 fX9_62 (rfl) rfl ?_
  refine bc_geti dX9_undo_4 fX9_134 (rfl) rfl ?_
  refine bc_if_gt (tgt := 12) dX9_undo_7 (by decide) (fun h7 => ?_) (fun h7 => absurd h7 (fun q => q (by rw [hw]; exact nlt (k := 0) (by omega) (by omega))))
  refine bc_aload_n dX9_undo_12 rfl ?_
  refine bc_getr dX9_undo_13 fX9_62 (rfl) rfl ?_
  refine bc_aload_n dX9_undo_16 rfl ?_
  refine bc_getr dX9_undo_17 fX9_52 (rfl) rfl ?_
  refine bc_callV (z := mX4_undoWork) (ci := 4) dX9_undo_20 lX9_169 qX4_undoWork (by rfl) (by rfl) (by rfl) (by rfl) (Nat.le_of_ble_eq_true rfl) (s_undoWork hk hw) (fun r20 μ20 e20 => ?_)
  obtain ⟨rfl, e1, e2⟩ := e20
  refine bc_aload_n dX9_undo_23 rfl ?_
  refine bc_callV (z := mX9_noteChange) (ci := 9) dX9_undo_24 lX9_123 qX9_noteChange (by rfl) (by rfl) (by rfl) (by rfl) (Nat.le_of_ble_eq_true rfl) (s_noteChange) (fun r24 μ24 e24 => ?_)
  obtain ⟨rfl, q24⟩ := e24
  obtain rfl := q24.symm
  refine bc_aload_n dX9_undo_27 rfl ?_
  refine bc_getr dX9_undo_28 fX9_62 (rfl) rfl ?_
  refine bc_geti dX9_undo_31 fX9_134 (rfl) rfl ?_
  exact bc_ireturn dX9_undo_34 rfl rfl (by
have w45 : bc_u (bc_u μ20 0 11 0) 117 7 0 45 1 = nI k := by rw [bu2 (by omega), bu2 (by omega), e1 45 1 (by omega) (by omega) (by omega) (by omega), bu1]
refine ⟨by rw [w45], fun i j a b c e f g h => ?_, w45, by rw [bu2 (by omega), bu1], bu1, fun j hj => ?_⟩
· rw [bu2 h, bu2 g, e1 i j a b c e, bu2 f]
· have e3 := e2 j hj
  rw [svR_row hj, bu2 (by omega)] at e3
  rw [← e3]
  exact congrFun (row_same (fun i j a b c => by rw [bu2 (by omega), bu2 (by omega)])) j)
theorem s_imageN (hw : μ 45 5 = nI 3) : bc_C d LC mX9_image [.ref 0] μ (fun r ν => r = some (.int (-1)) ∧ ν = μ) := by
  refine bc_enter (by decide) (Nat.le_of_ble_eq_true rfl) rfl ?_
  refine bc_aload_n dX9_image_0 rfl ?_
  refine bc_getr dX9_image_1 fX9_62 (rfl) rfl ?_
  refine bc_geti dX9_image_4 fX9_372 (rfl) rfl ?_
  refine bc_iconst (v := 3) dX9_image_7 (by decide) ?_
  refine bc_icmp_lt (tgt := 13) dX9_image_8 (by decide) (fun h8 => absurd h8 (by rw [hw]; decide)) (fun h8 => ?_)
  refine bc_iconst (v := (-1)) dX9_image_11 (by decide) ?_
  exact bc_ireturn dX9_image_12 rfl rfl (⟨rfl, rfl⟩)
theorem s_imageY {k : Nat} (hk : k < 3) (hw : μ 45 5 = nI k) : bc_C (d + 4) LC mX9_image [.ref 0] μ (fun r ν => r = some (.int (nI (k + 1))) ∧ kiS k μ ν) := by
  refine bc_enter (by decide) (Nat.le_of_ble_eq_true rfl) rfl ?_
  refine bc_aload_n dX9_image_0 rfl ?_
  refine bc_getr dX9_image_1 fX9_62 (rfl) rfl ?_
  refine bc_geti dX9_image_4 fX9_372 (rfl) rfl ?_
  refine bc_iconst (v := 3) dX9_image_7 (by decide) ?_
  refine bc_icmp_lt (tgt := 13) dX9_image_8 (by decide) (fun h8 => ?_) (fun h8 => absurd h8 (fun q => q (by rw [hw]; exact nlt (b := 3) (by omega) (by omega))))
  refine bc_aload_n dX9_image_13 rfl ?_
  refine bc_getr dX9_image_14 fX9_62 (rfl) rfl ?_
  refine bc_aload_n dX9_image_17 rfl ?_
  refine bc_getr dX9_image_18 fX9_52 (rfl) rfl ?_
  refine bc_callV (z := mX4_keepImage) (ci := 4) dX9_image_21 lX9_375 qX4_keepImage (by rfl) (by rfl) (by rfl) (by rfl) (Nat.le_of_ble_eq_true rfl) (s_keepImage hk hw) (fun r21 μ21 e21 => ?_)
  obtain ⟨rfl, e1⟩ := e21
  refine bc_aload_n dX9_image_24 rfl ?_
  refine bc_getr dX9_image_25 fX9_62 (rfl) rfl ?_
  refine bc_geti dX9_image_28 fX9_372 (rfl) rfl ?_
  exact bc_ireturn dX9_image_31 rfl rfl (⟨by rw [e1.2.2.2.1], e1⟩)
theorem s_restoreN (hw : μ 45 5 = 0) : bc_C d LC mX9_restore [.ref 0] μ (fun r ν => r = some (.int (-1)) ∧ ν = μ) := by
  refine bc_enter (by decide) (Nat.le_of_ble_eq_true rfl) rfl ?_
  refine bc_aload_n dX9_restore_0 rfl ?_
  refine bc_getr dX9_restore_1 fX9_62 (rfl) rfl ?_
  refine bc_geti dX9_restore_4 fX9_372 (rfl) rfl ?_
  refine bc_if_gt (tgt := 12) dX9_restore_7 (by decide) (fun h7 => absurd h7 (by rw [hw]; decide)) (fun h7 => ?_)
  refine bc_iconst (v := (-1)) dX9_restore_10 (by decide) ?_
  exact bc_ireturn dX9_restore_11 rfl rfl (⟨rfl, rfl⟩)
def resP (k : Nat) (μ ν : bc_M) : Prop := (∀ i j, ¬ (i = 31 ∧ 2 ≤ j ∧ j ≤ 7) → i ≠ 32 → i ≠ 33 → i ≠ 34 → (i < 47 ∨ 63 ≤ i) → ¬ (i = 45 ∧ (j = 1 ∨ j = 5)) → ¬ (i = 0 ∧ j = 11) → ¬ (i = 117 ∧ j = 7) → ν i j = μ i j) ∧ ν 45 5 = nI k ∧ ν 45 1 = μ 116 k ∧ ν 0 11 = 0 ∧ ν 117 7 = 0 ∧ (∀ j, j < 28 → row 31 ν j = μ (64 + k) j) ∧ ∀ r, r < 16 → ∀ j, j < 28 → ν (47 + r) j = μ (68 + 16 * k + r) j
theorem s_restoreY {k : Nat} (hk : k < 3) (hw : μ 45 5 = nI (k + 1)) : bc_C (d + 4) LC mX9_restore [.ref 0] μ (fun r ν => r = some (.int (nI k)) ∧ resP k μ ν) := by
  refine bc_enter (by decide) (Nat.le_of_ble_eq_true rfl) rfl ?_
  refine bc_aload_n dX9_restore_0 rfl ?_
  refine bc_getr dX9_restore_1 fX9_62 (rfl) rfl ?_
  refine bc_geti dX9_restore_4 fX9_372 (rfl) rfl ?_
  refine bc_if_gt (tgt := 12) dX9_restore_7 (by decide) (fun h7 => ?_) (fun h7 => absurd h7 (fun q => q (by rw [hw]; exact nlt (k := 0) (by omega) (by omega))))
  refine bc_aload_n dX9_restore_12 rfl ?_
  refine bc_getr dX9_restore_13 fX9_62 (rfl) rfl ?_
  refine bc_aload_n dX9_restore_16 rfl ?_
  refine bc_getr dX9_restore_17 fX9_52 (rfl) rfl ?_
  refine bc_callV (z := mX4_restoreImage) (ci := 4) dX9_restore_20 lX9_378 qX4_restoreImage (by rfl) (by rfl) (by rfl) (by rfl) (Nat.le_of_ble_eq_true rfl) (s_restoreImage hk hw) (fun r20 μ20 e20 => ?_)
  obtain ⟨rfl, e1, e2, e3, e4, e5⟩ := e20
  refine bc_aload_n dX9_restore_23 rfl ?_
  refine bc_callV (z := mX9_noteChange) (ci := 9) dX9_restore_24 lX9_123 qX9_noteChange (by rfl) (by rfl) (by rfl) (by rfl) (Nat.le_of_ble_eq_true rfl) (s_noteChange) (fun r24 μ24 e24 => ?_)
  obtain ⟨rfl, q24⟩ := e24
  obtain rfl := q24.symm
  refine bc_aload_n dX9_restore_27 rfl ?_
  refine bc_getr dX9_restore_28 fX9_62 (rfl) rfl ?_
  refine bc_geti dX9_restore_31 fX9_372 (rfl) rfl ?_
  exact bc_ireturn dX9_restore_34 rfl rfl (by
refine ⟨by rw [bu2 (by omega), bu2 (by omega), e2], fun i j a b c e f g h l => ?_, by rw [bu2 (by omega), bu2 (by omega), e2], by rw [bu2 (by omega), bu2 (by omega), e3], by rw [bu2 (by omega), bu1], bu1, fun j hj => ?_, fun r hr j hj => by rw [bu2 (by omega), bu2 (by omega), e5 r hr j hj]⟩
· rw [bu2 l, bu2 h, e1 i j a b c e f g]
· rw [← e4 j hj, svR_row hj]
  exact congrFun (row_same (fun i j a b c => by rw [bu2 (by omega), bu2 (by omega)])) j)
/-! work -/
theorem s_workF {tp : Nat} (ht : μ 1 1 = nI tp) (htp : tp ≤ 600) (hn : n ≤ tp) (hn2 : n ≤ 150) (hw : μ 45 1 = nI 16) : bc_C (d + 2) LC mX9_work [.ref 0, .int (nI n)] μ (fun r ν => r = some (.int (-20)) ∧ ν 1 1 = 0 ∧ ν 1 6 = -1 ∧ ∀ i j, i ≠ 1 → ν i j = μ i j) := by
  refine bc_enter (by decide) (Nat.le_of_ble_eq_true rfl) rfl ?_
  refine bc_aload_n dX9_work_0 rfl ?_
  refine bc_iload_n dX9_work_1 rfl ?_
  refine bc_sipush (v := 150) dX9_work_2 (by decide) ?_
  refine bc_callV (z := mX9_needText) (ci := 9) dX9_work_5 lX9_92 qX9_needText (by rfl) (by rfl) (by rfl) (by rfl) (Nat.le_of_ble_eq_true rfl) (s_needX (b := 150) ht hn (by omega) (by omega) (by omega)) (fun r5 μ5 e5 => ?_)
  obtain ⟨rfl, q5⟩ := e5
  obtain rfl := q5.symm
  refine bc_aload_n dX9_work_8 rfl ?_
  refine bc_getr dX9_work_9 fX9_62 (rfl) rfl ?_
  refine bc_geti dX9_work_12 fX9_134 (rfl) rfl ?_
  refine bc_bipush (v := 16) dX9_work_15 (by decide) ?_
  refine bc_icmp_lt (tgt := 31) dX9_work_17 (by decide) (fun h17 => absurd h17 (by rw [hw]; decide)) (fun h17 => ?_)
  refine bc_aload_n dX9_work_20 rfl ?_
  refine bc_getr dX9_work_21 fX9_10 (rfl) rfl ?_
  refine bc_iconst (v := 0) dX9_work_24 (by decide) ?_
  refine bc_callV (z := mX7_begin) (ci := 7) dX9_work_25 lX9_96 qX7_begin (by rfl) (by rfl) (by rfl) (by rfl) (Nat.le_of_ble_eq_true rfl) (s_begin (n := 0) (by omega)) (fun r25 μ25 e25 => ?_)
  obtain ⟨rfl, q25⟩ := e25
  obtain rfl := q25.symm
  refine bc_bipush (v := (-20)) dX9_work_28 (by decide) ?_
  exact bc_ireturn dX9_work_30 rfl rfl (⟨rfl, by rw [tx_o _ _ _ _ _ (by decide)]; exact bgT_1, by rw [tx_6], fun i j h1 => by rw [tx_i _ _ _ _ _ h1, bgT_i h1]⟩)
theorem s_workE {tp w k q : Nat} (hno : μ 3 1 = nI no) (hno8 : no ≤ 8) (hnq : μ 3 0 = nI nq) (hnq6 : nq ≤ 6) (ht : μ 1 1 = nI tp) (htp : tp ≤ 600) (hn : n ≤ tp) (hn2 : n ≤ 150) (hw : μ 45 1 = nI w) (hw16 : w < 16) (hS : (pWork (μ 2) n no nq (skp (μ 2) n 0)).1 = .inl (k, q)) : bc_C (d + 30) LC mX9_work [.ref 0, .int (nI n)] μ (flS (fun i j => (i = 24 ∧ j = 3) ∨ i = 25 ∨ i = 26 ∨ i = 27) k q μ) := by
  refine bc_enter (by decide) (Nat.le_of_ble_eq_true rfl) rfl ?_
  refine bc_aload_n dX9_work_0 rfl ?_
  refine bc_iload_n dX9_work_1 rfl ?_
  refine bc_sipush (v := 150) dX9_work_2 (by decide) ?_
  refine bc_callV (z := mX9_needText) (ci := 9) dX9_work_5 lX9_92 qX9_needText (by rfl) (by rfl) (by rfl) (by rfl) (Nat.le_of_ble_eq_true rfl) (s_needX (b := 150) ht hn (by omega) (by omega) (by omega)) (fun r5 μ5 e5 => ?_)
  obtain ⟨rfl, q5⟩ := e5
  obtain rfl := q5.symm
  refine bc_aload_n dX9_work_8 rfl ?_
  refine bc_getr dX9_work_9 fX9_62 (rfl) rfl ?_
  refine bc_geti dX9_work_12 fX9_134 (rfl) rfl ?_
  refine bc_bipush (v := 16) dX9_work_15 (by decide) ?_
  refine bc_icmp_lt (tgt := 31) dX9_work_17 (by decide) (fun h17 => ?_) (fun h17 => absurd h17 (fun z => z (by rw [hw]; exact nlt (b := 16) hw16 (by omega))))
  refine bc_aload_n dX9_work_31 rfl ?_
  refine bc_getr dX9_work_32 fX9_10 (rfl) rfl ?_
  refine bc_iload_n dX9_work_35 rfl ?_
  refine bc_callV (z := mX7_begin) (ci := 7) dX9_work_36 lX9_96 qX7_begin (by rfl) (by rfl) (by rfl) (by rfl) (Nat.le_of_ble_eq_true rfl) (s_begin (by omega)) (fun r36 μ36 e36 => ?_)
  obtain ⟨rfl, q36⟩ := e36
  obtain rfl := q36.symm
  refine bc_aload_n dX9_work_39 rfl ?_
  refine bc_getr dX9_work_40 fX9_36 (rfl) rfl ?_
  refine bc_aload_n dX9_work_43 rfl ?_
  refine bc_getr dX9_work_44 fX9_10 (rfl) rfl ?_
  refine bc_aload_n dX9_work_47 rfl ?_
  refine bc_getr dX9_work_48 fX9_19 (rfl) rfl ?_
  refine bc_callV (z := mX5_readFrom) (ci := 5) dX9_work_51 lX9_137 qX5_readFrom (by rfl) (by rfl) (by rfl) (by rfl) (Nat.le_of_ble_eq_true rfl) (s_planFrom hn2 bgT_n ((congrFun (bgT_i (by omega)) 1).trans hno) hno8 ((congrFun (bgT_i (by omega)) 0).trans hnq) hnq6 (tq0 (μ 2))) (fun r51 μ51 e51 => ?_)
  obtain ⟨rfl, μ1, a1, k1, f1, q1, rfl, g1, g2, g3⟩ := e51
  refine bc_aload_n dX9_work_54 rfl ?_
  refine bc_getr dX9_work_55 fX9_10 (rfl) rfl ?_
  rw [bgT_2, hS] at g2
  have hf := tq_f g2
  refine bc_callV (z := mX7_isSound) (ci := 7) dX9_work_58 lX9_103 qX7_isSound (by rfl) (by rfl) (by rfl) (by rfl) (Nat.le_of_ble_eq_true rfl) (s_sound) (fun r58 μ58 e58 => ?_)
  obtain ⟨rfl, q58⟩ := e58
  obtain rfl := q58.symm
  rw [if_neg hf]
  refine bc_if_ne (tgt := 75) dX9_work_61 (by decide) (fun h61 => absurd h61 (by decide)) (fun h61 => ?_)
  refine bc_aload_n dX9_work_64 rfl ?_
  refine bc_getr dX9_work_65 fX9_10 (rfl) rfl ?_
  refine bc_geti dX9_work_68 fX9_107 (rfl) rfl ?_
  refine bc_bipush (v := 10) dX9_work_71 (by decide) ?_
  refine bc_isub dX9_work_73 ?_
  exact bc_ireturn dX9_work_74 rfl rfl (by
refine ⟨by rw [tx_5, g2.2.1], ?_, by rw [tx_6]; exact g2.2.2.1, fun i j h1 hD => ?_⟩
· rw [tx_o _ _ _ _ _ (by decide), g1.1 1 (by omega) (by omega) (by omega) (by omega)]; exact bgT_1
· rw [tx_i _ _ _ _ _ h1]
  by_cases h24 : i = 24
  · subst h24; rw [g1.2 j (by omega), bgT_i h1]
  · rw [g1.1 i h24 (by omega) (by omega) (by omega), bgT_i h1])
theorem plug_env {m m' : bc_M} (h : envE m m') (hnq : nq ≤ 6) (A : Row) : eqV n no nq 31 31 (plug m A) (plug m' A) := by
  have hp : ∀ i j, i ≠ 31 → i ≠ 32 → i ≠ 33 → i ≠ 34 → m' i j = m i j → plug m' A i j = plug m A i j := fun i j a b c e f => by
    unfold plug
    rw [if_neg (by omega), if_neg (by omega), if_neg (by omega), if_neg (by omega), if_neg (by omega), if_neg (by omega), if_neg (by omega), if_neg (by omega)]
    exact f
  have hz : ∀ (M : bc_M), plug M A 31 7 = A 5 := fun M => by unfold plug; rw [if_pos (by omega)]
  refine ⟨fun q hq => ⟨hp 4 q (by omega) (by omega) (by omega) (by omega) (h.1 4 q (by omega) (by omega)), hp 5 q (by omega) (by omega) (by omega) (by omega) (h.1 5 q (by omega) (by omega)), ?_⟩, fun o _ => ⟨hp 6 o (by omega) (by omega) (by omega) (by omega) (h.1 6 o (by omega) (by omega)), hp 7 o (by omega) (by omega) (by omega) (by omega) (h.1 7 o (by omega) (by omega))⟩, fun k _ => hp 20 k (by omega) (by omega) (by omega) (by omega) (h.2.2 k), by rw [hz, hz]⟩
  unfold plug
  rw [if_neg (by omega), if_neg (by omega), if_neg (by omega), if_pos (by omega), if_neg (by omega), if_neg (by omega), if_neg (by omega), if_pos (by omega)]
theorem hourR_env {m m' : bc_M} (h : envE m m') (hnq : nq ≤ 6) : hourR m' n no nq = hourR m n no nq := by
  funext A k
  unfold hourR
  rw [ea_eqV (plug_env h hnq A), no_eqV (plug_env h hnq A), opB_cg (fun y _ => h.1 10 y (by omega) (by omega))]
theorem actR_env {m m' : bc_M} (h : envE m m') (hnq : nq ≤ 6) : actR m' n no nq = actR m n no nq := by
  funext z A
  unfold actR
  rw [hourR_env h hnq]
def wokP (w : Nat) (s : RSt) (μ ν : bc_M) : Prop := (∀ i j, i ≠ 1 → ¬ (i = 24 ∨ i = 25 ∨ i = 26 ∨ i = 27) → ¬ scr 31 i j → ¬ (i = 31 ∧ 2 ≤ j ∧ j ≤ 7) → i ≠ 32 → i ≠ 33 → i ≠ 34 → i ≠ 47 + w → ¬ (i = 45 ∧ j = 1) → ¬ (i = 0 ∧ j = 11) → ¬ (i = 117 ∧ j = 7) → ν i j = μ i j) ∧ ν 45 1 = nI (w + 1) ∧ (∀ j, j < 28 → ν (47 + w) j = row 31 μ j) ∧ ν 0 11 = nI s.2.2.1 ∧ ν 117 7 = 0 ∧ row 31 ν = s.2.2.2 ∧ ν 1 1 = 0 ∧ ν 1 6 = -1
theorem s_workOK {tp w p L : Nat} (hB : okB μ L no nq) (ht : μ 1 1 = nI tp) (htp : tp ≤ 600) (hn : n ≤ tp) (hn2 : n ≤ 150) (hw : μ 45 1 = nI w) (hw16 : w < 16) (hS : (pWork (μ 2) n no nq (skp (μ 2) n 0)).1 = .inr p) : bc_C (d + 30) LC mX9_work [.ref 0, .int (nI n)] μ (fun r ν => r = some (.int (nI (runP (pWork (μ 2) n no nq (skp (μ 2) n 0)).2 (actR μ L no nq) 201 0 (pWork (μ 2) n no nq (skp (μ 2) n 0)).2.length (0, 0, 0, row 31 μ)).2.1)) ∧ wokP w (runP (pWork (μ 2) n no nq (skp (μ 2) n 0)).2 (actR μ L no nq) 201 0 (pWork (μ 2) n no nq (skp (μ 2) n 0)).2.length (0, 0, 0, row 31 μ)) μ ν) := by
  have hno : μ 3 1 = nI no := hB.1.1
  have hno8 : no ≤ 8 := hB.1.2.1
  have hnq : μ 3 0 = nI nq := hB.2.1.1
  have hnq6 : nq ≤ 6 := hB.2.1.2.1
  have hK := pWork_ok hno8 hnq6 (skp_le (μ 2) n) hS
  refine bc_enter (by decide) (Nat.le_of_ble_eq_true rfl) rfl ?_
  refine bc_aload_n dX9_work_0 rfl ?_
  refine bc_iload_n dX9_work_1 rfl ?_
  refine bc_sipush (v := 150) dX9_work_2 (by decide) ?_
  refine bc_callV (z := mX9_needText) (ci := 9) dX9_work_5 lX9_92 qX9_needText (by rfl) (by rfl) (by rfl) (by rfl) (Nat.le_of_ble_eq_true rfl) (s_needX (b := 150) ht hn (by omega) (by omega) (by omega)) (fun r5 μ5 e5 => ?_)
  obtain ⟨rfl, q5⟩ := e5
  obtain rfl := q5.symm
  refine bc_aload_n dX9_work_8 rfl ?_
  refine bc_getr dX9_work_9 fX9_62 (rfl) rfl ?_
  refine bc_geti dX9_work_12 fX9_134 (rfl) rfl ?_
  refine bc_bipush (v := 16) dX9_work_15 (by decide) ?_
  refine bc_icmp_lt (tgt := 31) dX9_work_17 (by decide) (fun h17 => ?_) (fun h17 => absurd h17 (fun z => z (by rw [hw]; exact nlt (b := 16) hw16 (by omega))))
  refine bc_aload_n dX9_work_31 rfl ?_
  refine bc_getr dX9_work_32 fX9_10 (rfl) rfl ?_
  refine bc_iload_n dX9_work_35 rfl ?_
  refine bc_callV (z := mX7_begin) (ci := 7) dX9_work_36 lX9_96 qX7_begin (by rfl) (by rfl) (by rfl) (by rfl) (Nat.le_of_ble_eq_true rfl) (s_begin (by omega)) (fun r36 μ36 e36 => ?_)
  obtain ⟨rfl, q36⟩ := e36
  obtain rfl := q36.symm
  refine bc_aload_n dX9_work_39 rfl ?_
  refine bc_getr dX9_work_40 fX9_36 (rfl) rfl ?_
  refine bc_aload_n dX9_work_43 rfl ?_
  refine bc_getr dX9_work_44 fX9_10 (rfl) rfl ?_
  refine bc_aload_n dX9_work_47 rfl ?_
  refine bc_getr dX9_work_48 fX9_19 (rfl) rfl ?_
  refine bc_callV (z := mX5_readFrom) (ci := 5) dX9_work_51 lX9_137 qX5_readFrom (by rfl) (by rfl) (by rfl) (by rfl) (Nat.le_of_ble_eq_true rfl) (s_planFrom hn2 bgT_n ((congrFun (bgT_i (by omega)) 1).trans hno) hno8 ((congrFun (bgT_i (by omega)) 0).trans hnq) hnq6 (tq0 (μ 2))) (fun r51 μ51 e51 => ?_)
  obtain ⟨rfl, μ1, a1, k1, f1, q1, rfl, g1, g2, g3⟩ := e51
  refine bc_aload_n dX9_work_54 rfl ?_
  refine bc_getr dX9_work_55 fX9_10 (rfl) rfl ?_
  rw [bgT_2] at g2 g3
  have g3 := g3 p hS
  rw [hS] at g2
  generalize (pWork (μ 2) n no nq (skp (μ 2) n 0)).2 = l at hK g3 ⊢
  have w1 : ∀ i j, i ≠ 1 → ¬ (i = 24 ∨ i = 25 ∨ i = 26 ∨ i = 27) → tx μ1 a1 k1 f1 q1 i j = μ i j := fun i j h1 h2 => by
    rw [tx_i _ _ _ _ _ h1, g1.1 i (by omega) (by omega) (by omega) (by omega), bgT_i h1]
  have hw1 : tx μ1 a1 k1 f1 q1 45 1 = nI w := (w1 45 1 (by omega) (by omega)).trans hw
  refine bc_callV (z := mX7_isSound) (ci := 7) dX9_work_58 lX9_103 qX7_isSound (by rfl) (by rfl) (by rfl) (by rfl) (Nat.le_of_ble_eq_true rfl) (s_sound) (fun r58 μ58 e58 => ?_)
  obtain ⟨rfl, q58⟩ := e58
  obtain rfl := q58.symm
  rw [if_pos g2.2.2.1]
  refine bc_if_ne (tgt := 75) dX9_work_61 (by decide) (fun h61 => ?_) (fun h61 => absurd h61 (by decide))
  refine bc_aload_n dX9_work_75 rfl ?_
  refine bc_getr dX9_work_76 fX9_62 (rfl) rfl ?_
  refine bc_aload_n dX9_work_79 rfl ?_
  refine bc_getr dX9_work_80 fX9_52 (rfl) rfl ?_
  refine bc_callV (z := mX4_keepWork) (ci := 4) dX9_work_83 lX9_140 qX4_keepWork (by rfl) (by rfl) (by rfl) (by rfl) (Nat.le_of_ble_eq_true rfl) (s_keepWork hw16 hw1) (fun r83 μ83 e83 => ?_)
  obtain ⟨rfl, e1, e2, e3⟩ := e83
  refine bc_aload_n dX9_work_86 rfl ?_
  refine bc_callV (z := mX9_noteChange) (ci := 9) dX9_work_87 lX9_123 qX9_noteChange (by rfl) (by rfl) (by rfl) (by rfl) (Nat.le_of_ble_eq_true rfl) (s_noteChange) (fun r87 μ87 e87 => ?_)
  obtain ⟨rfl, q87⟩ := e87
  obtain rfl := q87.symm
  refine bc_aload_n dX9_work_90 rfl ?_
  refine bc_getr dX9_work_91 fX9_36 (rfl) rfl ?_
  refine bc_callV (z := mX5_beginRun) (ci := 5) dX9_work_94 lX9_144 qX5_beginRun (by rfl) (by rfl) (by rfl) (by rfl) (Nat.le_of_ble_eq_true rfl) (s_beginRun) (fun r94 μ94 e94 => ?_)
  obtain ⟨rfl, q94⟩ := e94
  obtain rfl := q94.symm
  refine bc_aload_n dX9_work_97 rfl ?_
  refine bc_getr dX9_work_98 fX9_36 (rfl) rfl ?_
  refine bc_aload_n dX9_work_101 rfl ?_
  refine bc_getr dX9_work_102 fX9_52 (rfl) rfl ?_
  refine bc_iconst (v := 0) dX9_work_105 (by decide) ?_
  refine bc_aload_n dX9_work_106 rfl ?_
  refine bc_getr dX9_work_107 fX9_36 (rfl) rfl ?_
  obtain ⟨M, hM⟩ : ∃ M, M = bc_u (bc_u (bc_u (bc_u (bc_u μ83 0 11 0) 117 7 0) 24 4 0) 24 5 0) 24 6 0 := ⟨_, rfl⟩
  rw [← hM]
  have w2 : ∀ i j, ¬ (i = 0 ∧ j = 11) → ¬ (i = 117 ∧ j = 7) → ¬ (i = 24 ∧ (j = 4 ∨ j = 5 ∨ j = 6)) → M i j = μ83 i j := fun i j a b c => by rw [hM, bu2 (by omega), bu2 (by omega), bu2 (by omega), bu2 b, bu2 a]
  have w3 : ∀ i j, i ≠ 1 → ¬ (i = 24 ∨ i = 25 ∨ i = 26 ∨ i = 27) → i ≠ 47 + w → ¬ (i = 45 ∧ j = 1) → ¬ (i = 0 ∧ j = 11) → ¬ (i = 117 ∧ j = 7) → M i j = μ i j := fun i j a b c e f g => by rw [w2 i j f g (by omega), e1 i j c e, w1 i j a b]
  have hE : envE μ M := ⟨fun i j a b => w3 i j (by omega) (by omega) (by omega) (by omega) (by omega) (by omega), w3 19 1 (by omega) (by omega) (by omega) (by omega) (by omega) (by omega), fun j => w3 20 j (by omega) (by omega) (by omega) (by omega) (by omega) (by omega)⟩
  have hpl : plR M l := by
    refine ⟨by rw [w2 24 3 (by omega) (by omega) (by omega), e1 24 3 (by omega) (by omega), tx_i _ _ _ _ _ (by omega)]; exact g3.1, fun i z hz => ?_⟩
    rw [w2 25 i (by omega) (by omega) (by omega), e1 25 i (by omega) (by omega), tx_i _ _ _ _ _ (by omega), w2 26 i (by omega) (by omega) (by omega), e1 26 i (by omega) (by omega), tx_i _ _ _ _ _ (by omega), w2 27 i (by omega) (by omega) (by omega), e1 27 i (by omega) (by omega), tx_i _ _ _ _ _ (by omega)]
    exact g3.2 i z hz
  have hrow : row 31 M = row 31 μ := row_same (fun i j a b c => w3 i j (by omega) (by omega) (by omega) (by omega) (by omega) (by omega))
  have hR : rR M (0, 0, 0, row 31 μ) M := ⟨fun _ _ _ _ _ _ _ _ => rfl, by rw [hM, bu2 (by omega), bu2 (by omega), bu1]; rfl, by rw [hM, bu2 (by omega), bu1]; rfl, by rw [hM, bu1]; rfl, hrow⟩
  refine bc_geti dX9_work_110 fX9_147 (rfl) rfl ?_
  rw [hpl.1]
  refine bc_iconst (v := 0) dX9_work_113 (by decide) ?_
  refine bc_callV (z := mX5_run) (ci := 5) dX9_work_114 lX9_150 qX5_run (by rfl) (by rfl) (by rfl) (by rfl) (Nat.le_of_ble_eq_true rfl) (s_run (okB_env hE hB) hpl (by omega) hK.2 hR rfl) (fun r114 μ114 e114 => ?_)
  obtain ⟨rfl, e4⟩ := e114
  rw [actR_env hE hnq6] at e4
  generalize runP l (actR μ L no nq) 201 0 l.length (0, 0, 0, row 31 μ) = s at e4 ⊢
  refine bc_aload_n dX9_work_117 rfl ?_
  refine bc_aload_n dX9_work_118 rfl ?_
  refine bc_getr dX9_work_119 fX9_36 (rfl) rfl ?_
  refine bc_geti dX9_work_122 fX9_154 (rfl) rfl ?_
  refine bc_put dX9_work_125 fX9_157 ftX9 fpX9_11 rfl rfl (rfl) rfl ?_
  refine bc_aload_n dX9_work_128 rfl ?_
  refine bc_getr dX9_work_129 fX9_36 (rfl) rfl ?_
  refine bc_geti dX9_work_132 fX9_160 (rfl) rfl ?_
  exact bc_ireturn dX9_work_135 rfl rfl (by
have w4 : ∀ i j, ¬ scr 31 i j → ¬ (i = 31 ∧ 2 ≤ j ∧ j ≤ 7) → i ≠ 32 → i ≠ 33 → i ≠ 34 → ¬ (i = 24 ∧ (j = 4 ∨ j = 5 ∨ j = 6)) → ¬ (i = 0 ∧ j = 11) → bc_u μ114 0 11 (μ114 24 6) i j = M i j := fun i j a b c e f g h => by rw [bu2 h, e4.1 i j a b c e f g]
refine ⟨by rw [bu2 (by omega), e4.2.2.1], fun i j h1 h2 h3 h4 h5 h6 h7 h8 h9 h10 h11 => ?_, ?_, fun j hj => ?_, ?_, ?_, ?_, ?_, ?_⟩
· rw [w4 i j h3 h4 h5 h6 h7 (by omega) h10, w3 i j h1 h2 h8 h9 h10 h11]
· rw [w4 45 1 (by unfold scr; omega) (by omega) (by omega) (by omega) (by omega) (by omega) (by omega), w2 45 1 (by omega) (by omega) (by omega)]; exact e2
· rw [w4 (47 + w) j (by unfold scr; omega) (by omega) (by omega) (by omega) (by omega) (by omega) (by omega), w2 (47 + w) j (by omega) (by omega) (by omega), e3 j hj, svR_row hj]
  exact congrFun (row_same (fun i j a b c => w1 i j (by omega) (by omega))) j
· rw [bu1, e4.2.2.2.1]
· rw [w4 117 7 (by unfold scr; omega) (by omega) (by omega) (by omega) (by omega) (by omega) (by omega), hM, bu2 (by omega), bu2 (by omega), bu2 (by omega), bu1]
· rw [← e4.2.2.2.2]
  exact row_same (fun i j a b c => bu2 (by omega))
· rw [w4 1 1 (by unfold scr; omega) (by omega) (by omega) (by omega) (by omega) (by omega) (by omega), w2 1 1 (by omega) (by omega) (by omega), e1 1 1 (by omega) (by omega), tx_o _ _ _ _ _ (by decide), g1.1 1 (by omega) (by omega) (by omega) (by omega)]; exact bgT_1
· rw [w4 1 6 (by unfold scr; omega) (by omega) (by omega) (by omega) (by omega) (by omega) (by omega), w2 1 6 (by omega) (by omega) (by omega), e1 1 6 (by omega) (by omega), tx_6]; exact g2.2.2.2)
end OW5
