/-! the JDK's length and charAt at a String constant -/
section JDK
variable {d : Nat} {L : bc_L} {μ : bc_M} {k : Nat}
theorem s_coder (hk : k < 24) : bc_C d L mJ0_coder_7d493 [.ref (1000 + k)] μ (fun r μ' => r = some (.int 0) ∧ μ' = μ) := by
  refine bc_enter (by decide) (Nat.le_of_ble_eq_true rfl) rfl ?_
  refine bc_gst dJ0_coder_7d493_0 gJ0_38 ?_
  refine bc_if_eq (tgt := 13) dJ0_coder_7d493_3 (by decide) (fun h => absurd h (by decide)) (fun _ => ?_)
  refine bc_aload_n dJ0_coder_7d493_6 rfl ?_
  refine bc_scod hk dJ0_coder_7d493_7 gJ0_15 ?_
  refine bc_goto (tgt := 14) dJ0_coder_7d493_10 (by decide) ?_
  exact bc_ireturn dJ0_coder_7d493_14 rfl rfl ⟨rfl, rfl⟩
theorem s_isLatin1 (hk : k < 24) : bc_C d L mJ0_isLatin1_aae02 [.ref (1000 + k)] μ (fun r μ' => r = some (.int 1) ∧ μ' = μ) := by
  refine bc_enter (by decide) (Nat.le_of_ble_eq_true rfl) rfl ?_
  refine bc_gst dJ0_isLatin1_aae02_0 gJ0_38 ?_
  refine bc_if_eq (tgt := 17) dJ0_isLatin1_aae02_3 (by decide) (fun h => absurd h (by decide)) (fun _ => ?_)
  refine bc_aload_n dJ0_isLatin1_aae02_6 rfl ?_
  refine bc_scod hk dJ0_isLatin1_aae02_7 gJ0_15 ?_
  refine bc_if_ne (tgt := 17) dJ0_isLatin1_aae02_10 (by decide) (fun h => absurd rfl h) (fun _ => ?_)
  refine bc_iconst (v := 1) dJ0_isLatin1_aae02_13 (by decide) ?_
  refine bc_goto (tgt := 18) dJ0_isLatin1_aae02_14 (by decide) ?_
  exact bc_ireturn dJ0_isLatin1_aae02_18 rfl rfl ⟨rfl, rfl⟩
theorem s_length (hk : k < 24) : bc_C (d + 1) L mJ0_length_8abf5 [.ref (1000 + k)] μ (fun r μ' => r = some (.int (nI (bc_len.getD k 0))) ∧ μ' = μ) := by
  refine bc_enter (by decide) (Nat.le_of_ble_eq_true rfl) rfl ?_
  refine bc_aload_n dJ0_length_8abf5_0 rfl ?_
  refine bc_sval hk dJ0_length_8abf5_1 gJ0_9 ?_
  refine bc_slen hk dJ0_length_8abf5_4 ?_
  refine bc_aload_n dJ0_length_8abf5_5 rfl ?_
  refine bc_callVS (z := mJ0_coder_7d493) hk dJ0_length_8abf5_6 lJ0_335 qJ0_coder_7d493 rfl (as := []) rfl rfl (Nat.le_of_ble_eq_true rfl) (s_coder hk) (fun r μ' q => ?_)
  obtain ⟨q1, q2⟩ := q
  subst q1; subst q2
  refine bc_ishr dJ0_length_8abf5_9 ?_
  refine bc_ireturn dJ0_length_8abf5_10 rfl rfl ⟨?_, rfl⟩
  exact (by decide +kernel : ∀ k, k < 24 → some (Value.int (nI (bc_len.getD k 0) >>> ((0 : Int32) &&& 31))) = some (.int (nI (bc_len.getD k 0)))) k hk
theorem s_pcheck {i n : Int32} {v : Value} (hv : v = .null ∨ v = .ref 3000) (h0 : ¬ i < 0) (h1 : i < n) : bc_C d L mJ3_checkIndex_8e157 [.int i, .int n, v] μ (fun r μ' => r = some (.int i) ∧ μ' = μ) := by
  have hc : bc_ent [.int i, .int n, v] = [.int i, .int n, v] := by rcases hv with rfl | rfl <;> rfl
  refine bc_enter (by decide) (by rw [hc]; exact Nat.le_of_ble_eq_true rfl) rfl ?_
  rw [hc]
  refine bc_iload_n dJ3_checkIndex_8e157_0 rfl ?_
  refine bc_if_lt (tgt := 9) dJ3_checkIndex_8e157_1 (by decide) (fun h => absurd h h0) (fun _ => ?_)
  refine bc_iload_n dJ3_checkIndex_8e157_4 rfl ?_
  refine bc_iload_n dJ3_checkIndex_8e157_5 rfl ?_
  refine bc_icmp_lt (tgt := 16) dJ3_checkIndex_8e157_6 (by decide) (fun _ => ?_) (fun h => absurd h1 h)
  refine bc_iload_n dJ3_checkIndex_8e157_16 rfl ?_
  exact bc_ireturn dJ3_checkIndex_8e157_17 rfl rfl ⟨rfl, rfl⟩
theorem s_scheck {i n : Int32} (h0 : ¬ i < 0) (h1 : i < n) : bc_C (d + 1) L mJ0_checkIndex_df160 [.int i, .int n] μ (fun r μ' => r = none ∧ μ' = μ) := by
  refine bc_enter (by decide) (Nat.le_of_ble_eq_true rfl) rfl ?_
  refine bc_iload_n dJ0_checkIndex_df160_0 rfl ?_
  refine bc_iload_n dJ0_checkIndex_df160_1 rfl ?_
  refine bc_gsF dJ0_checkIndex_df160_2 gJ0_1053 (fun v hv => ?_)
  refine bc_callS (z := mJ3_checkIndex_8e157) dJ0_checkIndex_df160_5 lJ0_1059 qJ3_checkIndex_8e157 (as := [.int i, .int n, v]) rfl rfl (Nat.le_of_ble_eq_true rfl) (s_pcheck hv h0 h1) (fun r μ' q => ?_)
  obtain ⟨q1, q2⟩ := q
  subst q1; subst q2
  refine bc_pop dJ0_checkIndex_df160_8 rfl ?_
  exact bc_return dJ0_checkIndex_df160_9 rfl ⟨rfl, rfl⟩
/-- the character at j of the String constant k -/
def sch (k j : Nat) : Int32 := (bc_byt.getD k []).getD j 0
theorem s_lcharAt {i : Int32} {j : Nat} (hk : k < 24) (hi : i = nI j) (hj : j < bc_len.getD k 0) : bc_C (d + 2) L mJ1_charAt_3b067 [.ref (2000 + k), .int i] μ (fun r μ' => r = some (.int (sch k j)) ∧ μ' = μ) := by
  have hl : bc_len.getD k 0 < 1000 := (by decide +kernel : ∀ k, k < 24 → bc_len.getD k 0 < 1000) k hk
  subst hi
  refine bc_enter (by decide) (Nat.le_of_ble_eq_true rfl) rfl ?_
  refine bc_iload_n dJ1_charAt_3b067_0 rfl ?_
  refine bc_aload_n dJ1_charAt_3b067_1 rfl ?_
  refine bc_slen hk dJ1_charAt_3b067_2 ?_
  refine bc_callS (z := mJ0_checkIndex_df160) dJ1_charAt_3b067_3 lJ1_9 qJ0_checkIndex_df160 (as := [.int (nI j), .int (nI (bc_len.getD k 0))]) rfl rfl (Nat.le_of_ble_eq_true rfl) (s_scheck (nI_pos (by omega)) (nI_lt hj (by omega))) (fun r μ' q => ?_)
  obtain ⟨q1, q2⟩ := q
  subst q1; subst q2
  refine bc_aload_n dJ1_charAt_3b067_6 rfl ?_
  refine bc_iload_n dJ1_charAt_3b067_7 rfl ?_
  refine bc_sbal hk dJ1_charAt_3b067_8 rfl ⟨hj, by omega⟩ ?_
  refine bc_sipush (v := 255) dJ1_charAt_3b067_9 (by decide) ?_
  refine bc_iand dJ1_charAt_3b067_12 ?_
  have hq : ((((bc_byt.getD k []).getD j 0) &&& 255).toUInt32 % 65536).toInt32 = sch k j ∧ narrow .char (.int (sch k j)) = .int (sch k j) :=
    (by decide +kernel : ∀ k, k < 24 → ∀ j, j < bc_len.getD k 0 → ((((bc_byt.getD k []).getD j 0) &&& 255).toUInt32 % 65536).toInt32 = sch k j ∧ narrow .char (.int (sch k j)) = .int (sch k j)) k hk j hj
  refine bc_i2c dJ1_charAt_3b067_13 hq.1 ?_
  exact bc_ireturn dJ1_charAt_3b067_14 rfl hq.2 ⟨rfl, rfl⟩
theorem s_charAt {i : Int32} {j : Nat} (hk : k < 24) (hi : i = nI j) (hj : j < bc_len.getD k 0) : bc_C (d + 3) L mJ0_charAt_5068e [.ref (1000 + k), .int i] μ (fun r μ' => r = some (.int (sch k j)) ∧ μ' = μ) := by
  refine bc_enter (by decide) (Nat.le_of_ble_eq_true rfl) rfl ?_
  refine bc_aload_n dJ0_charAt_5068e_0 rfl ?_
  refine bc_callVS (z := mJ0_isLatin1_aae02) hk dJ0_charAt_5068e_1 lJ0_492 qJ0_isLatin1_aae02 rfl (as := []) rfl rfl (Nat.le_of_ble_eq_true rfl) (s_isLatin1 hk) (fun r μ' q => ?_)
  obtain ⟨q1, q2⟩ := q
  subst q1; subst q2
  refine bc_if_eq (tgt := 16) dJ0_charAt_5068e_4 (by decide) (fun h => absurd h (by decide)) (fun _ => ?_)
  refine bc_aload_n dJ0_charAt_5068e_7 rfl ?_
  refine bc_sval hk dJ0_charAt_5068e_8 gJ0_9 ?_
  refine bc_iload_n dJ0_charAt_5068e_11 rfl ?_
  refine bc_callS (z := mJ1_charAt_3b067) dJ0_charAt_5068e_12 lJ0_495 qJ1_charAt_3b067 (as := [.ref (2000 + k), .int i]) rfl rfl (Nat.le_of_ble_eq_true rfl) (s_lcharAt hk hi hj) (fun r μ' q => ?_)
  obtain ⟨q1, q2⟩ := q
  subst q1; subst q2
  have hq : narrow .char (.int (sch k j)) = .int (sch k j) :=
    (by decide +kernel : ∀ k, k < 24 → ∀ j, j < bc_len.getD k 0 → narrow .char (.int (sch k j)) = .int (sch k j)) k hk j hj
  exact bc_ireturn dJ0_charAt_5068e_15 rfl hq ⟨rfl, rfl⟩
end JDK
