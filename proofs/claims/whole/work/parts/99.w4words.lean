/-! words and layouts of the constructors -/
theorem bj00 : bc_j 0 0 = 0 := by decide +kernel
theorem oI1 : Cond.instanceMethod Lib.objectInit ∈ bc_G := bc_in1 30 (by decide +kernel) rfl
theorem oI2 : Cond.code Lib.objectInit ⟨#[0xb1]⟩ 1 none ∈ bc_G := bc_in1 31 (by decide +kernel) rfl
theorem kd_int : bn_kd .int 0 := ⟨bc_in1 132 (by decide +kernel) rfl, fun _ => rfl, fun _ _ h => h, fun _ _ _ => ⟨_, rfl, rfl⟩, by decide⟩
theorem kd_byte : bn_kd .byte 1 := ⟨bc_in1 67 (by decide +kernel) rfl, fun _ => rfl, fun _ _ h => h, fun _ _ _ => ⟨_, rfl, rfl⟩, by decide⟩
theorem kd_boolean : bn_kd .boolean 2 := ⟨bc_in2 168 (by decide +kernel) rfl, fun _ => rfl, fun _ _ h => h, fun _ _ _ => ⟨_, rfl, rfl⟩, by decide⟩
theorem kd_long : bn_kd .long 3 := ⟨bc_in7 144 (by decide +kernel) rfl, fun _ => rfl, fun _ _ h => h, fun _ _ _ => ⟨_, rfl, by rw [vp_cell_l]; show arrV _ _ (fun _ => Value.long (bc_j 0 0)) = _; rw [bj00]; rfl⟩, by decide⟩
theorem aI : Cond.arrayClass .int ∈ bc_G := bc_in1 132 (by decide +kernel) rfl
theorem ffX0_7 : bc_FF RX0 0 7 := ⟨_, _, _, .array .int, rfl, rfl, rfl, by decide +kernel, fun _ => rfl, fun _ => rfl⟩
theorem ffX0_8 : bc_FF RX0 0 8 := ⟨_, _, _, .array .int, rfl, rfl, rfl, by decide +kernel, fun _ => rfl, fun _ => rfl⟩
theorem ffX0_9 : bc_FF RX0 0 9 := ⟨_, _, _, .array .int, rfl, rfl, rfl, by decide +kernel, fun _ => rfl, fun _ => rfl⟩
theorem ffX0_10 : bc_FF RX0 0 10 := ⟨_, _, _, .array .int, rfl, rfl, rfl, by decide +kernel, fun _ => rfl, fun _ => rfl⟩
theorem ffX0_11 : bc_FF RX0 0 11 := ⟨_, _, _, .array .int, rfl, rfl, rfl, by decide +kernel, fun _ => rfl, fun _ => rfl⟩
theorem ffX0_12 : bc_FF RX0 0 12 := ⟨_, _, _, .array .int, rfl, rfl, rfl, by decide +kernel, fun _ => rfl, fun _ => rfl⟩
theorem ffX0_13 : bc_FF RX0 0 13 := ⟨_, _, _, .array .int, rfl, rfl, rfl, by decide +kernel, fun _ => rfl, fun _ => rfl⟩
theorem ffX1_0 : bc_FF RX1 1 0 := ⟨_, _, _, .object "BreadCity$Bog", rfl, rfl, rfl, by decide +kernel, fun _ => rfl, fun _ => rfl⟩
theorem ffX1_1 : bc_FF RX1 1 1 := ⟨_, _, _, .object "BreadCity$Law", rfl, rfl, rfl, by decide +kernel, fun _ => rfl, fun _ => rfl⟩
theorem ffX1_8 : bc_FF RX1 1 8 := ⟨_, _, _, .array .int, rfl, rfl, rfl, by decide +kernel, fun _ => rfl, fun _ => rfl⟩
theorem ffX1_9 : bc_FF RX1 1 9 := ⟨_, _, _, .array .int, rfl, rfl, rfl, by decide +kernel, fun _ => rfl, fun _ => rfl⟩
theorem ffX1_10 : bc_FF RX1 1 10 := ⟨_, _, _, .array .int, rfl, rfl, rfl, by decide +kernel, fun _ => rfl, fun _ => rfl⟩
theorem ffX1_11 : bc_FF RX1 1 11 := ⟨_, _, _, .array .int, rfl, rfl, rfl, by decide +kernel, fun _ => rfl, fun _ => rfl⟩
theorem ffX1_12 : bc_FF RX1 1 12 := ⟨_, _, _, .array .int, rfl, rfl, rfl, by decide +kernel, fun _ => rfl, fun _ => rfl⟩
theorem ffX1_14 : bc_FF RX1 1 14 := ⟨_, _, _, .array .int, rfl, rfl, rfl, by decide +kernel, fun _ => rfl, fun _ => rfl⟩
theorem ffX2_0 : bc_FF RX2 2 0 := ⟨_, _, _, .array .int, rfl, rfl, rfl, by decide +kernel, fun _ => rfl, fun _ => rfl⟩
theorem ffX2_2 : bc_FF RX2 2 2 := ⟨_, _, _, .array .int, rfl, rfl, rfl, by decide +kernel, fun _ => rfl, fun _ => rfl⟩
theorem ffX2_4 : bc_FF RX2 2 4 := ⟨_, _, _, .array .int, rfl, rfl, rfl, by decide +kernel, fun _ => rfl, fun _ => rfl⟩
theorem ffX2_5 : bc_FF RX2 2 5 := ⟨_, _, _, .array .int, rfl, rfl, rfl, by decide +kernel, fun _ => rfl, fun _ => rfl⟩
theorem ffX3_0 : bc_FF RX3 3 0 := ⟨_, _, _, .array .int, rfl, rfl, rfl, by decide +kernel, fun _ => rfl, fun _ => rfl⟩
theorem ffX3_2 : bc_FF RX3 3 2 := ⟨_, _, _, .array .int, rfl, rfl, rfl, by decide +kernel, fun _ => rfl, fun _ => rfl⟩
theorem ffX4_0 : bc_FF RX4 4 0 := ⟨_, _, _, .array (.array .int), rfl, rfl, rfl, by decide +kernel, fun _ => rfl, fun _ => rfl⟩
theorem ffX4_2 : bc_FF RX4 4 2 := ⟨_, _, _, .array (.array .int), rfl, rfl, rfl, by decide +kernel, fun _ => rfl, fun _ => rfl⟩
theorem ffX4_3 : bc_FF RX4 4 3 := ⟨_, _, _, .array (.array .int), rfl, rfl, rfl, by decide +kernel, fun _ => rfl, fun _ => rfl⟩
theorem ffX4_4 : bc_FF RX4 4 4 := ⟨_, _, _, .array .int, rfl, rfl, rfl, by decide +kernel, fun _ => rfl, fun _ => rfl⟩
theorem ffX5_0 : bc_FF RX5 5 0 := ⟨_, _, _, .array .int, rfl, rfl, rfl, by decide +kernel, fun _ => rfl, fun _ => rfl⟩
theorem ffX5_1 : bc_FF RX5 5 1 := ⟨_, _, _, .array .int, rfl, rfl, rfl, by decide +kernel, fun _ => rfl, fun _ => rfl⟩
theorem ffX5_2 : bc_FF RX5 5 2 := ⟨_, _, _, .array .int, rfl, rfl, rfl, by decide +kernel, fun _ => rfl, fun _ => rfl⟩
theorem ffX6_0 : bc_FF RX6 6 0 := ⟨_, _, _, .object "BreadCity$Bog", rfl, rfl, rfl, by decide +kernel, fun _ => rfl, fun _ => rfl⟩
theorem ffX6_1 : bc_FF RX6 6 1 := ⟨_, _, _, .array .int, rfl, rfl, rfl, by decide +kernel, fun _ => rfl, fun _ => rfl⟩
theorem ffX6_2 : bc_FF RX6 6 2 := ⟨_, _, _, .array .int, rfl, rfl, rfl, by decide +kernel, fun _ => rfl, fun _ => rfl⟩
theorem ffX7_0 : bc_FF RX7 7 0 := ⟨_, _, _, .array .byte, rfl, rfl, rfl, by decide +kernel, fun _ => rfl, fun _ => rfl⟩
theorem ffX8_0 : bc_FF RX8 8 0 := ⟨_, _, _, .object "BreadCity$Bog", rfl, rfl, rfl, by decide +kernel, fun _ => rfl, fun _ => rfl⟩
theorem ffX8_1 : bc_FF RX8 8 1 := ⟨_, _, _, .object "BreadCity$Lines", rfl, rfl, rfl, by decide +kernel, fun _ => rfl, fun _ => rfl⟩
theorem ffX8_2 : bc_FF RX8 8 2 := ⟨_, _, _, .object "BreadCity$City", rfl, rfl, rfl, by decide +kernel, fun _ => rfl, fun _ => rfl⟩
theorem ffX8_3 : bc_FF RX8 8 3 := ⟨_, _, _, .object "BreadCity$City", rfl, rfl, rfl, by decide +kernel, fun _ => rfl, fun _ => rfl⟩
theorem ffX8_4 : bc_FF RX8 8 4 := ⟨_, _, _, .array (.array .int), rfl, rfl, rfl, by decide +kernel, fun _ => rfl, fun _ => rfl⟩
theorem ffX8_5 : bc_FF RX8 8 5 := ⟨_, _, _, .array .boolean, rfl, rfl, rfl, by decide +kernel, fun _ => rfl, fun _ => rfl⟩
theorem ffX8_6 : bc_FF RX8 8 6 := ⟨_, _, _, .array .int, rfl, rfl, rfl, by decide +kernel, fun _ => rfl, fun _ => rfl⟩
theorem ffX9_0 : bc_FF RX9 9 0 := ⟨_, _, _, .object "BreadCity$Text", rfl, rfl, rfl, by decide +kernel, fun _ => rfl, fun _ => rfl⟩
theorem ffX9_1 : bc_FF RX9 9 1 := ⟨_, _, _, .object "BreadCity$Bog", rfl, rfl, rfl, by decide +kernel, fun _ => rfl, fun _ => rfl⟩
theorem ffX9_2 : bc_FF RX9 9 2 := ⟨_, _, _, .object "BreadCity$Bog", rfl, rfl, rfl, by decide +kernel, fun _ => rfl, fun _ => rfl⟩
theorem ffX9_3 : bc_FF RX9 9 3 := ⟨_, _, _, .object "BreadCity$Law", rfl, rfl, rfl, by decide +kernel, fun _ => rfl, fun _ => rfl⟩
theorem ffX9_4 : bc_FF RX9 9 4 := ⟨_, _, _, .object "BreadCity$Plan", rfl, rfl, rfl, by decide +kernel, fun _ => rfl, fun _ => rfl⟩
theorem ffX9_5 : bc_FF RX9 9 5 := ⟨_, _, _, .object "BreadCity$Lines", rfl, rfl, rfl, by decide +kernel, fun _ => rfl, fun _ => rfl⟩
theorem ffX9_6 : bc_FF RX9 9 6 := ⟨_, _, _, .object "BreadCity$City", rfl, rfl, rfl, by decide +kernel, fun _ => rfl, fun _ => rfl⟩
theorem ffX9_7 : bc_FF RX9 9 7 := ⟨_, _, _, .object "BreadCity$City", rfl, rfl, rfl, by decide +kernel, fun _ => rfl, fun _ => rfl⟩
theorem ffX9_8 : bc_FF RX9 9 8 := ⟨_, _, _, .object "BreadCity$Past", rfl, rfl, rfl, by decide +kernel, fun _ => rfl, fun _ => rfl⟩
theorem ffX9_9 : bc_FF RX9 9 9 := ⟨_, _, _, .object "BreadCity$Tracks", rfl, rfl, rfl, by decide +kernel, fun _ => rfl, fun _ => rfl⟩
theorem ffX9_10 : bc_FF RX9 9 10 := ⟨_, _, _, .object "BreadCity$Reach", rfl, rfl, rfl, by decide +kernel, fun _ => rfl, fun _ => rfl⟩
theorem ffX10_1 : bc_FF RX10 10 1 := ⟨_, _, _, .array .int, rfl, rfl, rfl, by decide +kernel, fun _ => rfl, fun _ => rfl⟩
theorem ffX10_9 : bc_FF RX10 10 9 := ⟨_, _, _, .array .int, rfl, rfl, rfl, by decide +kernel, fun _ => rfl, fun _ => rfl⟩
theorem ffX10_10 : bc_FF RX10 10 10 := ⟨_, _, _, .array .int, rfl, rfl, rfl, by decide +kernel, fun _ => rfl, fun _ => rfl⟩
theorem ffX10_11 : bc_FF RX10 10 11 := ⟨_, _, _, .array .int, rfl, rfl, rfl, by decide +kernel, fun _ => rfl, fun _ => rfl⟩
theorem ffX10_12 : bc_FF RX10 10 12 := ⟨_, _, _, .array .int, rfl, rfl, rfl, by decide +kernel, fun _ => rfl, fun _ => rfl⟩
theorem ffX10_13 : bc_FF RX10 10 13 := ⟨_, _, _, .array .int, rfl, rfl, rfl, by decide +kernel, fun _ => rfl, fun _ => rfl⟩
theorem ffX10_14 : bc_FF RX10 10 14 := ⟨_, _, _, .array .int, rfl, rfl, rfl, by decide +kernel, fun _ => rfl, fun _ => rfl⟩
theorem ffX10_15 : bc_FF RX10 10 15 := ⟨_, _, _, .array .int, rfl, rfl, rfl, by decide +kernel, fun _ => rfl, fun _ => rfl⟩
theorem ffX10_16 : bc_FF RX10 10 16 := ⟨_, _, _, .array .int, rfl, rfl, rfl, by decide +kernel, fun _ => rfl, fun _ => rfl⟩
theorem ffX10_17 : bc_FF RX10 10 17 := ⟨_, _, _, .array .int, rfl, rfl, rfl, by decide +kernel, fun _ => rfl, fun _ => rfl⟩
theorem ffX10_29 : bc_FF RX10 10 29 := ⟨_, _, _, .array .int, rfl, rfl, rfl, by decide +kernel, fun _ => rfl, fun _ => rfl⟩
theorem ffX10_30 : bc_FF RX10 10 30 := ⟨_, _, _, .array .int, rfl, rfl, rfl, by decide +kernel, fun _ => rfl, fun _ => rfl⟩
theorem ffX10_31 : bc_FF RX10 10 31 := ⟨_, _, _, .array .int, rfl, rfl, rfl, by decide +kernel, fun _ => rfl, fun _ => rfl⟩
theorem ffX10_32 : bc_FF RX10 10 32 := ⟨_, _, _, .array .int, rfl, rfl, rfl, by decide +kernel, fun _ => rfl, fun _ => rfl⟩
theorem ffX10_33 : bc_FF RX10 10 33 := ⟨_, _, _, .array .int, rfl, rfl, rfl, by decide +kernel, fun _ => rfl, fun _ => rfl⟩
theorem ffX10_36 : bc_FF RX10 10 36 := ⟨_, _, _, .array .int, rfl, rfl, rfl, by decide +kernel, fun _ => rfl, fun _ => rfl⟩
theorem ffX10_37 : bc_FF RX10 10 37 := ⟨_, _, _, .array .int, rfl, rfl, rfl, by decide +kernel, fun _ => rfl, fun _ => rfl⟩
theorem ffX10_38 : bc_FF RX10 10 38 := ⟨_, _, _, .array .int, rfl, rfl, rfl, by decide +kernel, fun _ => rfl, fun _ => rfl⟩
theorem ffX10_45 : bc_FF RX10 10 45 := ⟨_, _, _, .array .int, rfl, rfl, rfl, by decide +kernel, fun _ => rfl, fun _ => rfl⟩
theorem ffX10_46 : bc_FF RX10 10 46 := ⟨_, _, _, .array .int, rfl, rfl, rfl, by decide +kernel, fun _ => rfl, fun _ => rfl⟩
theorem ffX10_47 : bc_FF RX10 10 47 := ⟨_, _, _, .array .int, rfl, rfl, rfl, by decide +kernel, fun _ => rfl, fun _ => rfl⟩
theorem ffX10_48 : bc_FF RX10 10 48 := ⟨_, _, _, .array .int, rfl, rfl, rfl, by decide +kernel, fun _ => rfl, fun _ => rfl⟩
theorem ffX10_49 : bc_FF RX10 10 49 := ⟨_, _, _, .array .int, rfl, rfl, rfl, by decide +kernel, fun _ => rfl, fun _ => rfl⟩
theorem ffX10_51 : bc_FF RX10 10 51 := ⟨_, _, _, .array .int, rfl, rfl, rfl, by decide +kernel, fun _ => rfl, fun _ => rfl⟩
theorem ffX10_52 : bc_FF RX10 10 52 := ⟨_, _, _, .array .int, rfl, rfl, rfl, by decide +kernel, fun _ => rfl, fun _ => rfl⟩
theorem ffX10_53 : bc_FF RX10 10 53 := ⟨_, _, _, .array .int, rfl, rfl, rfl, by decide +kernel, fun _ => rfl, fun _ => rfl⟩
theorem ffX10_54 : bc_FF RX10 10 54 := ⟨_, _, _, .array .boolean, rfl, rfl, rfl, by decide +kernel, fun _ => rfl, fun _ => rfl⟩
theorem ffX10_55 : bc_FF RX10 10 55 := ⟨_, _, _, .array .int, rfl, rfl, rfl, by decide +kernel, fun _ => rfl, fun _ => rfl⟩
theorem ffX10_56 : bc_FF RX10 10 56 := ⟨_, _, _, .array .long, rfl, rfl, rfl, by decide +kernel, fun _ => rfl, fun _ => rfl⟩
theorem ffX10_58 : bc_FF RX10 10 58 := ⟨_, _, _, .array .int, rfl, rfl, rfl, by decide +kernel, fun _ => rfl, fun _ => rfl⟩
theorem oX9_1 : Cond.methodLink RX9 1 Lib.objectInit ∈ bc_G := bc_in1 29 (by decide +kernel) rfl
theorem oX0_3 : Cond.methodLink RX0 3 Lib.objectInit ∈ bc_G := bc_in1 73 (by decide +kernel) rfl
theorem oX1_3 : Cond.methodLink RX1 3 Lib.objectInit ∈ bc_G := bc_in2 8 (by decide +kernel) rfl
theorem oX2_5 : Cond.methodLink RX2 5 Lib.objectInit ∈ bc_G := bc_in1 138 (by decide +kernel) rfl
theorem oX3_3 : Cond.methodLink RX3 3 Lib.objectInit ∈ bc_G := bc_in1 215 (by decide +kernel) rfl
theorem oX4_3 : Cond.methodLink RX4 3 Lib.objectInit ∈ bc_G := bc_in2 89 (by decide +kernel) rfl
theorem oX5_3 : Cond.methodLink RX5 3 Lib.objectInit ∈ bc_G := bc_in1 184 (by decide +kernel) rfl
theorem oX6_3 : Cond.methodLink RX6 3 Lib.objectInit ∈ bc_G := bc_in2 174 (by decide +kernel) rfl
theorem oX7_3 : Cond.methodLink RX7 3 Lib.objectInit ∈ bc_G := bc_in1 37 (by decide +kernel) rfl
theorem oX8_3 : Cond.methodLink RX8 3 Lib.objectInit ∈ bc_G := bc_in2 118 (by decide +kernel) rfl
theorem oX10_11 : Cond.methodLink RX10 11 Lib.objectInit ∈ bc_G := bc_in6 190 (by decide +kernel) rfl
theorem hX9_7 : Cond.classLink RX9 7 RX7 ∈ bc_G := bc_in1 32 (by decide +kernel) rfl
theorem hX9_16 : Cond.classLink RX9 16 RX0 ∈ bc_G := bc_in1 68 (by decide +kernel) rfl
theorem hX9_26 : Cond.classLink RX9 26 RX2 ∈ bc_G := bc_in1 133 (by decide +kernel) rfl
theorem hX9_33 : Cond.classLink RX9 33 RX5 ∈ bc_G := bc_in1 179 (by decide +kernel) rfl
theorem hX9_40 : Cond.classLink RX9 40 RX3 ∈ bc_G := bc_in1 210 (by decide +kernel) rfl
theorem hX9_47 : Cond.classLink RX9 47 RX1 ∈ bc_G := bc_in2 3 (by decide +kernel) rfl
theorem hX9_59 : Cond.classLink RX9 59 RX4 ∈ bc_G := bc_in2 84 (by decide +kernel) rfl
theorem hX9_66 : Cond.classLink RX9 66 RX8 ∈ bc_G := bc_in2 113 (by decide +kernel) rfl
theorem hX9_75 : Cond.classLink RX9 75 RX6 ∈ bc_G := bc_in2 169 (by decide +kernel) rfl
theorem hX4_11 : Cond.classLink RX4 11 ("[" ++ (FieldType.array .int).toString) ∈ bc_G := bc_in2 90 (by decide +kernel) rfl
theorem hX8_9 : Cond.classLink RX8 9 ("[" ++ (FieldType.array .int).toString) ∈ bc_G := bc_in2 119 (by decide +kernel) rfl
theorem nX0 : Cond.instantiable RX0 14 ∈ bc_G := bc_in1 69 (by decide +kernel) rfl
theorem iX0 : Cond.initialized RX0 ∈ bc_G := bc_in1 3 (by decide +kernel) rfl
theorem jX0 : Cond.instanceMethod yX0_init ∈ bc_G := bc_in1 71 (by decide +kernel) rfl
def fs0_0 : List Value := [.int 0, .int 0, .int 0, .int 0, .int 0, .int 0, .int 0, .null, .null, .null, .null, .null, .null, .null]
theorem nX1 : Cond.instantiable RX1 18 ∈ bc_G := bc_in2 4 (by decide +kernel) rfl
theorem iX1 : Cond.initialized RX1 ∈ bc_G := bc_in1 9 (by decide +kernel) rfl
theorem jX1 : Cond.instanceMethod yX1_init ∈ bc_G := bc_in2 6 (by decide +kernel) rfl
def fs0_1 : List Value := [.null, .null, .int 0, .int 0, .int 0, .int 0, .int 0, .int 0, .null, .null, .null, .null, .null, .int 0, .null, .int 0, .int 0, .int 0]
theorem nX2 : Cond.instantiable RX2 6 ∈ bc_G := bc_in1 134 (by decide +kernel) rfl
theorem iX2 : Cond.initialized RX2 ∈ bc_G := bc_in1 4 (by decide +kernel) rfl
theorem jX2 : Cond.instanceMethod yX2_init ∈ bc_G := bc_in1 136 (by decide +kernel) rfl
def fs0_2 : List Value := [.null, .int 0, .null, .int 0, .null, .null]
theorem nX3 : Cond.instantiable RX3 4 ∈ bc_G := bc_in1 211 (by decide +kernel) rfl
theorem iX3 : Cond.initialized RX3 ∈ bc_G := bc_in1 8 (by decide +kernel) rfl
theorem jX3 : Cond.instanceMethod yX3_init ∈ bc_G := bc_in1 213 (by decide +kernel) rfl
def fs0_3 : List Value := [.null, .int 0, .null, .int 0]
theorem nX4 : Cond.instantiable RX4 6 ∈ bc_G := bc_in2 85 (by decide +kernel) rfl
theorem iX4 : Cond.initialized RX4 ∈ bc_G := bc_in1 10 (by decide +kernel) rfl
theorem jX4 : Cond.instanceMethod yX4_init ∈ bc_G := bc_in2 87 (by decide +kernel) rfl
def fs0_4 : List Value := [.null, .int 0, .null, .null, .null, .int 0]
theorem nX5 : Cond.instantiable RX5 7 ∈ bc_G := bc_in1 180 (by decide +kernel) rfl
theorem iX5 : Cond.initialized RX5 ∈ bc_G := bc_in1 7 (by decide +kernel) rfl
theorem jX5 : Cond.instanceMethod yX5_init ∈ bc_G := bc_in1 182 (by decide +kernel) rfl
def fs0_5 : List Value := [.null, .null, .null, .int 0, .int 0, .int 0, .int 0]
theorem nX6 : Cond.instantiable RX6 3 ∈ bc_G := bc_in2 170 (by decide +kernel) rfl
theorem iX6 : Cond.initialized RX6 ∈ bc_G := bc_in1 12 (by decide +kernel) rfl
theorem jX6 : Cond.instanceMethod yX6_init ∈ bc_G := bc_in2 172 (by decide +kernel) rfl
def fs0_6 : List Value := [.null, .null, .null]
theorem nX7 : Cond.instantiable RX7 7 ∈ bc_G := bc_in1 33 (by decide +kernel) rfl
theorem iX7 : Cond.initialized RX7 ∈ bc_G := bc_in1 2 (by decide +kernel) rfl
theorem jX7 : Cond.instanceMethod yX7_init ∈ bc_G := bc_in1 35 (by decide +kernel) rfl
def fs0_7 : List Value := [.null, .int 0, .int 0, .int 0, .int 0, .int 0, .int 0]
theorem nX8 : Cond.instantiable RX8 14 ∈ bc_G := bc_in2 114 (by decide +kernel) rfl
theorem iX8 : Cond.initialized RX8 ∈ bc_G := bc_in1 11 (by decide +kernel) rfl
theorem jX8 : Cond.instanceMethod yX8_init ∈ bc_G := bc_in2 116 (by decide +kernel) rfl
def fs0_8 : List Value := [.null, .null, .null, .null, .null, .null, .null, .int 0, .int 0, .int 0, .int 0, .int 0, .int 0, .int 0]
theorem nX9 : Cond.instantiable RX9 14 ∈ bc_G := bc_in1 25 (by decide +kernel) rfl
theorem iX9 : Cond.initialized RX9 ∈ bc_G := bc_in1 1 (by decide +kernel) rfl
theorem jX9 : Cond.instanceMethod yX9_init ∈ bc_G := bc_in1 27 (by decide +kernel) rfl
def fs0_9 : List Value := [.null, .null, .null, .null, .null, .null, .null, .null, .null, .null, .null, .int 0, .int 0, .int 0]
theorem nX10 : Cond.instantiable RX10 60 ∈ bc_G := bc_in6 186 (by decide +kernel) rfl
theorem iX10 : Cond.initialized RX10 ∈ bc_G := bc_in1 13 (by decide +kernel) rfl
theorem jX10 : Cond.instanceMethod yX10_init ∈ bc_G := bc_in6 188 (by decide +kernel) rfl
def fs0_10 : List Value := [.int 0, .null, .int 0, .int 0, .int 0, .int 0, .int 0, .int 0, .int 0, .null, .null, .null, .null, .null, .null, .null, .null, .null, .int 0, .int 0, .int 0, .int 0, .int 0, .int 0, .int 0, .int 0, .int 0, .int 0, .int 0, .null, .null, .null, .null, .null, .int 0, .int 0, .null, .null, .null, .int 0, .int 0, .int 0, .int 0, .int 0, .int 0, .null, .null, .null, .null, .null, .int 0, .null, .null, .null, .null, .null, .null, .int 0, .null, .int 0]
def LTx : bc_L := [(12, 0, [some 1, none, none, none, none, none, none]), (1, 600, [])]
def LBg : bc_L := [(5, 0, [none, none, none, none, none, none, none, some 1, some 2, some 3, some 4, some 5, some 6, some 7]), (0, 6, []), (0, 6, []), (0, 8, []), (0, 8, []), (0, 6, []), (0, 6, []), (0, 31, [])]
def LPl : bc_L := [(10, 0, [some 1, some 2, some 3, none, none, none, none]), (0, 150, []), (0, 150, []), (0, 150, [])]
def LCt : bc_L := [(6, 0, [some 7, some 15, none, none, none, none, none, none, some 1, some 2, some 3, some 4, some 5, none, some 6, none, none, none]), (0, 8, []), (0, 8, []), (0, 6, []), (0, 6, []), (0, 6, []), (0, 4, [])]
def LPs : bc_L := [(9, 0, [some 1, none, some 18, some 22, some 71, none]), (4, 16, [some 2, some 3, some 4, some 5, some 6, some 7, some 8, some 9, some 10, some 11, some 12, some 13, some 14, some 15, some 16, some 17]), (0, 28, []), (0, 28, []), (0, 28, []), (0, 28, []), (0, 28, []), (0, 28, []), (0, 28, []), (0, 28, []), (0, 28, []), (0, 28, []), (0, 28, []), (0, 28, []), (0, 28, []), (0, 28, []), (0, 28, []), (0, 28, []), (4, 3, [some 19, some 20, some 21]), (0, 28, []), (0, 28, []), (0, 28, []), (4, 48, [some 23, some 24, some 25, some 26, some 27, some 28, some 29, some 30, some 31, some 32, some 33, some 34, some 35, some 36, some 37, some 38, some 39, some 40, some 41, some 42, some 43, some 44, some 45, some 46, some 47, some 48, some 49, some 50, some 51, some 52, some 53, some 54, some 55, some 56, some 57, some 58, some 59, some 60, some 61, some 62, some 63, some 64, some 65, some 66, some 67, some 68, some 69, some 70]), (0, 28, []), (0, 28, []), (0, 28, []), (0, 28, []), (0, 28, []), (0, 28, []), (0, 28, []), (0, 28, []), (0, 28, []), (0, 28, []), (0, 28, []), (0, 28, []), (0, 28, []), (0, 28, []), (0, 28, []), (0, 28, []), (0, 28, []), (0, 28, []), (0, 28, []), (0, 28, []), (0, 28, []), (0, 28, []), (0, 28, []), (0, 28, []), (0, 28, []), (0, 28, []), (0, 28, []), (0, 28, []), (0, 28, []), (0, 28, []), (0, 28, []), (0, 28, []), (0, 28, []), (0, 28, []), (0, 28, []), (0, 28, []), (0, 28, []), (0, 28, []), (0, 28, []), (0, 28, []), (0, 28, []), (0, 28, []), (0, 28, []), (0, 28, []), (0, 28, []), (0, 28, []), (0, 28, []), (0, 28, []), (0, 3, [])]
def LTr : bc_L := [(13, 0, [some 17, some 18, some 19, some 20, some 1, some 15, some 16, none, none, none, none, none, none, none]), (4, 13, [some 2, some 3, some 4, some 5, some 6, some 7, some 8, some 9, some 10, some 11, some 12, some 13, some 14]), (0, 256, []), (0, 256, []), (0, 256, []), (0, 256, []), (0, 256, []), (0, 256, []), (0, 256, []), (0, 256, []), (0, 256, []), (0, 256, []), (0, 256, []), (0, 256, []), (0, 256, []), (2, 256, []), (0, 961, [])]
def LRc : bc_L := [(11, 0, [some 3, some 1, some 2]), (0, 31, []), (0, 31, [])]
def LCb : bc_L := LCt ++ [(5, 0, bc_bogR 7)]
