/-! THE CONSTRUCTORS (by program, wip/whole/gen/m_ctor.py) -/
abbrev zI (E : zE) (N : Nat) : va_E := .inl (eC E 0, (N, .inl (fun _ => Int32.ofInt 0)))
abbrev zZ (E : zE) (N : Nat) : va_E := .inl (eC E 1, (N, .inl (fun _ => Int32.ofInt 0)))
abbrev zJ (E : zE) (N : Nat) : va_E := .inl (eC E 2, (N, .inr (.inl (fun _ => Int64.ofInt 0))))
abbrev zT (E : zE) (N : Nat) (f : Nat → Int) : va_E := .inl (eC E 0, (N, .inl (fun j => Int32.ofInt (f j))))
abbrev zS (E : zE) (N : Nat) (f : Nat → Option Nat) : va_E := .inl (eC E 3, (N, .inr (.inr (.inr (.inr f)))))
theorem ha_i (N : Nat) (cA : ClassId) : vp_cell cA (N, .inl (fun _ => Int32.ofInt 0)) = arrV cA N (fun _ => defaultValue .int) := rfl
theorem ha_z (N : Nat) (cA : ClassId) : vp_cell cA (N, .inl (fun _ => Int32.ofInt 0)) = arrV cA N (fun _ => defaultValue .boolean) := rfl
theorem ha_l (N : Nat) (cA : ClassId) : vp_cell cA (N, .inr (.inl (fun _ => Int64.ofInt 0))) = arrV cA N (fun _ => defaultValue .long) := rfl
theorem zw_ai : Cond.arrayClass .int ∈ zTs := zTb1 119 (by decide +kernel) rfl
theorem zw_az : Cond.arrayClass .boolean ∈ zTs := zTb1 120 (by decide +kernel) rfl
theorem zw_al : Cond.arrayClass .long ∈ zTs := zTb8 82 (by decide +kernel) rfl
theorem zw_oi : Cond.instanceMethod Lib.objectInit ∈ zTs := zTb1 26 (by decide +kernel) rfl
theorem zw_oc : Cond.code Lib.objectInit ⟨#[0xb1]⟩ 1 none ∈ zTs := zTb1 27 (by decide +kernel) rfl
abbrev mX0_init : zM := (yX0_init, cX0_init, 1, none)
theorem fsX0 : ∀ j, j < 10 → defaultValue (tyX0 j) = vp_V [.null, ziv 0, .null, ziv 0, ziv 0, ziv 0, ziv 0, ziv 0, ziv 0, ziv 0] j := by decide +kernel
abbrev mX1_init : zM := (yX1_init, cX1_init, 1, none)
theorem fsX1 : ∀ j, j < 16 → defaultValue (tyX1 j) = vp_V [ziv 0, .null, .null, ziv 0, .null, .null, .null, .null, ziv 0, ziv 0, .null, ziv 0, .null, .null, .null, .null] j := by decide +kernel
abbrev mX2_init : zM := (yX2_init, cX2_init, 1, none)
theorem fsX2 : ∀ j, j < 9 → defaultValue (tyX2 j) = vp_V [.null, .null, .null, .null, .null, ziv 0, ziv 0, ziv 0, ziv 0] j := by decide +kernel
abbrev mX3_init : zM := (yX3_init, cX3_init, 1, none)
theorem fsX3 : ∀ j, j < 8 → defaultValue (tyX3 j) = vp_V [.null, .null, ziv 0, ziv 0, .null, .null, ziv 0, .null] j := by decide +kernel
abbrev mX4_init : zM := (yX4_init, cX4_init, 1, none)
theorem fsX4 : ∀ j, j < 5 → defaultValue (tyX4 j) = vp_V [.null, .null, ziv 0, ziv 0, ziv 0] j := by decide +kernel
abbrev mX5_init : zM := (yX5_init, cX5_init, 1, none)
theorem fsX5 : ∀ j, j < 16 → defaultValue (tyX5 j) = vp_V [.null, ziv 0, ziv 0, .null, .null, .null, .null, .null, ziv 0, .null, .null, .null, .null, .null, .null, ziv 0] j := by decide +kernel
abbrev mX6_init : zM := (yX6_init, cX6_init, 1, none)
theorem fsX6 : ∀ j, j < 66 → defaultValue (tyX6 j) = vp_V [.null, .null, .null, .null, ziv 0, .null, .null, .null, .null, .null, .null, .null, .null, .null, .null, .null, .null, ziv 0, ziv 0, ziv 0, ziv 0, ziv 0, ziv 0, ziv 0, ziv 0, ziv 0, ziv 0, ziv 0, .null, .null, .null, .null, ziv 0, ziv 0, ziv 0, ziv 0, ziv 0, ziv 0, .null, .null, .null, .null, .null, ziv 0, ziv 0, .null, .null, .null, ziv 0, ziv 0, .null, .null, .null, .null, .null, ziv 0, .null, ziv 0, ziv 0, ziv 0, ziv 0, .null, .null, .null, .null, .null] j := by decide +kernel
theorem ol_1 : Cond.methodLink RX1 3 Lib.objectInit ∈ zTs := zTb1 33 (by decide +kernel) rfl
theorem fl1_9 : Cond.fieldLink RX1 9 (TX1 1).1 (TX1 1).2.1 (TX1 1).2.2.1 ∈ zTs := zTs_of (by decide +kernel) rfl
theorem fl1_15 : Cond.fieldLink RX1 15 (TX1 2).1 (TX1 2).2.1 (TX1 2).2.2.1 ∈ zTs := zTs_of (by decide +kernel) rfl
theorem fl1_18 : Cond.fieldLink RX1 18 (TX1 4).1 (TX1 4).2.1 (TX1 4).2.2.1 ∈ zTs := zTs_of (by decide +kernel) rfl
theorem fl1_21 : Cond.fieldLink RX1 21 (TX1 5).1 (TX1 5).2.1 (TX1 5).2.2.1 ∈ zTs := zTs_of (by decide +kernel) rfl
theorem fl1_24 : Cond.fieldLink RX1 24 (TX1 6).1 (TX1 6).2.1 (TX1 6).2.2.1 ∈ zTs := zTs_of (by decide +kernel) rfl
theorem fl1_27 : Cond.fieldLink RX1 27 (TX1 7).1 (TX1 7).2.1 (TX1 7).2.2.1 ∈ zTs := zTs_of (by decide +kernel) rfl
theorem fl1_31 : Cond.fieldLink RX1 31 (TX1 10).1 (TX1 10).2.1 (TX1 10).2.2.1 ∈ zTs := zTs_of (by decide +kernel) rfl
theorem fl1_34 : Cond.fieldLink RX1 34 (TX1 12).1 (TX1 12).2.1 (TX1 12).2.2.1 ∈ zTs := zTs_of (by decide +kernel) rfl
theorem fl1_37 : Cond.fieldLink RX1 37 (TX1 13).1 (TX1 13).2.1 (TX1 13).2.2.1 ∈ zTs := zTs_of (by decide +kernel) rfl
theorem fl1_40 : Cond.fieldLink RX1 40 (TX1 14).1 (TX1 14).2.1 (TX1 14).2.2.1 ∈ zTs := zTs_of (by decide +kernel) rfl
theorem fl1_43 : Cond.fieldLink RX1 43 (TX1 15).1 (TX1 15).2.1 (TX1 15).2.2.1 ∈ zTs := zTs_of (by decide +kernel) rfl
theorem fl1_46 : Cond.fieldLink RX1 46 (TX1 8).1 (TX1 8).2.1 (TX1 8).2.2.1 ∈ zTs := zTs_of (by decide +kernel) rfl
theorem ol_2 : Cond.methodLink RX2 3 Lib.objectInit ∈ zTs := zTb1 197 (by decide +kernel) rfl
theorem fl2_9 : Cond.fieldLink RX2 9 (TX2 0).1 (TX2 0).2.1 (TX2 0).2.2.1 ∈ zTs := zTs_of (by decide +kernel) rfl
theorem fl2_15 : Cond.fieldLink RX2 15 (TX2 1).1 (TX2 1).2.1 (TX2 1).2.2.1 ∈ zTs := zTs_of (by decide +kernel) rfl
theorem fl2_18 : Cond.fieldLink RX2 18 (TX2 2).1 (TX2 2).2.1 (TX2 2).2.2.1 ∈ zTs := zTs_of (by decide +kernel) rfl
theorem fl2_21 : Cond.fieldLink RX2 21 (TX2 3).1 (TX2 3).2.1 (TX2 3).2.2.1 ∈ zTs := zTs_of (by decide +kernel) rfl
theorem fl2_24 : Cond.fieldLink RX2 24 (TX2 4).1 (TX2 4).2.1 (TX2 4).2.2.1 ∈ zTs := zTs_of (by decide +kernel) rfl
theorem fl2_27 : Cond.fieldLink RX2 27 (TX2 5).1 (TX2 5).2.1 (TX2 5).2.2.1 ∈ zTs := zTs_of (by decide +kernel) rfl
theorem fl2_31 : Cond.fieldLink RX2 31 (TX2 7).1 (TX2 7).2.1 (TX2 7).2.2.1 ∈ zTs := zTs_of (by decide +kernel) rfl
theorem ol_4 : Cond.methodLink RX4 3 Lib.objectInit ∈ zTs := zTb1 166 (by decide +kernel) rfl
theorem fl4_9 : Cond.fieldLink RX4 9 (TX4 0).1 (TX4 0).2.1 (TX4 0).2.2.1 ∈ zTs := zTs_of (by decide +kernel) rfl
theorem fl4_15 : Cond.fieldLink RX4 15 (TX4 1).1 (TX4 1).2.1 (TX4 1).2.2.1 ∈ zTs := zTs_of (by decide +kernel) rfl
theorem ol_0 : Cond.methodLink RX0 3 Lib.objectInit ∈ zTs := zTb1 126 (by decide +kernel) rfl
theorem fl0_9 : Cond.fieldLink RX0 9 (TX0 0).1 (TX0 0).2.1 (TX0 0).2.2.1 ∈ zTs := zTs_of (by decide +kernel) rfl
theorem cl0_15 : Cond.classLink RX0 15 RX1 ∈ zTs := zTb1 127 (by decide +kernel) rfl
theorem cn_1 : Cond.instantiable RX1 16 ∈ zTs := zTb1 29 (by decide +kernel) rfl
theorem ci_1 : Cond.initialized RX1 ∈ zTs := zTb1 2 (by decide +kernel) rfl
theorem il0_17 : zLI RX0 17 mX1_init := ⟨⟨zTb1 32 (by decide +kernel) rfl, zTb1 2 (by decide +kernel) rfl, zTb1 128 (by decide +kernel) rfl, zTb1 31 (by decide +kernel) rfl⟩, ⟨rfl, rfl⟩, by decide, by decide, by decide +kernel⟩
theorem fl0_18 : Cond.fieldLink RX0 18 (TX0 2).1 (TX0 2).2.1 (TX0 2).2.2.1 ∈ zTs := zTs_of (by decide +kernel) rfl
theorem ol_3 : Cond.methodLink RX3 3 Lib.objectInit ∈ zTs := zTb1 191 (by decide +kernel) rfl
theorem cl3_9 : Cond.classLink RX3 9 RX2 ∈ zTs := zTb1 192 (by decide +kernel) rfl
theorem cn_2 : Cond.instantiable RX2 9 ∈ zTs := zTb1 193 (by decide +kernel) rfl
theorem ci_2 : Cond.initialized RX2 ∈ zTs := zTb1 6 (by decide +kernel) rfl
theorem il3_11 : zLI RX3 11 mX2_init := ⟨⟨zTb1 196 (by decide +kernel) rfl, zTb1 6 (by decide +kernel) rfl, zTb1 194 (by decide +kernel) rfl, zTb1 195 (by decide +kernel) rfl⟩, ⟨rfl, rfl⟩, by decide, by decide, by decide +kernel⟩
theorem fl3_12 : Cond.fieldLink RX3 12 (TX3 0).1 (TX3 0).2.1 (TX3 0).2.2.1 ∈ zTs := zTs_of (by decide +kernel) rfl
theorem fl3_18 : Cond.fieldLink RX3 18 (TX3 1).1 (TX3 1).2.1 (TX3 1).2.2.1 ∈ zTs := zTs_of (by decide +kernel) rfl
theorem fl3_22 : Cond.fieldLink RX3 22 (TX3 4).1 (TX3 4).2.1 (TX3 4).2.2.1 ∈ zTs := zTs_of (by decide +kernel) rfl
theorem fl3_25 : Cond.fieldLink RX3 25 (TX3 5).1 (TX3 5).2.1 (TX3 5).2.2.1 ∈ zTs := zTs_of (by decide +kernel) rfl
theorem fl3_28 : Cond.fieldLink RX3 28 (TX3 7).1 (TX3 7).2.1 (TX3 7).2.2.1 ∈ zTs := zTs_of (by decide +kernel) rfl
theorem ol_5 : Cond.methodLink RX5 1 Lib.objectInit ∈ zTs := zTb1 25 (by decide +kernel) rfl
theorem fl5_9 : Cond.fieldLink RX5 9 (TX5 0).1 (TX5 0).2.1 (TX5 0).2.2.1 ∈ zTs := zTs_of (by decide +kernel) rfl
theorem fl5_13 : Cond.fieldLink RX5 13 (TX5 2).1 (TX5 2).2.1 (TX5 2).2.2.1 ∈ zTs := zTs_of (by decide +kernel) rfl
theorem cl5_17 : Cond.classLink RX5 17 RX1 ∈ zTs := zTb1 28 (by decide +kernel) rfl
theorem il5_19 : zLI RX5 19 mX1_init := ⟨⟨zTb1 32 (by decide +kernel) rfl, zTb1 2 (by decide +kernel) rfl, zTb1 30 (by decide +kernel) rfl, zTb1 31 (by decide +kernel) rfl⟩, ⟨rfl, rfl⟩, by decide, by decide, by decide +kernel⟩
theorem fl5_20 : Cond.fieldLink RX5 20 (TX5 3).1 (TX5 3).2.1 (TX5 3).2.2.1 ∈ zTs := zTs_of (by decide +kernel) rfl
theorem cl5_24 : Cond.classLink RX5 24 RX0 ∈ zTs := zTb1 121 (by decide +kernel) rfl
theorem cn_0 : Cond.instantiable RX0 10 ∈ zTs := zTb1 122 (by decide +kernel) rfl
theorem ci_0 : Cond.initialized RX0 ∈ zTs := zTb1 3 (by decide +kernel) rfl
theorem il5_26 : zLN 26 mX0_init := ⟨⟨zTb1 125 (by decide +kernel) rfl, zTb1 3 (by decide +kernel) rfl, by decide, zTb1 124 (by decide +kernel) rfl⟩, ⟨rfl, rfl⟩, by decide, by decide, by decide +kernel⟩
theorem fl5_27 : Cond.fieldLink RX5 27 (TX5 4).1 (TX5 4).2.1 (TX5 4).2.2.1 ∈ zTs := zTs_of (by decide +kernel) rfl
theorem cl5_31 : Cond.classLink RX5 31 RX4 ∈ zTs := zTb1 161 (by decide +kernel) rfl
theorem cn_4 : Cond.instantiable RX4 5 ∈ zTs := zTb1 162 (by decide +kernel) rfl
theorem ci_4 : Cond.initialized RX4 ∈ zTs := zTb1 4 (by decide +kernel) rfl
theorem il5_33 : zLN 33 mX4_init := ⟨⟨zTb1 165 (by decide +kernel) rfl, zTb1 4 (by decide +kernel) rfl, by decide, zTb1 164 (by decide +kernel) rfl⟩, ⟨rfl, rfl⟩, by decide, by decide, by decide +kernel⟩
theorem fl5_34 : Cond.fieldLink RX5 34 (TX5 5).1 (TX5 5).2.1 (TX5 5).2.2.1 ∈ zTs := zTs_of (by decide +kernel) rfl
theorem cl5_38 : Cond.classLink RX5 38 RX3 ∈ zTs := zTb1 186 (by decide +kernel) rfl
theorem cn_3 : Cond.instantiable RX3 8 ∈ zTs := zTb1 187 (by decide +kernel) rfl
theorem ci_3 : Cond.initialized RX3 ∈ zTs := zTb1 5 (by decide +kernel) rfl
theorem il5_40 : zLN 40 mX3_init := ⟨⟨zTb1 190 (by decide +kernel) rfl, zTb1 5 (by decide +kernel) rfl, by decide, zTb1 189 (by decide +kernel) rfl⟩, ⟨rfl, rfl⟩, by decide, by decide, by decide +kernel⟩
theorem fl5_41 : Cond.fieldLink RX5 41 (TX5 6).1 (TX5 6).2.1 (TX5 6).2.2.1 ∈ zTs := zTs_of (by decide +kernel) rfl
theorem fl5_45 : Cond.fieldLink RX5 45 (TX5 7).1 (TX5 7).2.1 (TX5 7).2.2.1 ∈ zTs := zTs_of (by decide +kernel) rfl
theorem cl5_48 : Cond.classLink RX5 48 RX2 ∈ zTs := zTb2 29 (by decide +kernel) rfl
theorem il5_50 : zLI RX5 50 mX2_init := ⟨⟨zTb1 196 (by decide +kernel) rfl, zTb1 6 (by decide +kernel) rfl, zTb2 30 (by decide +kernel) rfl, zTb1 195 (by decide +kernel) rfl⟩, ⟨rfl, rfl⟩, by decide, by decide, by decide +kernel⟩
theorem fl5_51 : Cond.fieldLink RX5 51 (TX5 9).1 (TX5 9).2.1 (TX5 9).2.2.1 ∈ zTs := zTs_of (by decide +kernel) rfl
theorem fl5_55 : Cond.fieldLink RX5 55 (TX5 10).1 (TX5 10).2.1 (TX5 10).2.2.1 ∈ zTs := zTs_of (by decide +kernel) rfl
theorem fl5_58 : Cond.fieldLink RX5 58 (TX5 11).1 (TX5 11).2.1 (TX5 11).2.2.1 ∈ zTs := zTs_of (by decide +kernel) rfl
theorem fl5_61 : Cond.fieldLink RX5 61 (TX5 12).1 (TX5 12).2.1 (TX5 12).2.2.1 ∈ zTs := zTs_of (by decide +kernel) rfl
theorem fl5_64 : Cond.fieldLink RX5 64 (TX5 13).1 (TX5 13).2.1 (TX5 13).2.2.1 ∈ zTs := zTs_of (by decide +kernel) rfl
theorem fl5_67 : Cond.fieldLink RX5 67 (TX5 14).1 (TX5 14).2.1 (TX5 14).2.2.1 ∈ zTs := zTs_of (by decide +kernel) rfl
theorem ol_6 : Cond.methodLink RX6 3 Lib.objectInit ∈ zTs := zTb5 141 (by decide +kernel) rfl
theorem cl6_9 : Cond.classLink RX6 9 "java/lang/String" ∈ zTs := zTb5 142 (by decide +kernel) rfl
theorem fl6_15 : Cond.fieldLink RX6 15 (TX6 0).1 (TX6 0).2.1 (TX6 0).2.2.1 ∈ zTs := zTs_of (by decide +kernel) rfl
theorem fl6_33 : Cond.fieldLink RX6 33 (TX6 1).1 (TX6 1).2.1 (TX6 1).2.2.1 ∈ zTs := zTs_of (by decide +kernel) rfl
theorem fl6_36 : Cond.fieldLink RX6 36 (TX6 2).1 (TX6 2).2.1 (TX6 2).2.2.1 ∈ zTs := zTs_of (by decide +kernel) rfl
theorem fl6_39 : Cond.fieldLink RX6 39 (TX6 3).1 (TX6 3).2.1 (TX6 3).2.2.1 ∈ zTs := zTs_of (by decide +kernel) rfl
theorem fl6_42 : Cond.fieldLink RX6 42 (TX6 5).1 (TX6 5).2.1 (TX6 5).2.2.1 ∈ zTs := zTs_of (by decide +kernel) rfl
theorem fl6_46 : Cond.fieldLink RX6 46 (TX6 6).1 (TX6 6).2.1 (TX6 6).2.2.1 ∈ zTs := zTs_of (by decide +kernel) rfl
theorem fl6_49 : Cond.fieldLink RX6 49 (TX6 7).1 (TX6 7).2.1 (TX6 7).2.2.1 ∈ zTs := zTs_of (by decide +kernel) rfl
theorem fl6_52 : Cond.fieldLink RX6 52 (TX6 8).1 (TX6 8).2.1 (TX6 8).2.2.1 ∈ zTs := zTs_of (by decide +kernel) rfl
theorem fl6_55 : Cond.fieldLink RX6 55 (TX6 9).1 (TX6 9).2.1 (TX6 9).2.2.1 ∈ zTs := zTs_of (by decide +kernel) rfl
theorem fl6_58 : Cond.fieldLink RX6 58 (TX6 10).1 (TX6 10).2.1 (TX6 10).2.2.1 ∈ zTs := zTs_of (by decide +kernel) rfl
theorem fl6_61 : Cond.fieldLink RX6 61 (TX6 11).1 (TX6 11).2.1 (TX6 11).2.2.1 ∈ zTs := zTs_of (by decide +kernel) rfl
theorem fl6_64 : Cond.fieldLink RX6 64 (TX6 12).1 (TX6 12).2.1 (TX6 12).2.2.1 ∈ zTs := zTs_of (by decide +kernel) rfl
theorem fl6_67 : Cond.fieldLink RX6 67 (TX6 13).1 (TX6 13).2.1 (TX6 13).2.2.1 ∈ zTs := zTs_of (by decide +kernel) rfl
theorem fl6_70 : Cond.fieldLink RX6 70 (TX6 14).1 (TX6 14).2.1 (TX6 14).2.2.1 ∈ zTs := zTs_of (by decide +kernel) rfl
theorem fl6_73 : Cond.fieldLink RX6 73 (TX6 15).1 (TX6 15).2.1 (TX6 15).2.2.1 ∈ zTs := zTs_of (by decide +kernel) rfl
theorem fl6_75 : Cond.fieldLink RX6 75 (TX6 16).1 (TX6 16).2.1 (TX6 16).2.2.1 ∈ zTs := zTs_of (by decide +kernel) rfl
theorem fl6_78 : Cond.fieldLink RX6 78 (TX6 26).1 (TX6 26).2.1 (TX6 26).2.2.1 ∈ zTs := zTs_of (by decide +kernel) rfl
theorem fl6_82 : Cond.fieldLink RX6 82 (TX6 28).1 (TX6 28).2.1 (TX6 28).2.2.1 ∈ zTs := zTs_of (by decide +kernel) rfl
theorem fl6_85 : Cond.fieldLink RX6 85 (TX6 29).1 (TX6 29).2.1 (TX6 29).2.2.1 ∈ zTs := zTs_of (by decide +kernel) rfl
theorem fl6_88 : Cond.fieldLink RX6 88 (TX6 30).1 (TX6 30).2.1 (TX6 30).2.2.1 ∈ zTs := zTs_of (by decide +kernel) rfl
theorem fl6_91 : Cond.fieldLink RX6 91 (TX6 31).1 (TX6 31).2.1 (TX6 31).2.2.1 ∈ zTs := zTs_of (by decide +kernel) rfl
theorem fl6_94 : Cond.fieldLink RX6 94 (TX6 38).1 (TX6 38).2.1 (TX6 38).2.2.1 ∈ zTs := zTs_of (by decide +kernel) rfl
theorem fl6_97 : Cond.fieldLink RX6 97 (TX6 39).1 (TX6 39).2.1 (TX6 39).2.2.1 ∈ zTs := zTs_of (by decide +kernel) rfl
theorem fl6_100 : Cond.fieldLink RX6 100 (TX6 40).1 (TX6 40).2.1 (TX6 40).2.2.1 ∈ zTs := zTs_of (by decide +kernel) rfl
theorem fl6_103 : Cond.fieldLink RX6 103 (TX6 41).1 (TX6 41).2.1 (TX6 41).2.2.1 ∈ zTs := zTs_of (by decide +kernel) rfl
theorem fl6_106 : Cond.fieldLink RX6 106 (TX6 42).1 (TX6 42).2.1 (TX6 42).2.2.1 ∈ zTs := zTs_of (by decide +kernel) rfl
theorem fl6_109 : Cond.fieldLink RX6 109 (TX6 45).1 (TX6 45).2.1 (TX6 45).2.2.1 ∈ zTs := zTs_of (by decide +kernel) rfl
theorem fl6_112 : Cond.fieldLink RX6 112 (TX6 46).1 (TX6 46).2.1 (TX6 46).2.2.1 ∈ zTs := zTs_of (by decide +kernel) rfl
theorem fl6_115 : Cond.fieldLink RX6 115 (TX6 47).1 (TX6 47).2.1 (TX6 47).2.2.1 ∈ zTs := zTs_of (by decide +kernel) rfl
theorem fl6_118 : Cond.fieldLink RX6 118 (TX6 50).1 (TX6 50).2.1 (TX6 50).2.2.1 ∈ zTs := zTs_of (by decide +kernel) rfl
theorem fl6_121 : Cond.fieldLink RX6 121 (TX6 51).1 (TX6 51).2.1 (TX6 51).2.2.1 ∈ zTs := zTs_of (by decide +kernel) rfl
theorem fl6_124 : Cond.fieldLink RX6 124 (TX6 52).1 (TX6 52).2.1 (TX6 52).2.2.1 ∈ zTs := zTs_of (by decide +kernel) rfl
theorem fl6_127 : Cond.fieldLink RX6 127 (TX6 53).1 (TX6 53).2.1 (TX6 53).2.2.1 ∈ zTs := zTs_of (by decide +kernel) rfl
theorem fl6_130 : Cond.fieldLink RX6 130 (TX6 54).1 (TX6 54).2.1 (TX6 54).2.2.1 ∈ zTs := zTs_of (by decide +kernel) rfl
theorem fl6_133 : Cond.fieldLink RX6 133 (TX6 56).1 (TX6 56).2.1 (TX6 56).2.2.1 ∈ zTs := zTs_of (by decide +kernel) rfl
theorem fl6_136 : Cond.fieldLink RX6 136 (TX6 61).1 (TX6 61).2.1 (TX6 61).2.2.1 ∈ zTs := zTs_of (by decide +kernel) rfl
theorem fl6_139 : Cond.fieldLink RX6 139 (TX6 62).1 (TX6 62).2.1 (TX6 62).2.2.1 ∈ zTs := zTs_of (by decide +kernel) rfl
theorem fl6_142 : Cond.fieldLink RX6 142 (TX6 63).1 (TX6 63).2.1 (TX6 63).2.2.1 ∈ zTs := zTs_of (by decide +kernel) rfl
theorem fl6_145 : Cond.fieldLink RX6 145 (TX6 64).1 (TX6 64).2.1 (TX6 64).2.2.1 ∈ zTs := zTs_of (by decide +kernel) rfl
theorem fl6_148 : Cond.fieldLink RX6 148 (TX6 65).1 (TX6 65).2.1 (TX6 65).2.2.1 ∈ zTs := zTs_of (by decide +kernel) rfl
theorem fl6_151 : Cond.fieldLink RX6 151 (TX6 33).1 (TX6 33).2.1 (TX6 33).2.2.1 ∈ zTs := zTs_of (by decide +kernel) rfl
theorem fl6_154 : Cond.fieldLink RX6 154 (TX6 34).1 (TX6 34).2.1 (TX6 34).2.2.1 ∈ zTs := zTs_of (by decide +kernel) rfl
theorem clL_8 : Cond.classLink RL 8 RX5 ∈ zTs := zTb1 20 (by decide +kernel) rfl
theorem cn_5 : Cond.instantiable RX5 16 ∈ zTs := zTb1 21 (by decide +kernel) rfl
theorem ci_5 : Cond.initialized RX5 ∈ zTs := zTb1 1 (by decide +kernel) rfl
theorem clL_117 : Cond.classLink RL 117 RX6 ∈ zTs := zTb5 136 (by decide +kernel) rfl
theorem cn_6 : Cond.instantiable RX6 66 ∈ zTs := zTb5 137 (by decide +kernel) rfl
theorem ci_6 : Cond.initialized RX6 ∈ zTs := zTb1 7 (by decide +kernel) rfl
theorem ilL_116 : zLI RL 116 mX5_init := ⟨⟨zTb1 24 (by decide +kernel) rfl, zTb1 1 (by decide +kernel) rfl, zTb1 22 (by decide +kernel) rfl, zTb1 23 (by decide +kernel) rfl⟩, ⟨rfl, rfl⟩, by decide, by decide, by decide +kernel⟩
theorem ilL_119 : zLI RL 119 mX6_init := ⟨⟨zTb5 140 (by decide +kernel) rfl, zTb1 7 (by decide +kernel) rfl, zTb5 138 (by decide +kernel) rfl, zTb5 139 (by decide +kernel) rfl⟩, ⟨rfl, rfl⟩, by decide, by decide, by decide +kernel⟩
