/-! THE CONSTRUCTORS of the class -/
def poX1 (E : zE) (h0 : Nat) (q : Nat → Nat) : va_W := [(h0, .inr (1, [ziv 0, .ref (q 1), .ref (q 2), ziv 0, .ref (q 3), .ref (q 4), .ref (q 5), .ref (q 6), ziv 60, ziv 0, .ref (q 7), ziv 0, .ref (q 8), .ref (q 9), .ref (q 10), .ref (q 11)])), (q 1, zI E 8), (q 2, zI E 8), (q 3, zI E 8), (q 4, zI E 8), (q 5, zI E 8), (q 6, zZ E 8), (q 7, zI E 700), (q 8, zI E 2), (q 9, zI E 2), (q 10, zZ E 2), (q 11, zZ E 2)]
set_option maxRecDepth 100000 in
theorem nwX1 {E : zE} : zNew E mX1_init 1 2 11 756 [ziv 0, .null, .null, ziv 0, .null, .null, .null, .null, ziv 0, ziv 0, .null, ziv 0, .null, .null, .null, .null] (poX1 E) := by
  refine zNew_of (by decide) rfl rfl (fun h0 sz a hme => ?_)
  refine zB_aload_n dX1_init_0 rfl rfl ?_
  refine zB_obj ol_1 zw_oi zw_oc ⟨Nat.le_of_ble_eq_true rfl, Nat.le_of_ble_eq_true rfl⟩ dX1_init_1 ?_
  refine zB_aload_n dX1_init_4 rfl rfl ?_
  refine zB_bipush dX1_init_5 (by decide) ?_
  refine zB_newa (aty := .int) (ty := .int) (t0 := 0) (N := 8) (ws' := fun q1 => [(h0, .inr (1, [ziv 0, .null, .null, ziv 0, .null, .null, .null, .null, ziv 0, ziv 0, .null, ziv 0, .null, .null, .null, .null])), (q1, zI E 8)]) rfl zw_ai rfl (ha_i 8) (by decide) ⟨Nat.le_of_ble_eq_true rfl, Nat.le_of_ble_eq_true rfl⟩ dX1_init_7 (fun _ => rfl) (fun q1 => ?_)
  refine zB_put (ci := 1) (k := 0) (j := 1) (ws' := [(h0, .inr (1, [ziv 0, .ref q1, .null, ziv 0, .null, .null, .null, .null, ziv 0, ziv 0, .null, ziv 0, .null, .null, .null, .null])), (q1, zI E 8)]) rfl zin1 tyX1_ok nmX1 hme rfl ⟨by decide, Nat.le_of_ble_eq_true rfl⟩ fl1_9 rfl ⟨rfl, rfl⟩ dX1_init_9 rfl ?_
  refine zB_aload_n dX1_init_12 rfl rfl ?_
  refine zB_bipush dX1_init_13 (by decide) ?_
  refine zB_newa (aty := .int) (ty := .int) (t0 := 0) (N := 8) (ws' := fun q2 => [(h0, .inr (1, [ziv 0, .ref q1, .null, ziv 0, .null, .null, .null, .null, ziv 0, ziv 0, .null, ziv 0, .null, .null, .null, .null])), (q1, zI E 8), (q2, zI E 8)]) rfl zw_ai rfl (ha_i 8) (by decide) ⟨Nat.le_of_ble_eq_true rfl, Nat.le_of_ble_eq_true rfl⟩ dX1_init_15 (fun _ => rfl) (fun q2 => ?_)
  refine zB_put (ci := 1) (k := 0) (j := 2) (ws' := [(h0, .inr (1, [ziv 0, .ref q1, .ref q2, ziv 0, .null, .null, .null, .null, ziv 0, ziv 0, .null, ziv 0, .null, .null, .null, .null])), (q1, zI E 8), (q2, zI E 8)]) rfl zin1 tyX1_ok nmX1 hme rfl ⟨by decide, Nat.le_of_ble_eq_true rfl⟩ fl1_15 rfl ⟨rfl, rfl⟩ dX1_init_17 rfl ?_
  refine zB_aload_n dX1_init_20 rfl rfl ?_
  refine zB_bipush dX1_init_21 (by decide) ?_
  refine zB_newa (aty := .int) (ty := .int) (t0 := 0) (N := 8) (ws' := fun q3 => [(h0, .inr (1, [ziv 0, .ref q1, .ref q2, ziv 0, .null, .null, .null, .null, ziv 0, ziv 0, .null, ziv 0, .null, .null, .null, .null])), (q1, zI E 8), (q2, zI E 8), (q3, zI E 8)]) rfl zw_ai rfl (ha_i 8) (by decide) ⟨Nat.le_of_ble_eq_true rfl, Nat.le_of_ble_eq_true rfl⟩ dX1_init_23 (fun _ => rfl) (fun q3 => ?_)
  refine zB_put (ci := 1) (k := 0) (j := 4) (ws' := [(h0, .inr (1, [ziv 0, .ref q1, .ref q2, ziv 0, .ref q3, .null, .null, .null, ziv 0, ziv 0, .null, ziv 0, .null, .null, .null, .null])), (q1, zI E 8), (q2, zI E 8), (q3, zI E 8)]) rfl zin1 tyX1_ok nmX1 hme rfl ⟨by decide, Nat.le_of_ble_eq_true rfl⟩ fl1_18 rfl ⟨rfl, rfl⟩ dX1_init_25 rfl ?_
  refine zB_aload_n dX1_init_28 rfl rfl ?_
  refine zB_bipush dX1_init_29 (by decide) ?_
  refine zB_newa (aty := .int) (ty := .int) (t0 := 0) (N := 8) (ws' := fun q4 => [(h0, .inr (1, [ziv 0, .ref q1, .ref q2, ziv 0, .ref q3, .null, .null, .null, ziv 0, ziv 0, .null, ziv 0, .null, .null, .null, .null])), (q1, zI E 8), (q2, zI E 8), (q3, zI E 8), (q4, zI E 8)]) rfl zw_ai rfl (ha_i 8) (by decide) ⟨Nat.le_of_ble_eq_true rfl, Nat.le_of_ble_eq_true rfl⟩ dX1_init_31 (fun _ => rfl) (fun q4 => ?_)
  refine zB_put (ci := 1) (k := 0) (j := 5) (ws' := [(h0, .inr (1, [ziv 0, .ref q1, .ref q2, ziv 0, .ref q3, .ref q4, .null, .null, ziv 0, ziv 0, .null, ziv 0, .null, .null, .null, .null])), (q1, zI E 8), (q2, zI E 8), (q3, zI E 8), (q4, zI E 8)]) rfl zin1 tyX1_ok nmX1 hme rfl ⟨by decide, Nat.le_of_ble_eq_true rfl⟩ fl1_21 rfl ⟨rfl, rfl⟩ dX1_init_33 rfl ?_
  refine zB_aload_n dX1_init_36 rfl rfl ?_
  refine zB_bipush dX1_init_37 (by decide) ?_
  refine zB_newa (aty := .int) (ty := .int) (t0 := 0) (N := 8) (ws' := fun q5 => [(h0, .inr (1, [ziv 0, .ref q1, .ref q2, ziv 0, .ref q3, .ref q4, .null, .null, ziv 0, ziv 0, .null, ziv 0, .null, .null, .null, .null])), (q1, zI E 8), (q2, zI E 8), (q3, zI E 8), (q4, zI E 8), (q5, zI E 8)]) rfl zw_ai rfl (ha_i 8) (by decide) ⟨Nat.le_of_ble_eq_true rfl, Nat.le_of_ble_eq_true rfl⟩ dX1_init_39 (fun _ => rfl) (fun q5 => ?_)
  refine zB_put (ci := 1) (k := 0) (j := 6) (ws' := [(h0, .inr (1, [ziv 0, .ref q1, .ref q2, ziv 0, .ref q3, .ref q4, .ref q5, .null, ziv 0, ziv 0, .null, ziv 0, .null, .null, .null, .null])), (q1, zI E 8), (q2, zI E 8), (q3, zI E 8), (q4, zI E 8), (q5, zI E 8)]) rfl zin1 tyX1_ok nmX1 hme rfl ⟨by decide, Nat.le_of_ble_eq_true rfl⟩ fl1_24 rfl ⟨rfl, rfl⟩ dX1_init_41 rfl ?_
  refine zB_aload_n dX1_init_44 rfl rfl ?_
  refine zB_bipush dX1_init_45 (by decide) ?_
  refine zB_newa (aty := .boolean) (ty := .boolean) (t0 := 1) (N := 8) (ws' := fun q6 => [(h0, .inr (1, [ziv 0, .ref q1, .ref q2, ziv 0, .ref q3, .ref q4, .ref q5, .null, ziv 0, ziv 0, .null, ziv 0, .null, .null, .null, .null])), (q1, zI E 8), (q2, zI E 8), (q3, zI E 8), (q4, zI E 8), (q5, zI E 8), (q6, zZ E 8)]) rfl zw_az rfl (ha_z 8) (by decide) ⟨Nat.le_of_ble_eq_true rfl, Nat.le_of_ble_eq_true rfl⟩ dX1_init_47 (fun _ => rfl) (fun q6 => ?_)
  refine zB_put (ci := 1) (k := 0) (j := 7) (ws' := [(h0, .inr (1, [ziv 0, .ref q1, .ref q2, ziv 0, .ref q3, .ref q4, .ref q5, .ref q6, ziv 0, ziv 0, .null, ziv 0, .null, .null, .null, .null])), (q1, zI E 8), (q2, zI E 8), (q3, zI E 8), (q4, zI E 8), (q5, zI E 8), (q6, zZ E 8)]) rfl zin1 tyX1_ok nmX1 hme rfl ⟨by decide, Nat.le_of_ble_eq_true rfl⟩ fl1_27 rfl ⟨rfl, rfl⟩ dX1_init_49 rfl ?_
  refine zB_aload_n dX1_init_52 rfl rfl ?_
  refine zB_sipush dX1_init_53 (by decide) ?_
  refine zB_newa (aty := .int) (ty := .int) (t0 := 0) (N := 700) (ws' := fun q7 => [(h0, .inr (1, [ziv 0, .ref q1, .ref q2, ziv 0, .ref q3, .ref q4, .ref q5, .ref q6, ziv 0, ziv 0, .null, ziv 0, .null, .null, .null, .null])), (q1, zI E 8), (q2, zI E 8), (q3, zI E 8), (q4, zI E 8), (q5, zI E 8), (q6, zZ E 8), (q7, zI E 700)]) rfl zw_ai rfl (ha_i 700) (by decide) ⟨Nat.le_of_ble_eq_true rfl, Nat.le_of_ble_eq_true rfl⟩ dX1_init_56 (fun _ => rfl) (fun q7 => ?_)
  refine zB_put (ci := 1) (k := 0) (j := 10) (ws' := [(h0, .inr (1, [ziv 0, .ref q1, .ref q2, ziv 0, .ref q3, .ref q4, .ref q5, .ref q6, ziv 0, ziv 0, .ref q7, ziv 0, .null, .null, .null, .null])), (q1, zI E 8), (q2, zI E 8), (q3, zI E 8), (q4, zI E 8), (q5, zI E 8), (q6, zZ E 8), (q7, zI E 700)]) rfl zin1 tyX1_ok nmX1 hme rfl ⟨by decide, Nat.le_of_ble_eq_true rfl⟩ fl1_31 rfl ⟨rfl, rfl⟩ dX1_init_58 rfl ?_
  refine zB_aload_n dX1_init_61 rfl rfl ?_
  refine zB_iconst dX1_init_62 ?_
  refine zB_newa (aty := .int) (ty := .int) (t0 := 0) (N := 2) (ws' := fun q8 => [(h0, .inr (1, [ziv 0, .ref q1, .ref q2, ziv 0, .ref q3, .ref q4, .ref q5, .ref q6, ziv 0, ziv 0, .ref q7, ziv 0, .null, .null, .null, .null])), (q1, zI E 8), (q2, zI E 8), (q3, zI E 8), (q4, zI E 8), (q5, zI E 8), (q6, zZ E 8), (q7, zI E 700), (q8, zI E 2)]) rfl zw_ai rfl (ha_i 2) (by decide) ⟨Nat.le_of_ble_eq_true rfl, Nat.le_of_ble_eq_true rfl⟩ dX1_init_63 (fun _ => rfl) (fun q8 => ?_)
  refine zB_put (ci := 1) (k := 0) (j := 12) (ws' := [(h0, .inr (1, [ziv 0, .ref q1, .ref q2, ziv 0, .ref q3, .ref q4, .ref q5, .ref q6, ziv 0, ziv 0, .ref q7, ziv 0, .ref q8, .null, .null, .null])), (q1, zI E 8), (q2, zI E 8), (q3, zI E 8), (q4, zI E 8), (q5, zI E 8), (q6, zZ E 8), (q7, zI E 700), (q8, zI E 2)]) rfl zin1 tyX1_ok nmX1 hme rfl ⟨by decide, Nat.le_of_ble_eq_true rfl⟩ fl1_34 rfl ⟨rfl, rfl⟩ dX1_init_65 rfl ?_
  refine zB_aload_n dX1_init_68 rfl rfl ?_
  refine zB_iconst dX1_init_69 ?_
  refine zB_newa (aty := .int) (ty := .int) (t0 := 0) (N := 2) (ws' := fun q9 => [(h0, .inr (1, [ziv 0, .ref q1, .ref q2, ziv 0, .ref q3, .ref q4, .ref q5, .ref q6, ziv 0, ziv 0, .ref q7, ziv 0, .ref q8, .null, .null, .null])), (q1, zI E 8), (q2, zI E 8), (q3, zI E 8), (q4, zI E 8), (q5, zI E 8), (q6, zZ E 8), (q7, zI E 700), (q8, zI E 2), (q9, zI E 2)]) rfl zw_ai rfl (ha_i 2) (by decide) ⟨Nat.le_of_ble_eq_true rfl, Nat.le_of_ble_eq_true rfl⟩ dX1_init_70 (fun _ => rfl) (fun q9 => ?_)
  refine zB_put (ci := 1) (k := 0) (j := 13) (ws' := [(h0, .inr (1, [ziv 0, .ref q1, .ref q2, ziv 0, .ref q3, .ref q4, .ref q5, .ref q6, ziv 0, ziv 0, .ref q7, ziv 0, .ref q8, .ref q9, .null, .null])), (q1, zI E 8), (q2, zI E 8), (q3, zI E 8), (q4, zI E 8), (q5, zI E 8), (q6, zZ E 8), (q7, zI E 700), (q8, zI E 2), (q9, zI E 2)]) rfl zin1 tyX1_ok nmX1 hme rfl ⟨by decide, Nat.le_of_ble_eq_true rfl⟩ fl1_37 rfl ⟨rfl, rfl⟩ dX1_init_72 rfl ?_
  refine zB_aload_n dX1_init_75 rfl rfl ?_
  refine zB_iconst dX1_init_76 ?_
  refine zB_newa (aty := .boolean) (ty := .boolean) (t0 := 1) (N := 2) (ws' := fun q10 => [(h0, .inr (1, [ziv 0, .ref q1, .ref q2, ziv 0, .ref q3, .ref q4, .ref q5, .ref q6, ziv 0, ziv 0, .ref q7, ziv 0, .ref q8, .ref q9, .null, .null])), (q1, zI E 8), (q2, zI E 8), (q3, zI E 8), (q4, zI E 8), (q5, zI E 8), (q6, zZ E 8), (q7, zI E 700), (q8, zI E 2), (q9, zI E 2), (q10, zZ E 2)]) rfl zw_az rfl (ha_z 2) (by decide) ⟨Nat.le_of_ble_eq_true rfl, Nat.le_of_ble_eq_true rfl⟩ dX1_init_77 (fun _ => rfl) (fun q10 => ?_)
  refine zB_put (ci := 1) (k := 0) (j := 14) (ws' := [(h0, .inr (1, [ziv 0, .ref q1, .ref q2, ziv 0, .ref q3, .ref q4, .ref q5, .ref q6, ziv 0, ziv 0, .ref q7, ziv 0, .ref q8, .ref q9, .ref q10, .null])), (q1, zI E 8), (q2, zI E 8), (q3, zI E 8), (q4, zI E 8), (q5, zI E 8), (q6, zZ E 8), (q7, zI E 700), (q8, zI E 2), (q9, zI E 2), (q10, zZ E 2)]) rfl zin1 tyX1_ok nmX1 hme rfl ⟨by decide, Nat.le_of_ble_eq_true rfl⟩ fl1_40 rfl ⟨rfl, rfl⟩ dX1_init_79 rfl ?_
  refine zB_aload_n dX1_init_82 rfl rfl ?_
  refine zB_iconst dX1_init_83 ?_
  refine zB_newa (aty := .boolean) (ty := .boolean) (t0 := 1) (N := 2) (ws' := fun q11 => [(h0, .inr (1, [ziv 0, .ref q1, .ref q2, ziv 0, .ref q3, .ref q4, .ref q5, .ref q6, ziv 0, ziv 0, .ref q7, ziv 0, .ref q8, .ref q9, .ref q10, .null])), (q1, zI E 8), (q2, zI E 8), (q3, zI E 8), (q4, zI E 8), (q5, zI E 8), (q6, zZ E 8), (q7, zI E 700), (q8, zI E 2), (q9, zI E 2), (q10, zZ E 2), (q11, zZ E 2)]) rfl zw_az rfl (ha_z 2) (by decide) ⟨Nat.le_of_ble_eq_true rfl, Nat.le_of_ble_eq_true rfl⟩ dX1_init_84 (fun _ => rfl) (fun q11 => ?_)
  refine zB_put (ci := 1) (k := 0) (j := 15) (ws' := [(h0, .inr (1, [ziv 0, .ref q1, .ref q2, ziv 0, .ref q3, .ref q4, .ref q5, .ref q6, ziv 0, ziv 0, .ref q7, ziv 0, .ref q8, .ref q9, .ref q10, .ref q11])), (q1, zI E 8), (q2, zI E 8), (q3, zI E 8), (q4, zI E 8), (q5, zI E 8), (q6, zZ E 8), (q7, zI E 700), (q8, zI E 2), (q9, zI E 2), (q10, zZ E 2), (q11, zZ E 2)]) rfl zin1 tyX1_ok nmX1 hme rfl ⟨by decide, Nat.le_of_ble_eq_true rfl⟩ fl1_43 rfl ⟨rfl, rfl⟩ dX1_init_86 rfl ?_
  refine zB_aload_n dX1_init_89 rfl rfl ?_
  refine zB_bipush dX1_init_90 (by decide) ?_
  refine zB_put (ci := 1) (k := 0) (j := 8) (ws' := [(h0, .inr (1, [ziv 0, .ref q1, .ref q2, ziv 0, .ref q3, .ref q4, .ref q5, .ref q6, ziv 60, ziv 0, .ref q7, ziv 0, .ref q8, .ref q9, .ref q10, .ref q11])), (q1, zI E 8), (q2, zI E 8), (q3, zI E 8), (q4, zI E 8), (q5, zI E 8), (q6, zZ E 8), (q7, zI E 700), (q8, zI E 2), (q9, zI E 2), (q10, zZ E 2), (q11, zZ E 2)]) rfl zin1 tyX1_ok nmX1 hme rfl ⟨by decide, Nat.le_of_ble_eq_true rfl⟩ fl1_46 rfl ⟨rfl, rfl⟩ dX1_init_92 rfl ?_
  exact zB_ret (fun k => [h0, q1, q2, q3, q4, q5, q6, q7, q8, q9, q10, q11].getD k 0) rfl ⟨Nat.le_of_ble_eq_true rfl, Nat.le_of_ble_eq_true rfl⟩ rfl dX1_init_95
def poX2 (E : zE) (h0 : Nat) (q : Nat → Nat) : va_W := [(h0, .inr (2, [.ref (q 1), .ref (q 2), .ref (q 3), .ref (q 4), .ref (q 5), ziv 60, ziv 0, ziv ((-1)), ziv 0])), (q 1, zI E 8), (q 2, zI E 8), (q 3, zI E 8), (q 4, zI E 8), (q 5, zI E 8)]
set_option maxRecDepth 100000 in
theorem nwX2 {E : zE} : zNew E mX2_init 2 2 5 40 [.null, .null, .null, .null, .null, ziv 0, ziv 0, ziv 0, ziv 0] (poX2 E) := by
  refine zNew_of (by decide) rfl rfl (fun h0 sz a hme => ?_)
  refine zB_aload_n dX2_init_0 rfl rfl ?_
  refine zB_obj ol_2 zw_oi zw_oc ⟨Nat.le_of_ble_eq_true rfl, Nat.le_of_ble_eq_true rfl⟩ dX2_init_1 ?_
  refine zB_aload_n dX2_init_4 rfl rfl ?_
  refine zB_bipush dX2_init_5 (by decide) ?_
  refine zB_newa (aty := .int) (ty := .int) (t0 := 0) (N := 8) (ws' := fun q1 => [(h0, .inr (2, [.null, .null, .null, .null, .null, ziv 0, ziv 0, ziv 0, ziv 0])), (q1, zI E 8)]) rfl zw_ai rfl (ha_i 8) (by decide) ⟨Nat.le_of_ble_eq_true rfl, Nat.le_of_ble_eq_true rfl⟩ dX2_init_7 (fun _ => rfl) (fun q1 => ?_)
  refine zB_put (ci := 2) (k := 0) (j := 0) (ws' := [(h0, .inr (2, [.ref q1, .null, .null, .null, .null, ziv 0, ziv 0, ziv 0, ziv 0])), (q1, zI E 8)]) rfl zin2 tyX2_ok nmX2 hme rfl ⟨by decide, Nat.le_of_ble_eq_true rfl⟩ fl2_9 rfl ⟨rfl, rfl⟩ dX2_init_9 rfl ?_
  refine zB_aload_n dX2_init_12 rfl rfl ?_
  refine zB_bipush dX2_init_13 (by decide) ?_
  refine zB_newa (aty := .int) (ty := .int) (t0 := 0) (N := 8) (ws' := fun q2 => [(h0, .inr (2, [.ref q1, .null, .null, .null, .null, ziv 0, ziv 0, ziv 0, ziv 0])), (q1, zI E 8), (q2, zI E 8)]) rfl zw_ai rfl (ha_i 8) (by decide) ⟨Nat.le_of_ble_eq_true rfl, Nat.le_of_ble_eq_true rfl⟩ dX2_init_15 (fun _ => rfl) (fun q2 => ?_)
  refine zB_put (ci := 2) (k := 0) (j := 1) (ws' := [(h0, .inr (2, [.ref q1, .ref q2, .null, .null, .null, ziv 0, ziv 0, ziv 0, ziv 0])), (q1, zI E 8), (q2, zI E 8)]) rfl zin2 tyX2_ok nmX2 hme rfl ⟨by decide, Nat.le_of_ble_eq_true rfl⟩ fl2_15 rfl ⟨rfl, rfl⟩ dX2_init_17 rfl ?_
  refine zB_aload_n dX2_init_20 rfl rfl ?_
  refine zB_bipush dX2_init_21 (by decide) ?_
  refine zB_newa (aty := .int) (ty := .int) (t0 := 0) (N := 8) (ws' := fun q3 => [(h0, .inr (2, [.ref q1, .ref q2, .null, .null, .null, ziv 0, ziv 0, ziv 0, ziv 0])), (q1, zI E 8), (q2, zI E 8), (q3, zI E 8)]) rfl zw_ai rfl (ha_i 8) (by decide) ⟨Nat.le_of_ble_eq_true rfl, Nat.le_of_ble_eq_true rfl⟩ dX2_init_23 (fun _ => rfl) (fun q3 => ?_)
  refine zB_put (ci := 2) (k := 0) (j := 2) (ws' := [(h0, .inr (2, [.ref q1, .ref q2, .ref q3, .null, .null, ziv 0, ziv 0, ziv 0, ziv 0])), (q1, zI E 8), (q2, zI E 8), (q3, zI E 8)]) rfl zin2 tyX2_ok nmX2 hme rfl ⟨by decide, Nat.le_of_ble_eq_true rfl⟩ fl2_18 rfl ⟨rfl, rfl⟩ dX2_init_25 rfl ?_
  refine zB_aload_n dX2_init_28 rfl rfl ?_
  refine zB_bipush dX2_init_29 (by decide) ?_
  refine zB_newa (aty := .int) (ty := .int) (t0 := 0) (N := 8) (ws' := fun q4 => [(h0, .inr (2, [.ref q1, .ref q2, .ref q3, .null, .null, ziv 0, ziv 0, ziv 0, ziv 0])), (q1, zI E 8), (q2, zI E 8), (q3, zI E 8), (q4, zI E 8)]) rfl zw_ai rfl (ha_i 8) (by decide) ⟨Nat.le_of_ble_eq_true rfl, Nat.le_of_ble_eq_true rfl⟩ dX2_init_31 (fun _ => rfl) (fun q4 => ?_)
  refine zB_put (ci := 2) (k := 0) (j := 3) (ws' := [(h0, .inr (2, [.ref q1, .ref q2, .ref q3, .ref q4, .null, ziv 0, ziv 0, ziv 0, ziv 0])), (q1, zI E 8), (q2, zI E 8), (q3, zI E 8), (q4, zI E 8)]) rfl zin2 tyX2_ok nmX2 hme rfl ⟨by decide, Nat.le_of_ble_eq_true rfl⟩ fl2_21 rfl ⟨rfl, rfl⟩ dX2_init_33 rfl ?_
  refine zB_aload_n dX2_init_36 rfl rfl ?_
  refine zB_bipush dX2_init_37 (by decide) ?_
  refine zB_newa (aty := .int) (ty := .int) (t0 := 0) (N := 8) (ws' := fun q5 => [(h0, .inr (2, [.ref q1, .ref q2, .ref q3, .ref q4, .null, ziv 0, ziv 0, ziv 0, ziv 0])), (q1, zI E 8), (q2, zI E 8), (q3, zI E 8), (q4, zI E 8), (q5, zI E 8)]) rfl zw_ai rfl (ha_i 8) (by decide) ⟨Nat.le_of_ble_eq_true rfl, Nat.le_of_ble_eq_true rfl⟩ dX2_init_39 (fun _ => rfl) (fun q5 => ?_)
  refine zB_put (ci := 2) (k := 0) (j := 4) (ws' := [(h0, .inr (2, [.ref q1, .ref q2, .ref q3, .ref q4, .ref q5, ziv 0, ziv 0, ziv 0, ziv 0])), (q1, zI E 8), (q2, zI E 8), (q3, zI E 8), (q4, zI E 8), (q5, zI E 8)]) rfl zin2 tyX2_ok nmX2 hme rfl ⟨by decide, Nat.le_of_ble_eq_true rfl⟩ fl2_24 rfl ⟨rfl, rfl⟩ dX2_init_41 rfl ?_
  refine zB_aload_n dX2_init_44 rfl rfl ?_
  refine zB_bipush dX2_init_45 (by decide) ?_
  refine zB_put (ci := 2) (k := 0) (j := 5) (ws' := [(h0, .inr (2, [.ref q1, .ref q2, .ref q3, .ref q4, .ref q5, ziv 60, ziv 0, ziv 0, ziv 0])), (q1, zI E 8), (q2, zI E 8), (q3, zI E 8), (q4, zI E 8), (q5, zI E 8)]) rfl zin2 tyX2_ok nmX2 hme rfl ⟨by decide, Nat.le_of_ble_eq_true rfl⟩ fl2_27 rfl ⟨rfl, rfl⟩ dX2_init_47 rfl ?_
  refine zB_aload_n dX2_init_50 rfl rfl ?_
  refine zB_iconst dX2_init_51 ?_
  refine zB_put (ci := 2) (k := 0) (j := 7) (ws' := [(h0, .inr (2, [.ref q1, .ref q2, .ref q3, .ref q4, .ref q5, ziv 60, ziv 0, ziv ((-1)), ziv 0])), (q1, zI E 8), (q2, zI E 8), (q3, zI E 8), (q4, zI E 8), (q5, zI E 8)]) rfl zin2 tyX2_ok nmX2 hme rfl ⟨by decide, Nat.le_of_ble_eq_true rfl⟩ fl2_31 rfl ⟨rfl, rfl⟩ dX2_init_52 rfl ?_
  exact zB_ret (fun k => [h0, q1, q2, q3, q4, q5].getD k 0) rfl ⟨Nat.le_of_ble_eq_true rfl, Nat.le_of_ble_eq_true rfl⟩ rfl dX2_init_55
def poX4 (E : zE) (h0 : Nat) (q : Nat → Nat) : va_W := [(h0, .inr (4, [.ref (q 1), .ref (q 2), ziv 0, ziv 0, ziv 0])), (q 1, zI E 64), (q 2, zI E 12)]
set_option maxRecDepth 100000 in
theorem nwX4 {E : zE} : zNew E mX4_init 4 2 2 76 [.null, .null, ziv 0, ziv 0, ziv 0] (poX4 E) := by
  refine zNew_of (by decide) rfl rfl (fun h0 sz a hme => ?_)
  refine zB_aload_n dX4_init_0 rfl rfl ?_
  refine zB_obj ol_4 zw_oi zw_oc ⟨Nat.le_of_ble_eq_true rfl, Nat.le_of_ble_eq_true rfl⟩ dX4_init_1 ?_
  refine zB_aload_n dX4_init_4 rfl rfl ?_
  refine zB_bipush dX4_init_5 (by decide) ?_
  refine zB_newa (aty := .int) (ty := .int) (t0 := 0) (N := 64) (ws' := fun q1 => [(h0, .inr (4, [.null, .null, ziv 0, ziv 0, ziv 0])), (q1, zI E 64)]) rfl zw_ai rfl (ha_i 64) (by decide) ⟨Nat.le_of_ble_eq_true rfl, Nat.le_of_ble_eq_true rfl⟩ dX4_init_7 (fun _ => rfl) (fun q1 => ?_)
  refine zB_put (ci := 4) (k := 0) (j := 0) (ws' := [(h0, .inr (4, [.ref q1, .null, ziv 0, ziv 0, ziv 0])), (q1, zI E 64)]) rfl zin4 tyX4_ok nmX4 hme rfl ⟨by decide, Nat.le_of_ble_eq_true rfl⟩ fl4_9 rfl ⟨rfl, rfl⟩ dX4_init_9 rfl ?_
  refine zB_aload_n dX4_init_12 rfl rfl ?_
  refine zB_bipush dX4_init_13 (by decide) ?_
  refine zB_newa (aty := .int) (ty := .int) (t0 := 0) (N := 12) (ws' := fun q2 => [(h0, .inr (4, [.ref q1, .null, ziv 0, ziv 0, ziv 0])), (q1, zI E 64), (q2, zI E 12)]) rfl zw_ai rfl (ha_i 12) (by decide) ⟨Nat.le_of_ble_eq_true rfl, Nat.le_of_ble_eq_true rfl⟩ dX4_init_15 (fun _ => rfl) (fun q2 => ?_)
  refine zB_put (ci := 4) (k := 0) (j := 1) (ws' := [(h0, .inr (4, [.ref q1, .ref q2, ziv 0, ziv 0, ziv 0])), (q1, zI E 64), (q2, zI E 12)]) rfl zin4 tyX4_ok nmX4 hme rfl ⟨by decide, Nat.le_of_ble_eq_true rfl⟩ fl4_15 rfl ⟨rfl, rfl⟩ dX4_init_17 rfl ?_
  exact zB_ret (fun k => [h0, q1, q2].getD k 0) rfl ⟨Nat.le_of_ble_eq_true rfl, Nat.le_of_ble_eq_true rfl⟩ rfl dX4_init_20
def poX0 (E : zE) (h0 : Nat) (q : Nat → Nat) : va_W := [(h0, .inr (0, [.ref (q 1), ziv 0, .ref (q 2), ziv 0, ziv 0, ziv 0, ziv 0, ziv 0, ziv 0, ziv 0])), (q 1, zI E 0), (q 2, .inr (1, [ziv 0, .ref (q 3), .ref (q 4), ziv 0, .ref (q 5), .ref (q 6), .ref (q 7), .ref (q 8), ziv 60, ziv 0, .ref (q 9), ziv 0, .ref (q 10), .ref (q 11), .ref (q 12), .ref (q 13)])), (q 3, zI E 8), (q 4, zI E 8), (q 5, zI E 8), (q 6, zI E 8), (q 7, zI E 8), (q 8, zZ E 8), (q 9, zI E 700), (q 10, zI E 2), (q 11, zI E 2), (q 12, zZ E 2), (q 13, zZ E 2)]
set_option maxRecDepth 100000 in
theorem nwX0 {E : zE} : zNew E mX0_init 0 3 13 772 [.null, ziv 0, .null, ziv 0, ziv 0, ziv 0, ziv 0, ziv 0, ziv 0, ziv 0] (poX0 E) := by
  refine zNew_of (by decide) rfl rfl (fun h0 sz a hme => ?_)
  refine zB_aload_n dX0_init_0 rfl rfl ?_
  refine zB_obj ol_0 zw_oi zw_oc ⟨Nat.le_of_ble_eq_true rfl, Nat.le_of_ble_eq_true rfl⟩ dX0_init_1 ?_
  refine zB_aload_n dX0_init_4 rfl rfl ?_
  refine zB_iconst dX0_init_5 ?_
  refine zB_newa (aty := .int) (ty := .int) (t0 := 0) (N := 0) (ws' := fun q1 => [(h0, .inr (0, [.null, ziv 0, .null, ziv 0, ziv 0, ziv 0, ziv 0, ziv 0, ziv 0, ziv 0])), (q1, zI E 0)]) rfl zw_ai rfl (ha_i 0) (by decide) ⟨Nat.le_of_ble_eq_true rfl, Nat.le_of_ble_eq_true rfl⟩ dX0_init_6 (fun _ => rfl) (fun q1 => ?_)
  refine zB_put (ci := 0) (k := 0) (j := 0) (ws' := [(h0, .inr (0, [.ref q1, ziv 0, .null, ziv 0, ziv 0, ziv 0, ziv 0, ziv 0, ziv 0, ziv 0])), (q1, zI E 0)]) rfl zin0 tyX0_ok nmX0 hme rfl ⟨by decide, Nat.le_of_ble_eq_true rfl⟩ fl0_9 rfl ⟨rfl, rfl⟩ dX0_init_8 rfl ?_
  refine zB_aload_n dX0_init_11 rfl rfl ?_
  refine zB_new (ci := 1) (ws' := fun q2 => [(h0, .inr (0, [.ref q1, ziv 0, .null, ziv 0, ziv 0, ziv 0, ziv 0, ziv 0, ziv 0, ziv 0])), (q1, zI E 0), (q2, .inr (1, [ziv 0, .null, .null, ziv 0, .null, .null, .null, .null, ziv 0, ziv 0, .null, ziv 0, .null, .null, .null, .null]))]) rfl zin1 tyX1_ok ⟨cl0_15, cn_1, ci_1⟩ fsX1 ⟨Nat.le_of_ble_eq_true rfl, Nat.le_of_ble_eq_true rfl⟩ dX0_init_12 (fun _ => rfl) (fun q2 => ?_)
  refine zB_dup dX0_init_15 rfl ?_
  refine zB_callI (ci := 1) (h0 := q2) (wr := [(h0, .inr (0, [.ref q1, ziv 0, .null, ziv 0, ziv 0, ziv 0, ziv 0, ziv 0, ziv 0, ziv 0])), (q1, zI E 0)]) (ws' := fun f2 => [(h0, .inr (0, [.ref q1, ziv 0, .null, ziv 0, ziv 0, ziv 0, ziv 0, ziv 0, ziv 0, ziv 0])), (q1, zI E 0), (q2, .inr (1, [ziv 0, .ref (f2 1), .ref (f2 2), ziv 0, .ref (f2 3), .ref (f2 4), .ref (f2 5), .ref (f2 6), ziv 60, ziv 0, .ref (f2 7), ziv 0, .ref (f2 8), .ref (f2 9), .ref (f2 10), .ref (f2 11)])), (f2 1, zI E 8), (f2 2, zI E 8), (f2 3, zI E 8), (f2 4, zI E 8), (f2 5, zI E 8), (f2 6, zZ E 8), (f2 7, zI E 700), (f2 8, zI E 2), (f2 9, zI E 2), (f2 10, zZ E 2), (f2 11, zZ E 2)]) (nwX1 (E := E)) il0_17 ⟨Nat.le_of_ble_eq_true rfl, Nat.le_of_ble_eq_true rfl⟩ ⟨Nat.le_of_ble_eq_true rfl, Nat.le_of_ble_eq_true rfl⟩ (Nat.le_of_ble_eq_true rfl) dX0_init_16 (fun _ => rfl) (fun f2 => ?_)
  refine zB_put (ci := 0) (k := 0) (j := 2) (ws' := [(h0, .inr (0, [.ref q1, ziv 0, .ref q2, ziv 0, ziv 0, ziv 0, ziv 0, ziv 0, ziv 0, ziv 0])), (q1, zI E 0), (q2, .inr (1, [ziv 0, .ref (f2 1), .ref (f2 2), ziv 0, .ref (f2 3), .ref (f2 4), .ref (f2 5), .ref (f2 6), ziv 60, ziv 0, .ref (f2 7), ziv 0, .ref (f2 8), .ref (f2 9), .ref (f2 10), .ref (f2 11)])), (f2 1, zI E 8), (f2 2, zI E 8), (f2 3, zI E 8), (f2 4, zI E 8), (f2 5, zI E 8), (f2 6, zZ E 8), (f2 7, zI E 700), (f2 8, zI E 2), (f2 9, zI E 2), (f2 10, zZ E 2), (f2 11, zZ E 2)]) rfl zin0 tyX0_ok nmX0 hme rfl ⟨by decide, Nat.le_of_ble_eq_true rfl⟩ fl0_18 rfl ⟨rfl, rfl⟩ dX0_init_19 rfl ?_
  exact zB_ret (fun k => [h0, q1, q2, f2 1, f2 2, f2 3, f2 4, f2 5, f2 6, f2 7, f2 8, f2 9, f2 10, f2 11].getD k 0) rfl ⟨Nat.le_of_ble_eq_true rfl, Nat.le_of_ble_eq_true rfl⟩ rfl dX0_init_22
def poX3 (E : zE) (h0 : Nat) (q : Nat → Nat) : va_W := [(h0, .inr (3, [.ref (q 1), .ref (q 7), ziv 0, ziv 0, .ref (q 8), .ref (q 9), ziv 0, .ref (q 10)])), (q 1, .inr (2, [.ref (q 2), .ref (q 3), .ref (q 4), .ref (q 5), .ref (q 6), ziv 60, ziv 0, ziv ((-1)), ziv 0])), (q 2, zI E 8), (q 3, zI E 8), (q 4, zI E 8), (q 5, zI E 8), (q 6, zI E 8), (q 7, zI E 1080), (q 8, zI E 8), (q 9, zI E 8), (q 10, zI E 3)]
set_option maxRecDepth 100000 in
theorem nwX3 {E : zE} : zNew E mX3_init 3 3 10 1148 [.null, .null, ziv 0, ziv 0, .null, .null, ziv 0, .null] (poX3 E) := by
  refine zNew_of (by decide) rfl rfl (fun h0 sz a hme => ?_)
  refine zB_aload_n dX3_init_0 rfl rfl ?_
  refine zB_obj ol_3 zw_oi zw_oc ⟨Nat.le_of_ble_eq_true rfl, Nat.le_of_ble_eq_true rfl⟩ dX3_init_1 ?_
  refine zB_aload_n dX3_init_4 rfl rfl ?_
  refine zB_new (ci := 2) (ws' := fun q1 => [(h0, .inr (3, [.null, .null, ziv 0, ziv 0, .null, .null, ziv 0, .null])), (q1, .inr (2, [.null, .null, .null, .null, .null, ziv 0, ziv 0, ziv 0, ziv 0]))]) rfl zin2 tyX2_ok ⟨cl3_9, cn_2, ci_2⟩ fsX2 ⟨Nat.le_of_ble_eq_true rfl, Nat.le_of_ble_eq_true rfl⟩ dX3_init_5 (fun _ => rfl) (fun q1 => ?_)
  refine zB_dup dX3_init_8 rfl ?_
  refine zB_callI (ci := 2) (h0 := q1) (wr := [(h0, .inr (3, [.null, .null, ziv 0, ziv 0, .null, .null, ziv 0, .null]))]) (ws' := fun f1 => [(h0, .inr (3, [.null, .null, ziv 0, ziv 0, .null, .null, ziv 0, .null])), (q1, .inr (2, [.ref (f1 1), .ref (f1 2), .ref (f1 3), .ref (f1 4), .ref (f1 5), ziv 60, ziv 0, ziv ((-1)), ziv 0])), (f1 1, zI E 8), (f1 2, zI E 8), (f1 3, zI E 8), (f1 4, zI E 8), (f1 5, zI E 8)]) (nwX2 (E := E)) il3_11 ⟨Nat.le_of_ble_eq_true rfl, Nat.le_of_ble_eq_true rfl⟩ ⟨Nat.le_of_ble_eq_true rfl, Nat.le_of_ble_eq_true rfl⟩ (Nat.le_of_ble_eq_true rfl) dX3_init_9 (fun _ => rfl) (fun f1 => ?_)
  refine zB_put (ci := 3) (k := 0) (j := 0) (ws' := [(h0, .inr (3, [.ref q1, .null, ziv 0, ziv 0, .null, .null, ziv 0, .null])), (q1, .inr (2, [.ref (f1 1), .ref (f1 2), .ref (f1 3), .ref (f1 4), .ref (f1 5), ziv 60, ziv 0, ziv ((-1)), ziv 0])), (f1 1, zI E 8), (f1 2, zI E 8), (f1 3, zI E 8), (f1 4, zI E 8), (f1 5, zI E 8)]) rfl zin3 tyX3_ok nmX3 hme rfl ⟨by decide, Nat.le_of_ble_eq_true rfl⟩ fl3_12 rfl ⟨rfl, rfl⟩ dX3_init_12 rfl ?_
  refine zB_aload_n dX3_init_15 rfl rfl ?_
  refine zB_sipush dX3_init_16 (by decide) ?_
  refine zB_newa (aty := .int) (ty := .int) (t0 := 0) (N := 1080) (ws' := fun q7 => [(h0, .inr (3, [.ref q1, .null, ziv 0, ziv 0, .null, .null, ziv 0, .null])), (q1, .inr (2, [.ref (f1 1), .ref (f1 2), .ref (f1 3), .ref (f1 4), .ref (f1 5), ziv 60, ziv 0, ziv ((-1)), ziv 0])), (f1 1, zI E 8), (f1 2, zI E 8), (f1 3, zI E 8), (f1 4, zI E 8), (f1 5, zI E 8), (q7, zI E 1080)]) rfl zw_ai rfl (ha_i 1080) (by decide) ⟨Nat.le_of_ble_eq_true rfl, Nat.le_of_ble_eq_true rfl⟩ dX3_init_19 (fun _ => rfl) (fun q7 => ?_)
  refine zB_put (ci := 3) (k := 0) (j := 1) (ws' := [(h0, .inr (3, [.ref q1, .ref q7, ziv 0, ziv 0, .null, .null, ziv 0, .null])), (q1, .inr (2, [.ref (f1 1), .ref (f1 2), .ref (f1 3), .ref (f1 4), .ref (f1 5), ziv 60, ziv 0, ziv ((-1)), ziv 0])), (f1 1, zI E 8), (f1 2, zI E 8), (f1 3, zI E 8), (f1 4, zI E 8), (f1 5, zI E 8), (q7, zI E 1080)]) rfl zin3 tyX3_ok nmX3 hme rfl ⟨by decide, Nat.le_of_ble_eq_true rfl⟩ fl3_18 rfl ⟨rfl, rfl⟩ dX3_init_21 rfl ?_
  refine zB_aload_n dX3_init_24 rfl rfl ?_
  refine zB_bipush dX3_init_25 (by decide) ?_
  refine zB_newa (aty := .int) (ty := .int) (t0 := 0) (N := 8) (ws' := fun q8 => [(h0, .inr (3, [.ref q1, .ref q7, ziv 0, ziv 0, .null, .null, ziv 0, .null])), (q1, .inr (2, [.ref (f1 1), .ref (f1 2), .ref (f1 3), .ref (f1 4), .ref (f1 5), ziv 60, ziv 0, ziv ((-1)), ziv 0])), (f1 1, zI E 8), (f1 2, zI E 8), (f1 3, zI E 8), (f1 4, zI E 8), (f1 5, zI E 8), (q7, zI E 1080), (q8, zI E 8)]) rfl zw_ai rfl (ha_i 8) (by decide) ⟨Nat.le_of_ble_eq_true rfl, Nat.le_of_ble_eq_true rfl⟩ dX3_init_27 (fun _ => rfl) (fun q8 => ?_)
  refine zB_put (ci := 3) (k := 0) (j := 4) (ws' := [(h0, .inr (3, [.ref q1, .ref q7, ziv 0, ziv 0, .ref q8, .null, ziv 0, .null])), (q1, .inr (2, [.ref (f1 1), .ref (f1 2), .ref (f1 3), .ref (f1 4), .ref (f1 5), ziv 60, ziv 0, ziv ((-1)), ziv 0])), (f1 1, zI E 8), (f1 2, zI E 8), (f1 3, zI E 8), (f1 4, zI E 8), (f1 5, zI E 8), (q7, zI E 1080), (q8, zI E 8)]) rfl zin3 tyX3_ok nmX3 hme rfl ⟨by decide, Nat.le_of_ble_eq_true rfl⟩ fl3_22 rfl ⟨rfl, rfl⟩ dX3_init_29 rfl ?_
  refine zB_aload_n dX3_init_32 rfl rfl ?_
  refine zB_bipush dX3_init_33 (by decide) ?_
  refine zB_newa (aty := .int) (ty := .int) (t0 := 0) (N := 8) (ws' := fun q9 => [(h0, .inr (3, [.ref q1, .ref q7, ziv 0, ziv 0, .ref q8, .null, ziv 0, .null])), (q1, .inr (2, [.ref (f1 1), .ref (f1 2), .ref (f1 3), .ref (f1 4), .ref (f1 5), ziv 60, ziv 0, ziv ((-1)), ziv 0])), (f1 1, zI E 8), (f1 2, zI E 8), (f1 3, zI E 8), (f1 4, zI E 8), (f1 5, zI E 8), (q7, zI E 1080), (q8, zI E 8), (q9, zI E 8)]) rfl zw_ai rfl (ha_i 8) (by decide) ⟨Nat.le_of_ble_eq_true rfl, Nat.le_of_ble_eq_true rfl⟩ dX3_init_35 (fun _ => rfl) (fun q9 => ?_)
  refine zB_put (ci := 3) (k := 0) (j := 5) (ws' := [(h0, .inr (3, [.ref q1, .ref q7, ziv 0, ziv 0, .ref q8, .ref q9, ziv 0, .null])), (q1, .inr (2, [.ref (f1 1), .ref (f1 2), .ref (f1 3), .ref (f1 4), .ref (f1 5), ziv 60, ziv 0, ziv ((-1)), ziv 0])), (f1 1, zI E 8), (f1 2, zI E 8), (f1 3, zI E 8), (f1 4, zI E 8), (f1 5, zI E 8), (q7, zI E 1080), (q8, zI E 8), (q9, zI E 8)]) rfl zin3 tyX3_ok nmX3 hme rfl ⟨by decide, Nat.le_of_ble_eq_true rfl⟩ fl3_25 rfl ⟨rfl, rfl⟩ dX3_init_37 rfl ?_
  refine zB_aload_n dX3_init_40 rfl rfl ?_
  refine zB_iconst dX3_init_41 ?_
  refine zB_newa (aty := .int) (ty := .int) (t0 := 0) (N := 3) (ws' := fun q10 => [(h0, .inr (3, [.ref q1, .ref q7, ziv 0, ziv 0, .ref q8, .ref q9, ziv 0, .null])), (q1, .inr (2, [.ref (f1 1), .ref (f1 2), .ref (f1 3), .ref (f1 4), .ref (f1 5), ziv 60, ziv 0, ziv ((-1)), ziv 0])), (f1 1, zI E 8), (f1 2, zI E 8), (f1 3, zI E 8), (f1 4, zI E 8), (f1 5, zI E 8), (q7, zI E 1080), (q8, zI E 8), (q9, zI E 8), (q10, zI E 3)]) rfl zw_ai rfl (ha_i 3) (by decide) ⟨Nat.le_of_ble_eq_true rfl, Nat.le_of_ble_eq_true rfl⟩ dX3_init_42 (fun _ => rfl) (fun q10 => ?_)
  refine zB_put (ci := 3) (k := 0) (j := 7) (ws' := [(h0, .inr (3, [.ref q1, .ref q7, ziv 0, ziv 0, .ref q8, .ref q9, ziv 0, .ref q10])), (q1, .inr (2, [.ref (f1 1), .ref (f1 2), .ref (f1 3), .ref (f1 4), .ref (f1 5), ziv 60, ziv 0, ziv ((-1)), ziv 0])), (f1 1, zI E 8), (f1 2, zI E 8), (f1 3, zI E 8), (f1 4, zI E 8), (f1 5, zI E 8), (q7, zI E 1080), (q8, zI E 8), (q9, zI E 8), (q10, zI E 3)]) rfl zin3 tyX3_ok nmX3 hme rfl ⟨by decide, Nat.le_of_ble_eq_true rfl⟩ fl3_28 rfl ⟨rfl, rfl⟩ dX3_init_44 rfl ?_
  exact zB_ret (fun k => [h0, q1, f1 1, f1 2, f1 3, f1 4, f1 5, q7, q8, q9, q10].getD k 0) rfl ⟨Nat.le_of_ble_eq_true rfl, Nat.le_of_ble_eq_true rfl⟩ rfl dX3_init_47
