theorem hgt_lo {env : Int → Int} {tk : Nat → Int} {m i : Nat} {st : List Int} (hst : evN env tk 0 i = st) (hw : wfN env tk 0 m) (hi : i ≤ m) : st.length ≤ 64 := by
  subst hst
  induction i with
  | zero => exact Nat.zero_le _
  | succ i ih =>
    have h1 := ih (by omega)
    obtain ⟨w1, w2, w3, w4, w5⟩ := hw i (by omega)
    show (evT env (tk (0 + i)) (evN env tk 0 i)).length ≤ 64
    generalize evN env tk 0 i = st at h1 w3 w4 w5
    unfold evT
    split
    · rename_i h2
      have := w3 h2
      simp only [List.length_cons]; omega
    · split
      · match st with
        | [] => simp
        | y :: r => simpa using h1
      · match st with
        | [] => simp
        | [y] => simp
        | y :: z :: r => simp at h1 ⊢; omega

set_option maxRecDepth 100000 in
theorem c6_reckon {E : zE} {h : zH} {x y z : Int} (d k : Nat) (hx : -9 ≤ x ∧ x < 0 ∧ x ≠ -3) (ha : -2147483648 ≤ y ∧ y ≤ 2147483647) (hb : -2147483648 ≤ z ∧ z ≤ 2147483647) : zCal E mX6_reckon d k [ziv (enc x), ziv y, ziv z] h (fun r h' => r = some (ziv (joinS x y z)) ∧ h' = h) (fun _ _ => False) := by
  refine zCal_of (by decide) (Nat.le_of_ble_eq_true rfl) (fun a => ?_)
  show zV _ 0 0 [ziv (enc x), ziv y, ziv z] [] _
  have he := enc_c x
  refine zV_iload_n dX6_reckon_0 rfl rfl ?_
  rcases (show enc x = -26 ∨ enc x = -25 ∨ enc x = -24 ∨ enc x = -23 ∨ enc x = -22 ∨ enc x = -21 ∨ enc x = -20 ∨ (enc x < -26 ∨ -20 < enc x) by omega) with hv1 | hv1 | hv1 | hv1 | hv1 | hv1 | hv1 | hv1
  · refine zV_teq (congrArg ziv hv1.symm) ?_
    refine zV_tableIn (off := 89) (tgt := 90) dX6_reckon_1 (by decide) (by decide) (by decide) (by decide) ?_
    refine zV_iload_n dX6_reckon_90 rfl rfl ?_
    refine zR_if_eq (tgt := 102) dX6_reckon_91 (by decide) (by omega) (fun h91 => ?_) (fun h91 => ?_)
    · refine zV_iconst dX6_reckon_102 ?_
      exact zV_ireturn dX6_reckon_103 rfl (Nat.zero_le _) ⟨by rw [show x = -2 by omega]; unfold joinS; simp [h91], rfl⟩
    · refine zV_iload_n dX6_reckon_94 rfl rfl ?_
      refine zR_if_eq (tgt := 102) dX6_reckon_95 (by decide) (by omega) (fun h95 => ?_) (fun h95 => ?_)
      · refine zV_iconst dX6_reckon_102 ?_
        exact zV_ireturn dX6_reckon_103 rfl (Nat.zero_le _) ⟨by rw [show x = -2 by omega]; unfold joinS; simp [h95], rfl⟩
      · refine zV_iconst dX6_reckon_98 ?_
        refine zV_goto (tgt := 103) dX6_reckon_99 (by decide) ?_
        exact zV_ireturn dX6_reckon_103 rfl (Nat.zero_le _) ⟨by rw [show x = -2 by omega]; unfold joinS; simp [h91, h95], rfl⟩
  · refine zV_teq (congrArg ziv hv1.symm) ?_
    refine zV_tableIn (off := 78) (tgt := 79) dX6_reckon_1 (by decide) (by decide) (by decide) (by decide) ?_
    refine zV_iload_n dX6_reckon_79 rfl rfl ?_
    refine zV_iload_n dX6_reckon_80 rfl rfl ?_
    refine zR_icmp_ne (tgt := 88) dX6_reckon_81 (by decide) (by omega) (by omega) (fun h81 => ?_) (fun h81 => ?_)
    · refine zV_iconst dX6_reckon_88 ?_
      exact zV_ireturn dX6_reckon_89 rfl (Nat.zero_le _) ⟨by rw [show x = -5 by omega]; unfold joinS; simp [h81], rfl⟩
    · refine zV_iconst dX6_reckon_84 ?_
      refine zV_goto (tgt := 89) dX6_reckon_85 (by decide) ?_
      exact zV_ireturn dX6_reckon_89 rfl (Nat.zero_le _) ⟨by rw [show x = -5 by omega]; unfold joinS; simp [h81], rfl⟩
  · refine zV_teq (congrArg ziv hv1.symm) ?_
    refine zV_tableIn (off := 67) (tgt := 68) dX6_reckon_1 (by decide) (by decide) (by decide) (by decide) ?_
    refine zV_iload_n dX6_reckon_68 rfl rfl ?_
    refine zV_iload_n dX6_reckon_69 rfl rfl ?_
    refine zR_icmp_ge (tgt := 77) dX6_reckon_70 (by decide) (by omega) (by omega) (fun h70 => ?_) (fun h70 => ?_)
    · refine zV_iconst dX6_reckon_77 ?_
      exact zV_ireturn dX6_reckon_78 rfl (Nat.zero_le _) ⟨by rw [show x = -4 by omega]; unfold joinS; simp [show ¬ y < z by omega], rfl⟩
    · refine zV_iconst dX6_reckon_73 ?_
      refine zV_goto (tgt := 78) dX6_reckon_74 (by decide) ?_
      exact zV_ireturn dX6_reckon_78 rfl (Nat.zero_le _) ⟨by rw [show x = -4 by omega]; unfold joinS; simp [show y < z by omega], rfl⟩
  · refine zV_teq (congrArg ziv hv1.symm) ?_
    refine zV_tableIn (off := 55) (tgt := 56) dX6_reckon_1 (by decide) (by decide) (by decide) (by decide) ?_
    refine zV_iload_n dX6_reckon_56 rfl rfl ?_
    refine zR_if_ne (tgt := 64) dX6_reckon_57 (by decide) (by omega) (fun h57 => ?_) (fun h57 => ?_)
    · refine zV_iload_n dX6_reckon_64 rfl rfl ?_
      refine zV_iload_n dX6_reckon_65 rfl rfl ?_
      refine zV_idiv dX6_reckon_66 (by rw [zn_of (by omega) (by omega)]; exact h57) ?_
      exact zV_ireturn dX6_reckon_67 rfl (Nat.zero_le _) ⟨by rw [show x = -9 by omega]; unfold joinS; simp [h57], rfl⟩
    · refine zV_iconst dX6_reckon_60 ?_
      refine zV_goto (tgt := 67) dX6_reckon_61 (by decide) ?_
      exact zV_ireturn dX6_reckon_67 rfl (Nat.zero_le _) ⟨by rw [show x = -9 by omega]; unfold joinS; simp [h57], rfl⟩
  · refine zV_teq (congrArg ziv hv1.symm) ?_
    refine zV_tableIn (off := 51) (tgt := 52) dX6_reckon_1 (by decide) (by decide) (by decide) (by decide) ?_
    refine zV_iload_n dX6_reckon_52 rfl rfl ?_
    refine zV_iload_n dX6_reckon_53 rfl rfl ?_
    refine zV_imul dX6_reckon_54 ?_
    exact zV_ireturn dX6_reckon_55 rfl (Nat.zero_le _) ⟨by rw [show x = -8 by omega]; unfold joinS; simp [ziv_zn], rfl⟩
  · refine zV_teq (congrArg ziv hv1.symm) ?_
    refine zV_tableIn (off := 47) (tgt := 48) dX6_reckon_1 (by decide) (by decide) (by decide) (by decide) ?_
    refine zV_iload_n dX6_reckon_48 rfl rfl ?_
    refine zV_iload_n dX6_reckon_49 rfl rfl ?_
    refine zV_isub dX6_reckon_50 ?_
    exact zV_ireturn dX6_reckon_51 rfl (Nat.zero_le _) ⟨by rw [show x = -7 by omega]; unfold joinS; simp [ziv_zn], rfl⟩
  · refine zV_teq (congrArg ziv hv1.symm) ?_
    refine zV_tableIn (off := 43) (tgt := 44) dX6_reckon_1 (by decide) (by decide) (by decide) (by decide) ?_
    refine zV_iload_n dX6_reckon_44 rfl rfl ?_
    refine zV_iload_n dX6_reckon_45 rfl rfl ?_
    refine zV_iadd dX6_reckon_46 ?_
    exact zV_ireturn dX6_reckon_47 rfl (Nat.zero_le _) ⟨by rw [show x = -6 by omega]; unfold joinS; simp [ziv_zn], rfl⟩
  · refine zV_tableOut (tgt := 104) dX6_reckon_1 (by rw [zn_of (by omega) (by omega)]; omega) (by decide) ?_
    refine zV_iload_n dX6_reckon_104 rfl rfl ?_
    refine zR_if_ne (tgt := 112) dX6_reckon_105 (by decide) (by omega) (fun h105 => ?_) (fun h105 => ?_)
    · refine zV_iconst dX6_reckon_112 ?_
      refine zV_goto (tgt := 117) dX6_reckon_113 (by decide) ?_
      exact zV_ireturn dX6_reckon_117 rfl (Nat.zero_le _) ⟨by rw [show x = -1 by omega]; unfold joinS; simp [h105], rfl⟩
    · refine zV_iload_n dX6_reckon_108 rfl rfl ?_
      refine zR_if_eq (tgt := 116) dX6_reckon_109 (by decide) (by omega) (fun h109 => ?_) (fun h109 => ?_)
      · refine zV_iconst dX6_reckon_116 ?_
        exact zV_ireturn dX6_reckon_117 rfl (Nat.zero_le _) ⟨by rw [show x = -1 by omega]; unfold joinS; simp [h105, h109], rfl⟩
      · refine zV_iconst dX6_reckon_112 ?_
        refine zV_goto (tgt := 117) dX6_reckon_113 (by decide) ?_
        exact zV_ireturn dX6_reckon_117 rfl (Nat.zero_le _) ⟨by rw [show x = -1 by omega]; unfold joinS; simp [h105, h109], rfl⟩
