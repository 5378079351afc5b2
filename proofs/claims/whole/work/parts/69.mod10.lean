/-! THE REFERENCE: acts, what is read, the image -/
theorem iteT {c : Prop} [Decidable c] {A B : Prop} (hc : c) (a : A) : if c then A else B := by rw [if_pos hc]; exact a
theorem iteF {c : Prop} [Decidable c] {A B : Prop} (hc : ¬ c) (b : B) : if c then A else B := by rw [if_neg hc]; exact b
theorem kept_inv {h h1 : zH} {n jn : Nat} (hm : mInv h n jn) (hk : mkept h h1) : mInv h1 n jn ∧ h1 64 32 = h 64 32 ∧ h1 81 = h 81 ∧ h1 68 = h 68 ∧ h1 82 = h 82 := by
  obtain ⟨ac, ac', -, -, -, f, f64, -, -, -⟩ := hk
  obtain ⟨m1, ⟨d1, d2, d3, d4, d5, d6⟩, m3⟩ := hm
  have e : ∀ c2 : Nat, c2 ≠ 64 → c2 ≠ 83 → h1 c2 = h c2 := f
  exact ⟨⟨mCt_congr (e 68 (by decide) (by decide)) (e 70 (by decide) (by decide)) (e 71 (by decide) (by decide)) (e 74 (by decide) (by decide)) (e 75 (by decide) (by decide)) (e 76 (by decide) (by decide)) m1, ⟨by rw [e 80 (by decide) (by decide)]; exact d1, by rw [e 78 (by decide) (by decide)]; exact d2, by rw [e 82 (by decide) (by decide)]; exact d3, by rw [e 81 (by decide) (by decide)]; exact d4, by rw [f64 33 (by decide)]; exact d5, by rw [f64 32 (by decide)]; exact d6⟩, by rw [f64 32 (by decide)]; exact m3⟩, f64 32 (by decide), e 81 (by decide) (by decide), e 68 (by decide) (by decide), e 82 (by decide) (by decide)⟩
theorem kept_of {h h1 : zH} (hk : mkept h h1) : (∀ c2 : Nat, c2 ≠ 64 → c2 ≠ 83 → h1 c2 = h c2) ∧ ∀ j, j ≠ 35 → h1 64 j = h 64 j := by
  obtain ⟨ac, ac', -, -, -, f, f64, -, -, -⟩ := hk
  exact ⟨f, f64⟩

set_option maxRecDepth 100000 in
theorem c6_cases {E : zE} {h : zH} {n jn : Nat} {y : Int} (hy : -2147483648 ≤ y ∧ y ≤ 2147483647) {ac : Nat} (hac : h 64 35 = (ac : Int)) (hac2 : ac ≤ 40) (hm : mInv h n jn) : zCal E mX6_cases 12 4 [zrv E 64, ziv y] h (fun r h' => if (1 ≤ y ∧ y ≤ 20) ∧ h 64 32 + y ≤ 999 then r = some (ziv (h 64 32 + y)) ∧ ∃ h1, mkept (zup h 64 4 0) h1 ∧ mrun h1 n jn y.toNat h' else r = some (ziv (-1)) ∧ h' = zup (zup h 64 4 0) 77 1 (h 77 1 + 1)) (fun _ _ => False) := by
  refine zCal_of (by decide) (Nat.le_of_ble_eq_true rfl) (fun a => ?_)
  show zV _ 0 0 [zrv E 64, ziv y] [] _
  refine zV_aload_nr dX6_cases_0 rfl rfl ?_
  refine zV_iconst dX6_cases_1 ?_
  refine pf6_157 rfl (rfl) dX6_cases_2 ?_
  obtain ⟨h0, hh0, q0, z0, i0, e0, e4, r0, g0⟩ := st0 hm
  rw [hh0]
  refine zV_iload_n dX6_cases_5 rfl rfl ?_
  refine zV_i2l dX6_cases_6 (by omega) ?_
  refine zV_lconst dX6_cases_7 ?_
  refine zV_ldc2 (v := 20) kl6_397 dX6_cases_8 ?_
  refine zV_callS (As := [zlv y, zlv ((1 : Nat) : Int), zlv 20]) lk6_160 (c6_isIn 11 0 (by omega) (by omega) (by omega)) ⟨by show _ + 1 ≤ 12; omega, by show _ ≤ 4; omega⟩ rfl (Nat.le_of_ble_eq_true rfl) dX6_cases_11 (fun _ _ z => z.elim) (fun r h9 q => ?_)
  obtain ⟨rfl, hh⟩ := q
  rw [hh]
  clear hh
  refine zR_if_eq (tgt := 29) dX6_cases_14 (by decide) (by split <;> omega) (fun h14 => ?_) (fun h14 => ?_)
  · have n14 := ipF h14
    refine zV_aload_nr dX6_cases_29 rfl rfl ?_
    refine zV_iconst dX6_cases_30 ?_
    refine zV_callV (As := [ziv ((1 : Nat) : Int)]) lk6_399 (rfl) rfl rfl (c6_refuse (w := 1) 11 0 (by decide)) ⟨by show _ + 1 ≤ 12; omega, by show _ ≤ 4; omega⟩ rfl (Nat.le_of_ble_eq_true rfl) dX6_cases_31 (fun _ _ z => z.elim) (fun r h9 q => ?_)
    obtain ⟨rfl, hh⟩ := q
    rw [hh]
    clear hh
    exact zV_ireturn dX6_cases_34 rfl (Nat.zero_le _) (iteF (by omega) ⟨rfl, by rw [e0 77 (by decide)]⟩)
  · have y14 := ipT h14
    refine zV_aload_nr dX6_cases_17 rfl rfl ?_
    refine gf6_313 rfl rfl dX6_cases_18 ?_
    rw [e4 32 (by decide)]
    have c9 := hm.2.1.2.2.2.2.2
    refine zV_iload_n dX6_cases_21 rfl rfl ?_
    refine zV_iadd dX6_cases_22 ?_
    refine zV_sipush dX6_cases_23 (by decide) ?_
    refine zR_icmp_le (tgt := 35) dX6_cases_26 (by decide) (by omega) (by omega) (fun h26 => ?_) (fun h26 => ?_)
    · refine zV_aload_nr dX6_cases_35 rfl rfl ?_
      refine zV_callV (As := []) lk6_402 (rfl) rfl rfl (c6_keep (ac := ac) 11 0 (by decide) ((e4 35 (by decide)).trans hac) hac2) ⟨by show _ + 1 ≤ 12; omega, by show _ ≤ 4; omega⟩ rfl (Nat.le_of_ble_eq_true rfl) dX6_cases_36 (fun _ _ z => z.elim) (fun r h1 q => ?_)
      obtain ⟨rfl, kp⟩ := q
      obtain ⟨i1, c1, s1, t1, u1⟩ := kept_inv i0 kp
      obtain ⟨f1, f64⟩ := kept_of kp
      refine zV_aload_nr dX6_cases_39 rfl rfl ?_
      refine zV_iload_n dX6_cases_40 rfl rfl ?_
      refine zV_callV (As := [ziv y]) lk6_405 (rfl) rfl rfl (c6_goOn (n := n) (jn := jn) 11 0 (by decide) i1.1 i1.2.1 (by omega) i1.2.2) ⟨by show _ + 1 ≤ 12; omega, by show _ ≤ 4; omega⟩ rfl (Nat.le_of_ble_eq_true rfl) dX6_cases_41 (fun _ _ z => z.elim) (fun r h2 q => ?_)
      obtain ⟨rfl, ru⟩ := q
      refine zV_aload_nr dX6_cases_44 rfl rfl ?_
      refine gf6_313 rfl rfl dX6_cases_45 ?_
      refine zV_teq (w := ziv (h 64 32 + y)) (congrArg ziv (by rw [ru.2.2.2.1, c1, e4 32 (by decide)]; omega)) ?_
      exact zV_ireturn dX6_cases_48 rfl (Nat.zero_le _) (iteT (by omega) ⟨rfl, h1, kp, ru⟩)
    · refine zV_aload_nr dX6_cases_29 rfl rfl ?_
      refine zV_iconst dX6_cases_30 ?_
      refine zV_callV (As := [ziv ((1 : Nat) : Int)]) lk6_399 (rfl) rfl rfl (c6_refuse (w := 1) 11 0 (by decide)) ⟨by show _ + 1 ≤ 12; omega, by show _ ≤ 4; omega⟩ rfl (Nat.le_of_ble_eq_true rfl) dX6_cases_31 (fun _ _ z => z.elim) (fun r h9 q => ?_)
      obtain ⟨rfl, hh⟩ := q
      rw [hh]
      clear hh
      exact zV_ireturn dX6_cases_34 rfl (Nat.zero_le _) (iteF (by omega) ⟨rfl, by rw [e0 77 (by decide)]⟩)
set_option maxRecDepth 100000 in
theorem c6_change {E : zE} {h : zH} {n jn : Nat} {x y : Int} (hx : -2147483648 ≤ x ∧ x ≤ 2147483647) (hy : -2147483648 ≤ y ∧ y ≤ 2147483647) {ac : Nat} (hac : h 64 35 = (ac : Int)) (hac2 : ac ≤ 40) (hse : ∀ j, j < jn → seated (h 81) jn j) (hm : mInv h n jn) : zCal E mX6_change 12 4 [zrv E 64, ziv x, ziv y] h (fun r h' => if (0 ≤ x ∧ x < jn) ∧ (0 ≤ y ∧ y < jn) then (if x = y then r = some (ziv 0) ∧ h' = zup (zup h 64 4 0) 77 1 (h 77 1 + 1) else r = some (ziv 1) ∧ ∃ h1, mkept (zup h 64 4 0) h1 ∧ h' = zst h1 81 (swapP (h 81) x y jn)) else r = some (ziv 0) ∧ h' = zup (zup h 64 4 0) 64 4 1) (fun _ _ => False) := by
  refine zCal_of (by decide) (Nat.le_of_ble_eq_true rfl) (fun a => ?_)
  show zV _ 0 0 [zrv E 64, ziv x, ziv y] [] _
  refine zV_aload_nr dX6_change_0 rfl rfl ?_
  refine zV_iconst dX6_change_1 ?_
  refine pf6_157 rfl (rfl) dX6_change_2 ?_
  obtain ⟨h0, hh0, q0, z0, i0, e0, e4, r0, g0⟩ := st0 hm
  rw [hh0]
  refine zV_aload_nr dX6_change_5 rfl rfl ?_
  refine zV_iload_n dX6_change_6 rfl rfl ?_
  refine zV_callV (As := [ziv x]) lk6_385 (rfl) rfl rfl (c6_isJudge (jn := jn) 11 0 (by decide) hx i0.1.1.2.2.2 i0.1.1.2.1) ⟨by show _ + 1 ≤ 12; omega, by show _ ≤ 4; omega⟩ rfl (Nat.le_of_ble_eq_true rfl) dX6_change_7 (fun _ _ z => z.elim) (fun r h9 q => ?_)
  obtain ⟨rfl, hh⟩ := q
  rw [hh]
  clear hh
  refine zR_if_eq (tgt := 21) dX6_change_10 (by decide) (by split <;> omega) (fun h10 => ?_) (fun h10 => ?_)
  · have n10 := ipF h10
    refine zV_aload_nr dX6_change_21 rfl rfl ?_
    refine zV_iconst dX6_change_22 ?_
    refine zV_callV (As := [ziv 1]) lk6_408 (rfl) rfl rfl (c6_failing 11 0) ⟨by show _ + 1 ≤ 12; omega, by show _ ≤ 4; omega⟩ rfl (Nat.le_of_ble_eq_true rfl) dX6_change_23 (fun _ _ z => z.elim) (fun r h9 q => ?_)
    obtain ⟨rfl, hh⟩ := q
    rw [hh]
    clear hh
    exact zV_zreturn dX6_change_26 rfl (Or.inl rfl) (Nat.zero_le _) (iteF (by omega) ⟨rfl, rfl⟩)
  · have y10 := ipT h10
    refine zV_aload_nr dX6_change_13 rfl rfl ?_
    refine zV_iload_n dX6_change_14 rfl rfl ?_
    refine zV_callV (As := [ziv y]) lk6_385 (rfl) rfl rfl (c6_isJudge (jn := jn) 11 0 (by decide) hy i0.1.1.2.2.2 i0.1.1.2.1) ⟨by show _ + 1 ≤ 12; omega, by show _ ≤ 4; omega⟩ rfl (Nat.le_of_ble_eq_true rfl) dX6_change_15 (fun _ _ z => z.elim) (fun r h9 q => ?_)
    obtain ⟨rfl, hh⟩ := q
    rw [hh]
    clear hh
    refine zR_if_ne (tgt := 27) dX6_change_18 (by decide) (by split <;> omega) (fun h18 => ?_) (fun h18 => ?_)
    · have y18 := ipT h18
      refine zV_iload_n dX6_change_27 rfl rfl ?_
      refine zV_iload_n dX6_change_28 rfl rfl ?_
      refine zR_icmp_ne (tgt := 44) dX6_change_29 (by decide) (by omega) (by omega) (fun h29 => ?_) (fun h29 => ?_)
      · refine zV_aload_nr dX6_change_44 rfl rfl ?_
        refine zV_callV (As := []) lk6_402 (rfl) rfl rfl (c6_keep (ac := ac) 11 0 (by decide) ((e4 35 (by decide)).trans hac) hac2) ⟨by show _ + 1 ≤ 12; omega, by show _ ≤ 4; omega⟩ rfl (Nat.le_of_ble_eq_true rfl) dX6_change_45 (fun _ _ z => z.elim) (fun r h1 q => ?_)
        obtain ⟨rfl, kp⟩ := q
        obtain ⟨i1, c1, s1, t1, u1⟩ := kept_inv i0 kp
        obtain ⟨f1, f64⟩ := kept_of kp
        refine zV_aload_nr dX6_change_48 rfl rfl ?_
        refine zV_iload_n dX6_change_49 rfl rfl ?_
        refine zV_iload_n dX6_change_50 rfl rfl ?_
        refine zV_callV (As := [ziv x, ziv y]) lk6_411 (rfl) rfl rfl (c6_swap (jn := jn) 11 0 (by decide) (by omega) (by omega) i1.1.1.2.2.2 i1.1.1.2.1 i1.2.1.2.2.2.1 (by rw [s1, e0 81 (by decide)]; exact hse)) ⟨by show _ + 1 ≤ 12; omega, by show _ ≤ 4; omega⟩ rfl (Nat.le_of_ble_eq_true rfl) dX6_change_51 (fun _ _ z => z.elim) (fun r h2 q => ?_)
        obtain ⟨rfl, hh⟩ := q
        rw [hh]
        clear hh
        refine zV_iconst dX6_change_54 ?_
        exact zV_zreturn dX6_change_55 rfl (Or.inr rfl) (Nat.zero_le _) (iteT (by omega) (iteF h29 ⟨rfl, h1, kp, by rw [s1, e0 81 (by decide)]⟩))
      · refine zV_aload_nr dX6_change_32 rfl rfl ?_
        refine gf6_70 rfl (rfl) dX6_change_33 ?_
        refine zV_teq (w := zrv E 77) rfl ?_
        refine zV_iconst dX6_change_36 ?_
        refine zV_dup2 dX6_change_37 rfl rfl ?_
        refine zV_ialoadN (i := 1) (N := 3) (rfl) (by decide) (by decide) dX6_change_38 ?_
        refine zV_iconst dX6_change_39 ?_
        refine zV_iadd dX6_change_40 ?_
        refine zV_iastoreN (i := 1) (N := 3) (rfl) (by decide) (by decide) dX6_change_41 ?_
        refine zV_iconst dX6_change_42 ?_
        exact zV_zreturn dX6_change_43 rfl (Or.inl rfl) (Nat.zero_le _) (iteT (by omega) (iteT h29 ⟨rfl, by rw [e0 77 (by decide)]⟩))
    · have n18 := ipF h18
      refine zV_aload_nr dX6_change_21 rfl rfl ?_
      refine zV_iconst dX6_change_22 ?_
      refine zV_callV (As := [ziv 1]) lk6_408 (rfl) rfl rfl (c6_failing 11 0) ⟨by show _ + 1 ≤ 12; omega, by show _ ≤ 4; omega⟩ rfl (Nat.le_of_ble_eq_true rfl) dX6_change_23 (fun _ _ z => z.elim) (fun r h9 q => ?_)
      obtain ⟨rfl, hh⟩ := q
      rw [hh]
      clear hh
      exact zV_zreturn dX6_change_26 rfl (Or.inl rfl) (Nat.zero_le _) (iteF (by omega) ⟨rfl, rfl⟩)
set_option maxRecDepth 100000 in
theorem c6_hand {E : zE} {h : zH} {n jn : Nat} {x y : Int} (hx : -2147483648 ≤ x ∧ x ≤ 2147483647) (hy : -2147483648 ≤ y ∧ y ≤ 2147483647) {ac : Nat} (hac : h 64 35 = (ac : Int)) (hac2 : ac ≤ 40) (hm : mInv h n jn) : zCal E mX6_hand 12 4 [zrv E 64, ziv x, ziv y] h (fun r h' => if 0 ≤ x ∧ x < jn then (if 0 ≤ y ∧ y ≤ 12 then r = some (ziv (h 82 x.toNat)) ∧ ∃ h1, mkept (zup h 64 4 0) h1 ∧ h' = zup h1 82 x.toNat y else r = some (ziv (-1)) ∧ h' = zup (zup h 64 4 0) 77 1 (h 77 1 + 1)) else r = some (ziv 0) ∧ h' = zup (zup h 64 4 0) 64 4 1) (fun _ _ => False) := by
  refine zCal_of (by decide) (Nat.le_of_ble_eq_true rfl) (fun a => ?_)
  show zV _ 0 0 [zrv E 64, ziv x, ziv y, .null] [] _
  refine zV_aload_nr dX6_hand_0 rfl rfl ?_
  refine zV_iconst dX6_hand_1 ?_
  refine pf6_157 rfl (rfl) dX6_hand_2 ?_
  obtain ⟨h0, hh0, q0, z0, i0, e0, e4, r0, g0⟩ := st0 hm
  rw [hh0]
  refine zV_aload_nr dX6_hand_5 rfl rfl ?_
  refine zV_iload_n dX6_hand_6 rfl rfl ?_
  refine zV_callV (As := [ziv x]) lk6_385 (rfl) rfl rfl (c6_isJudge (jn := jn) 11 0 (by decide) hx i0.1.1.2.2.2 i0.1.1.2.1) ⟨by show _ + 1 ≤ 12; omega, by show _ ≤ 4; omega⟩ rfl (Nat.le_of_ble_eq_true rfl) dX6_hand_7 (fun _ _ z => z.elim) (fun r h9 q => ?_)
  obtain ⟨rfl, hh⟩ := q
  rw [hh]
  clear hh
  refine zR_if_ne (tgt := 19) dX6_hand_10 (by decide) (by split <;> omega) (fun h10 => ?_) (fun h10 => ?_)
  · have y10 := ipT h10
    have j8 := i0.1.1.2.1
    refine zV_iload_n dX6_hand_19 rfl rfl ?_
    refine zV_i2l dX6_hand_20 (by omega) ?_
    refine zV_lconst dX6_hand_21 ?_
    refine zV_ldc2 (v := 12) kl6_415 dX6_hand_22 ?_
    refine zV_callS (As := [zlv y, zlv ((0 : Nat) : Int), zlv 12]) lk6_160 (c6_isIn 11 0 (by omega) (by omega) (by omega)) ⟨by show _ + 1 ≤ 12; omega, by show _ ≤ 4; omega⟩ rfl (Nat.le_of_ble_eq_true rfl) dX6_hand_25 (fun _ _ z => z.elim) (fun r h9 q => ?_)
    obtain ⟨rfl, hh⟩ := q
    rw [hh]
    clear hh
    refine zR_if_ne (tgt := 37) dX6_hand_28 (by decide) (by split <;> omega) (fun h28 => ?_) (fun h28 => ?_)
    · have y28 := ipT h28
      refine zV_aload_nr dX6_hand_37 rfl rfl ?_
      refine zV_callV (As := []) lk6_402 (rfl) rfl rfl (c6_keep (ac := ac) 11 0 (by decide) ((e4 35 (by decide)).trans hac) hac2) ⟨by show _ + 1 ≤ 12; omega, by show _ ≤ 4; omega⟩ rfl (Nat.le_of_ble_eq_true rfl) dX6_hand_38 (fun _ _ z => z.elim) (fun r h1 q => ?_)
      obtain ⟨rfl, kp⟩ := q
      obtain ⟨i1, c1, s1, t1, u1⟩ := kept_inv i0 kp
      obtain ⟨f1, f64⟩ := kept_of kp
      refine zV_aload_nr dX6_hand_41 rfl rfl ?_
      refine gf6_88 rfl (rfl) dX6_hand_42 ?_
      refine zV_teq (w := zrv E 82) rfl ?_
      refine zV_iload_n dX6_hand_45 rfl rfl ?_
      refine zV_iaload (N := 8) (rfl) (by omega) (by decide) dX6_hand_46 ?_
      rw [u1, e0 82 (by decide)]
      refine zV_istore_n dX6_hand_47 rfl (Nat.le_of_ble_eq_true rfl) rfl ?_
      refine zV_aload_nr dX6_hand_48 rfl rfl ?_
      refine gf6_88 rfl (rfl) dX6_hand_49 ?_
      refine zV_teq (w := zrv E 82) rfl ?_
      refine zV_iload_n dX6_hand_52 rfl rfl ?_
      refine zV_iload_n dX6_hand_53 rfl rfl ?_
      refine zV_iastore (N := 8) (rfl) (by omega) (by decide) dX6_hand_54 ?_
      refine zV_iload_n dX6_hand_55 rfl rfl ?_
      exact zV_ireturn dX6_hand_56 rfl (Nat.zero_le _) (iteT (by omega) (iteT (by omega) ⟨rfl, h1, kp, rfl⟩))
    · have n28 := ipF h28
      refine zV_aload_nr dX6_hand_31 rfl rfl ?_
      refine zV_iconst dX6_hand_32 ?_
      refine zV_callV (As := [ziv ((1 : Nat) : Int)]) lk6_399 (rfl) rfl rfl (c6_refuse (w := 1) 11 0 (by decide)) ⟨by show _ + 1 ≤ 12; omega, by show _ ≤ 4; omega⟩ rfl (Nat.le_of_ble_eq_true rfl) dX6_hand_33 (fun _ _ z => z.elim) (fun r h9 q => ?_)
      obtain ⟨rfl, hh⟩ := q
      rw [hh]
      clear hh
      exact zV_ireturn dX6_hand_36 rfl (Nat.zero_le _) (iteT (by omega) (iteF (by omega) ⟨rfl, by rw [e0 77 (by decide)]⟩))
  · have n10 := ipF h10
    refine zV_aload_nr dX6_hand_13 rfl rfl ?_
    refine zV_iconst dX6_hand_14 ?_
    refine zV_callV (As := [ziv 1]) lk6_300 (rfl) rfl rfl (c6_fail 11 0) ⟨by show _ + 1 ≤ 12; omega, by show _ ≤ 4; omega⟩ rfl (Nat.le_of_ble_eq_true rfl) dX6_hand_15 (fun _ _ z => z.elim) (fun r h9 q => ?_)
    obtain ⟨rfl, hh⟩ := q
    rw [hh]
    clear hh
    exact zV_ireturn dX6_hand_18 rfl (Nat.zero_le _) (iteF (by omega) ⟨rfl, rfl⟩)
set_option maxRecDepth 100000 in
theorem c6_pot {E : zE} {h : zH} {n jn : Nat} {y : Int} (hy : -2147483648 ≤ y ∧ y ≤ 2147483647) {ac : Nat} (hac : h 64 35 = (ac : Int)) (hac2 : ac ≤ 40) (hm : mInv h n jn) : zCal E mX6_pot 12 4 [zrv E 64, ziv y] h (fun r h' => if 0 ≤ y ∧ y ≤ 99 then r = some (ziv (h 64 33)) ∧ ∃ h1, mkept (zup h 64 4 0) h1 ∧ h' = zup h1 64 33 y else r = some (ziv (-1)) ∧ h' = zup (zup h 64 4 0) 77 1 (h 77 1 + 1)) (fun _ _ => False) := by
  refine zCal_of (by decide) (Nat.le_of_ble_eq_true rfl) (fun a => ?_)
  show zV _ 0 0 [zrv E 64, ziv y, .null] [] _
  refine zV_aload_nr dX6_pot_0 rfl rfl ?_
  refine zV_iconst dX6_pot_1 ?_
  refine pf6_157 rfl (rfl) dX6_pot_2 ?_
  obtain ⟨h0, hh0, q0, z0, i0, e0, e4, r0, g0⟩ := st0 hm
  rw [hh0]
  refine zV_iload_n dX6_pot_5 rfl rfl ?_
  refine zV_i2l dX6_pot_6 (by omega) ?_
  refine zV_lconst dX6_pot_7 ?_
  refine zV_ldc2 (v := 99) kl6_417 dX6_pot_8 ?_
  refine zV_callS (As := [zlv y, zlv ((0 : Nat) : Int), zlv 99]) lk6_160 (c6_isIn 11 0 (by omega) (by omega) (by omega)) ⟨by show _ + 1 ≤ 12; omega, by show _ ≤ 4; omega⟩ rfl (Nat.le_of_ble_eq_true rfl) dX6_pot_11 (fun _ _ z => z.elim) (fun r h9 q => ?_)
  obtain ⟨rfl, hh⟩ := q
  rw [hh]
  clear hh
  refine zR_if_ne (tgt := 23) dX6_pot_14 (by decide) (by split <;> omega) (fun h14 => ?_) (fun h14 => ?_)
  · have y14 := ipT h14
    refine zV_aload_nr dX6_pot_23 rfl rfl ?_
    refine zV_callV (As := []) lk6_402 (rfl) rfl rfl (c6_keep (ac := ac) 11 0 (by decide) ((e4 35 (by decide)).trans hac) hac2) ⟨by show _ + 1 ≤ 12; omega, by show _ ≤ 4; omega⟩ rfl (Nat.le_of_ble_eq_true rfl) dX6_pot_24 (fun _ _ z => z.elim) (fun r h1 q => ?_)
    obtain ⟨rfl, kp⟩ := q
    obtain ⟨i1, c1, s1, t1, u1⟩ := kept_inv i0 kp
    obtain ⟨f1, f64⟩ := kept_of kp
    refine zV_aload_nr dX6_pot_27 rfl rfl ?_
    refine gf6_151 rfl rfl dX6_pot_28 ?_
    rw [f64 33 (by decide), e4 33 (by decide)]
    refine zV_istore_n dX6_pot_31 rfl (Nat.le_of_ble_eq_true rfl) rfl ?_
    refine zV_aload_nr dX6_pot_32 rfl rfl ?_
    refine zV_iload_n dX6_pot_33 rfl rfl ?_
    refine pf6_151 rfl (rfl) dX6_pot_34 ?_
    refine zV_iload_n dX6_pot_37 rfl rfl ?_
    exact zV_ireturn dX6_pot_38 rfl (Nat.zero_le _) (iteT (by omega) ⟨rfl, h1, kp, rfl⟩)
  · have n14 := ipF h14
    refine zV_aload_nr dX6_pot_17 rfl rfl ?_
    refine zV_iconst dX6_pot_18 ?_
    refine zV_callV (As := [ziv ((1 : Nat) : Int)]) lk6_399 (rfl) rfl rfl (c6_refuse (w := 1) 11 0 (by decide)) ⟨by show _ + 1 ≤ 12; omega, by show _ ≤ 4; omega⟩ rfl (Nat.le_of_ble_eq_true rfl) dX6_pot_19 (fun _ _ z => z.elim) (fun r h9 q => ?_)
    obtain ⟨rfl, hh⟩ := q
    rw [hh]
    clear hh
    exact zV_ireturn dX6_pot_22 rfl (Nat.zero_le _) (iteF (by omega) ⟨rfl, by rw [e0 77 (by decide)]⟩)
set_option maxRecDepth 100000 in
theorem c6_put {E : zE} {h : zH} {n jn : Nat} {x y : Int} (hx : -2147483648 ≤ x ∧ x ≤ 2147483647) (hy : -2147483648 ≤ y ∧ y ≤ 2147483647) {ac : Nat} (hac : h 64 35 = (ac : Int)) (hac2 : ac ≤ 40) (hm : mInv h n jn) : zCal E mX6_put 12 4 [zrv E 64, ziv x, ziv y] h (fun r h' => if (0 ≤ x ∧ x < n) ∧ (0 ≤ y ∧ y < 12) then (if h 80 x.toNat = y then r = some (ziv (-1)) ∧ h' = zup (zup h 64 4 0) 77 1 (h 77 1 + 1) else r = some (ziv (h 80 x.toNat)) ∧ ∃ h1, mkept (zup h 64 4 0) h1 ∧ h' = zup h1 80 x.toNat y) else r = some (ziv 0) ∧ h' = zup (zup h 64 4 0) 64 4 1) (fun _ _ => False) := by
  refine zCal_of (by decide) (Nat.le_of_ble_eq_true rfl) (fun a => ?_)
  show zV _ 0 0 [zrv E 64, ziv x, ziv y, .null] [] _
  refine zV_aload_nr dX6_put_0 rfl rfl ?_
  refine zV_iconst dX6_put_1 ?_
  refine pf6_157 rfl (rfl) dX6_put_2 ?_
  obtain ⟨h0, hh0, q0, z0, i0, e0, e4, r0, g0⟩ := st0 hm
  rw [hh0]
  refine zV_aload_nr dX6_put_5 rfl rfl ?_
  refine zV_iload_n dX6_put_6 rfl rfl ?_
  refine zV_callV (As := [ziv x]) lk6_382 (rfl) rfl rfl (c6_isLeaf (jn := jn) 11 0 (by decide) hx i0.1.1.2.2.1 i0.1.1.1) ⟨by show _ + 1 ≤ 12; omega, by show _ ≤ 4; omega⟩ rfl (Nat.le_of_ble_eq_true rfl) dX6_put_7 (fun _ _ z => z.elim) (fun r h9 q => ?_)
  obtain ⟨rfl, hh⟩ := q
  rw [hh]
  clear hh
  refine zR_if_eq (tgt := 20) dX6_put_10 (by decide) (by split <;> omega) (fun h10 => ?_) (fun h10 => ?_)
  · have n10 := ipF h10
    refine zV_aload_nr dX6_put_20 rfl rfl ?_
    refine zV_iconst dX6_put_21 ?_
    refine zV_callV (As := [ziv 1]) lk6_300 (rfl) rfl rfl (c6_fail 11 0) ⟨by show _ + 1 ≤ 12; omega, by show _ ≤ 4; omega⟩ rfl (Nat.le_of_ble_eq_true rfl) dX6_put_22 (fun _ _ z => z.elim) (fun r h9 q => ?_)
    obtain ⟨rfl, hh⟩ := q
    rw [hh]
    clear hh
    exact zV_ireturn dX6_put_25 rfl (Nat.zero_le _) (iteF (by omega) ⟨rfl, rfl⟩)
  · have y10 := ipT h10
    refine zV_iload_n dX6_put_13 rfl rfl ?_
    refine zV_callS (As := [ziv y]) lk6_394 (c6_isPlace 11 0 (by decide) hy) ⟨by show _ + 1 ≤ 12; omega, by show _ ≤ 4; omega⟩ rfl (Nat.le_of_ble_eq_true rfl) dX6_put_14 (fun _ _ z => z.elim) (fun r h9 q => ?_)
    obtain ⟨rfl, hh⟩ := q
    rw [hh]
    clear hh
    refine zR_if_ne (tgt := 26) dX6_put_17 (by decide) (by split <;> omega) (fun h17 => ?_) (fun h17 => ?_)
    · have y17 := ipT h17
      have n8 := i0.1.1.1
      have d1 := hm.2.1.1 x.toNat (by omega)
      refine zV_aload_nr dX6_put_26 rfl rfl ?_
      refine gf6_82 rfl (rfl) dX6_put_27 ?_
      refine zV_teq (w := zrv E 80) rfl ?_
      refine zV_iload_n dX6_put_30 rfl rfl ?_
      refine zV_iaload (N := 8) (rfl) (by omega) (by decide) dX6_put_31 ?_
      rw [e0 80 (by decide)]
      refine zV_istore_n dX6_put_32 rfl (Nat.le_of_ble_eq_true rfl) rfl ?_
      refine zV_iload_n dX6_put_33 rfl rfl ?_
      refine zV_iload_n dX6_put_34 rfl rfl ?_
      refine zR_icmp_ne (tgt := 44) dX6_put_35 (by decide) (by omega) (by omega) (fun h35 => ?_) (fun h35 => ?_)
      · refine zV_aload_nr dX6_put_44 rfl rfl ?_
        refine zV_callV (As := []) lk6_402 (rfl) rfl rfl (c6_keep (ac := ac) 11 0 (by decide) ((e4 35 (by decide)).trans hac) hac2) ⟨by show _ + 1 ≤ 12; omega, by show _ ≤ 4; omega⟩ rfl (Nat.le_of_ble_eq_true rfl) dX6_put_45 (fun _ _ z => z.elim) (fun r h1 q => ?_)
        obtain ⟨rfl, kp⟩ := q
        obtain ⟨i1, c1, s1, t1, u1⟩ := kept_inv i0 kp
        obtain ⟨f1, f64⟩ := kept_of kp
        refine zV_aload_nr dX6_put_48 rfl rfl ?_
        refine gf6_82 rfl (rfl) dX6_put_49 ?_
        refine zV_teq (w := zrv E 80) rfl ?_
        refine zV_iload_n dX6_put_52 rfl rfl ?_
        refine zV_iload_n dX6_put_53 rfl rfl ?_
        refine zV_iastore (N := 8) (rfl) (by omega) (by decide) dX6_put_54 ?_
        refine zV_iload_n dX6_put_55 rfl rfl ?_
        exact zV_ireturn dX6_put_56 rfl (Nat.zero_le _) (iteT (by omega) (iteF h35 ⟨rfl, h1, kp, rfl⟩))
      · refine zV_aload_nr dX6_put_38 rfl rfl ?_
        refine zV_iconst dX6_put_39 ?_
        refine zV_callV (As := [ziv ((1 : Nat) : Int)]) lk6_399 (rfl) rfl rfl (c6_refuse (w := 1) 11 0 (by decide)) ⟨by show _ + 1 ≤ 12; omega, by show _ ≤ 4; omega⟩ rfl (Nat.le_of_ble_eq_true rfl) dX6_put_40 (fun _ _ z => z.elim) (fun r h9 q => ?_)
        obtain ⟨rfl, hh⟩ := q
        rw [hh]
        clear hh
        exact zV_ireturn dX6_put_43 rfl (Nat.zero_le _) (iteT (by omega) (iteT h35 ⟨rfl, by rw [e0 77 (by decide)]⟩))
    · have n17 := ipF h17
      refine zV_aload_nr dX6_put_20 rfl rfl ?_
      refine zV_iconst dX6_put_21 ?_
      refine zV_callV (As := [ziv 1]) lk6_300 (rfl) rfl rfl (c6_fail 11 0) ⟨by show _ + 1 ≤ 12; omega, by show _ ≤ 4; omega⟩ rfl (Nat.le_of_ble_eq_true rfl) dX6_put_22 (fun _ _ z => z.elim) (fun r h9 q => ?_)
      obtain ⟨rfl, hh⟩ := q
      rw [hh]
      clear hh
      exact zV_ireturn dX6_put_25 rfl (Nat.zero_le _) (iteF (by omega) ⟨rfl, rfl⟩)
set_option maxRecDepth 100000 in
theorem c6_undo {E : zE} {h : zH} {n jn : Nat} {ac : Nat} (hac : h 64 35 = (ac : Int)) (hac2 : ac ≤ 40) (hm : mInv h n jn) : zCal E mX6_undo 12 4 [zrv E 64] h (fun r h' => if ac = 0 then r = some (ziv (-1)) ∧ h' = (zup h 64 4 0) else r = some (ziv ((ac : Int) - 1)) ∧ munp (zup (zup h 64 4 0) 64 35 ((ac : Int) - 1)) 83 (27 * (ac - 1)) h') (fun _ _ => False) := by
  refine zCal_of (by decide) (Nat.le_of_ble_eq_true rfl) (fun a => ?_)
  show zV _ 0 0 [zrv E 64] [] _
  refine zV_aload_nr dX6_undo_0 rfl rfl ?_
  refine zV_iconst dX6_undo_1 ?_
  refine pf6_157 rfl (rfl) dX6_undo_2 ?_
  obtain ⟨h0, hh0, q0, z0, i0, e0, e4, r0, g0⟩ := st0 hm
  rw [hh0]
  refine zV_aload_nr dX6_undo_5 rfl rfl ?_
  refine gf6_316 rfl rfl dX6_undo_6 ?_
  rw [e4 35 (by decide), hac]
  refine zR_if_ne (tgt := 14) dX6_undo_9 (by decide) (by omega) (fun h9 => ?_) (fun h9 => ?_)
  · refine zV_aload_nr dX6_undo_14 rfl rfl ?_
    refine zV_dup dX6_undo_15 rfl ?_
    refine gf6_316 rfl rfl dX6_undo_16 ?_
    rw [e4 35 (by decide), hac]
    refine zV_iconst dX6_undo_19 ?_
    refine zV_isub dX6_undo_20 ?_
    refine pf6_316 rfl (rfl) dX6_undo_21 ?_
    refine zV_aload_nr dX6_undo_24 rfl rfl ?_
    refine zV_aload_nr dX6_undo_25 rfl rfl ?_
    refine gf6_91 rfl (rfl) dX6_undo_26 ?_
    refine zV_teq (w := zrv E 83) rfl ?_
    refine zV_bipush dX6_undo_29 (by decide) ?_
    refine zV_aload_nr dX6_undo_31 rfl rfl ?_
    refine gf6_316 rfl rfl dX6_undo_32 ?_
    rw [zup_at, if_pos rfl]
    refine zV_imul dX6_undo_35 ?_
    refine zV_teq (w := ziv ((27 * (ac - 1) : Nat) : Int)) (congrArg ziv (by omega)) ?_
    refine zV_callV (As := [zrv E 83, ziv ((27 * (ac - 1) : Nat) : Int)]) lk6_376 (rfl) rfl rfl (c6_unpack (c := 83) (N := 1080) (f := 27 * (ac - 1)) 11 0 zsh83 (by decide) scr83 (by omega)) ⟨by show _ + 1 ≤ 12; omega, by show _ ≤ 4; omega⟩ rfl (Nat.le_of_ble_eq_true rfl) dX6_undo_36 (fun _ _ z => z.elim) (fun r h2 q => ?_)
    obtain ⟨rfl, up⟩ := q
    refine zV_aload_nr dX6_undo_39 rfl rfl ?_
    refine gf6_316 rfl rfl dX6_undo_40 ?_
    refine zV_teq (w := ziv ((ac : Int) - 1)) (congrArg ziv (by rw [up.2.1 35 (by decide) (by decide) (by decide), zup_at, if_pos rfl])) ?_
    exact zV_ireturn dX6_undo_43 rfl (Nat.zero_le _) (iteF (by omega) ⟨rfl, up⟩)
  · refine zV_iconst dX6_undo_12 ?_
    exact zV_ireturn dX6_undo_13 rfl (Nat.zero_le _) (iteT (by omega) ⟨rfl, rfl⟩)
set_option maxRecDepth 100000 in
theorem c6_read {E : zE} {h : zH} {n jn : Nat} {x y : Int} (hx : -2147483648 ≤ x ∧ x ≤ 2147483647) (hy : -2147483648 ≤ y ∧ y ≤ 2147483647) {rn : Nat} (hrn : h 64 36 = (rn : Int)) (hrn2 : rn ≤ 8) (hm : mInv h n jn) : zCal E mX6_read 12 4 [zrv E 64, ziv x, ziv y] h (fun r h' => if 0 ≤ y ∧ y < 5 then (if (1 ≤ x ∧ x ≤ 20) ∧ rn < 8 then r = some (ziv ((rn : Int) + 1)) ∧ h' = zup (zup (zup (zup h 64 4 0) 92 rn x) 93 rn y) 64 36 ((rn : Int) + 1) else r = some (ziv (-1)) ∧ h' = zup (zup h 64 4 0) 77 2 (h 77 2 + 1)) else r = some (ziv 0) ∧ h' = zup (zup h 64 4 0) 64 4 1) (fun _ _ => False) := by
  refine zCal_of (by decide) (Nat.le_of_ble_eq_true rfl) (fun a => ?_)
  show zV _ 0 0 [zrv E 64, ziv x, ziv y] [] _
  refine zV_aload_nr dX6_read_0 rfl rfl ?_
  refine zV_iconst dX6_read_1 ?_
  refine pf6_157 rfl (rfl) dX6_read_2 ?_
  obtain ⟨h0, hh0, q0, z0, i0, e0, e4, r0, g0⟩ := st0 hm
  rw [hh0]
  refine zV_iload_n dX6_read_5 rfl rfl ?_
  refine zV_callS (As := [ziv y]) lk6_427 (c6_isVerdict 11 0 (by decide) hy) ⟨by show _ + 1 ≤ 12; omega, by show _ ≤ 4; omega⟩ rfl (Nat.le_of_ble_eq_true rfl) dX6_read_6 (fun _ _ z => z.elim) (fun r h9 q => ?_)
  obtain ⟨rfl, hh⟩ := q
  rw [hh]
  clear hh
  refine zR_if_ne (tgt := 18) dX6_read_9 (by decide) (by split <;> omega) (fun h9 => ?_) (fun h9 => ?_)
  · have y9 := ipT h9
    refine zV_aload_nr dX6_read_18 rfl rfl ?_
    refine gf6_319 rfl rfl dX6_read_19 ?_
    rw [e4 36 (by decide), hrn]
    refine zV_bipush dX6_read_22 (by decide) ?_
    refine zR_icmp_eq (tgt := 39) dX6_read_24 (by decide) (by omega) (by omega) (fun h24 => ?_) (fun h24 => ?_)
    · refine zV_aload_nr dX6_read_39 rfl rfl ?_
      refine zV_iconst dX6_read_40 ?_
      refine zV_callV (As := [ziv ((2 : Nat) : Int)]) lk6_399 (rfl) rfl rfl (c6_refuse (w := 2) 11 0 (by decide)) ⟨by show _ + 1 ≤ 12; omega, by show _ ≤ 4; omega⟩ rfl (Nat.le_of_ble_eq_true rfl) dX6_read_41 (fun _ _ z => z.elim) (fun r h9 q => ?_)
      obtain ⟨rfl, hh⟩ := q
      rw [hh]
      clear hh
      exact zV_ireturn dX6_read_44 rfl (Nat.zero_le _) (iteT (by omega) (iteF (by omega) ⟨rfl, by rw [e0 77 (by decide)]⟩))
    · refine zV_iload_n dX6_read_27 rfl rfl ?_
      refine zV_i2l dX6_read_28 (by omega) ?_
      refine zV_lconst dX6_read_29 ?_
      refine zV_ldc2 (v := 20) kl6_397 dX6_read_30 ?_
      refine zV_callS (As := [zlv x, zlv ((1 : Nat) : Int), zlv 20]) lk6_160 (c6_isIn 11 0 (by omega) (by omega) (by omega)) ⟨by show _ + 1 ≤ 12; omega, by show _ ≤ 4; omega⟩ rfl (Nat.le_of_ble_eq_true rfl) dX6_read_33 (fun _ _ z => z.elim) (fun r h9 q => ?_)
      obtain ⟨rfl, hh⟩ := q
      rw [hh]
      clear hh
      refine zR_if_ne (tgt := 45) dX6_read_36 (by decide) (by split <;> omega) (fun h36 => ?_) (fun h36 => ?_)
      · have y36 := ipT h36
        refine zV_aload_nr dX6_read_45 rfl rfl ?_
        refine gf6_118 rfl (rfl) dX6_read_46 ?_
        refine zV_teq (w := zrv E 92) rfl ?_
        refine zV_aload_nr dX6_read_49 rfl rfl ?_
        refine gf6_319 rfl rfl dX6_read_50 ?_
        rw [e4 36 (by decide), hrn]
        refine zV_iload_n dX6_read_53 rfl rfl ?_
        refine zV_iastoreN (i := rn) (N := 8) (rfl) (by omega) (by decide) dX6_read_54 ?_
        refine zV_aload_nr dX6_read_55 rfl rfl ?_
        refine gf6_121 rfl (rfl) dX6_read_56 ?_
        refine zV_teq (w := zrv E 93) rfl ?_
        refine zV_aload_nr dX6_read_59 rfl rfl ?_
        refine gf6_319 rfl rfl dX6_read_60 ?_
        rw [zup_fn (by decide), e4 36 (by decide), hrn]
        refine zV_iload_n dX6_read_63 rfl rfl ?_
        refine zV_iastoreN (i := rn) (N := 8) (rfl) (by omega) (by decide) dX6_read_64 ?_
        refine zV_aload_nr dX6_read_65 rfl rfl ?_
        refine zV_dup dX6_read_66 rfl ?_
        refine gf6_319 rfl rfl dX6_read_67 ?_
        rw [zup_fn (by decide), zup_fn (by decide), e4 36 (by decide), hrn]
        refine zV_iconst dX6_read_70 ?_
        refine zV_iadd dX6_read_71 ?_
        refine pf6_319 rfl (rfl) dX6_read_72 ?_
        refine zV_aload_nr dX6_read_75 rfl rfl ?_
        refine gf6_319 rfl rfl dX6_read_76 ?_
        rw [zup_at, if_pos rfl]
        exact zV_ireturn dX6_read_79 rfl (Nat.zero_le _) (iteT (by omega) (iteT (by omega) ⟨rfl, rfl⟩))
      · have n36 := ipF h36
        refine zV_aload_nr dX6_read_39 rfl rfl ?_
        refine zV_iconst dX6_read_40 ?_
        refine zV_callV (As := [ziv ((2 : Nat) : Int)]) lk6_399 (rfl) rfl rfl (c6_refuse (w := 2) 11 0 (by decide)) ⟨by show _ + 1 ≤ 12; omega, by show _ ≤ 4; omega⟩ rfl (Nat.le_of_ble_eq_true rfl) dX6_read_41 (fun _ _ z => z.elim) (fun r h9 q => ?_)
        obtain ⟨rfl, hh⟩ := q
        rw [hh]
        clear hh
        exact zV_ireturn dX6_read_44 rfl (Nat.zero_le _) (iteT (by omega) (iteF (by omega) ⟨rfl, by rw [e0 77 (by decide)]⟩))
  · have n9 := ipF h9
    refine zV_aload_nr dX6_read_12 rfl rfl ?_
    refine zV_iconst dX6_read_13 ?_
    refine zV_callV (As := [ziv 1]) lk6_300 (rfl) rfl rfl (c6_fail 11 0) ⟨by show _ + 1 ≤ 12; omega, by show _ ≤ 4; omega⟩ rfl (Nat.le_of_ble_eq_true rfl) dX6_read_14 (fun _ _ z => z.elim) (fun r h9 q => ?_)
    obtain ⟨rfl, hh⟩ := q
    rw [hh]
    clear hh
    exact zV_ireturn dX6_read_17 rfl (Nat.zero_le _) (iteF (by omega) ⟨rfl, rfl⟩)
set_option maxRecDepth 100000 in
theorem c6_forget {E : zE} {h : zH} {n jn : Nat}  (hm : mInv h n jn) : zCal E mX6_forget 12 4 [zrv E 64] h (fun r h' => r = none ∧ h' = zup (zup h 64 4 0) 64 36 0) (fun _ _ => False) := by
  refine zCal_of (by decide) (Nat.le_of_ble_eq_true rfl) (fun a => ?_)
  show zV _ 0 0 [zrv E 64] [] _
  refine zV_aload_nr dX6_forget_0 rfl rfl ?_
  refine zV_iconst dX6_forget_1 ?_
  refine pf6_157 rfl (rfl) dX6_forget_2 ?_
  obtain ⟨h0, hh0, q0, z0, i0, e0, e4, r0, g0⟩ := st0 hm
  rw [hh0]
  refine zV_aload_nr dX6_forget_5 rfl rfl ?_
  refine zV_iconst dX6_forget_6 ?_
  refine pf6_319 rfl (rfl) dX6_forget_7 ?_
  exact zV_vreturn dX6_forget_10 rfl (Nat.zero_le _) ⟨rfl, rfl⟩
set_option maxRecDepth 100000 in
theorem c6_copyTo {E : zE} {h : zH} {c e N M : Nat} (d k : Nat) (hcz : zsh[c]? = some (.inr (0, N))) (hez : zsh[e]? = some (.inr (0, M))) (hN : N ≤ M) (hM : M ≤ 2000) (hce : c ≠ e) : zCal E mX6_copyTo d k [zrv E c, zrv E e] h (fun r h' => r = none ∧ (∀ c2 : Nat, c2 ≠ c → h' c2 = h c2) ∧ ∀ i, i < N → h' c i = h e i) (fun _ _ => False) := by
  refine zCal_of (by decide) (Nat.le_of_ble_eq_true rfl) (fun a => ?_)
  show zV _ 0 0 [zrv E c, zrv E e, .null] [] _
  refine zV_iconst dX6_copyTo_0 ?_
  refine zV_istore_n dX6_copyTo_1 rfl (Nat.le_of_ble_eq_true rfl) rfl ?_
  have L2 : ∀ (m : Nat) (s : Nat) (h1 : zH), (N + 1 ≤ s + m) → (s ≤ N) → (∀ c2 : Nat, c2 ≠ c → h1 c2 = h c2) → (∀ i, i < s → h1 c i = h e i) → zV (E, mX6_copyTo, d, k, (fun r h' => r = none ∧ (∀ c2 : Nat, c2 ≠ c → h' c2 = h c2) ∧ ∀ i, i < N → h' c i = h e i), (fun _ _ => False), a) 0 2 [zrv E c, zrv E e, ziv (s : Int)] [] h1 := by
    intro m
    induction m with
    | zero => intro s h1 hm_ hs fr he; exfalso; omega
    | succ m ih =>
      intro s h1 hm_ hs fr he
      refine zV_iload_n dX6_copyTo_2 rfl rfl ?_
      refine zV_aload_nr dX6_copyTo_3 rfl rfl ?_
      refine zV_alen (t := 0) (N := N) (hcz) dX6_copyTo_4 ?_
      refine zR_icmp_ge (tgt := 20) dX6_copyTo_5 (by decide) (by omega) (by omega) (fun h5 => ?_) (fun h5 => ?_)
      · exact zV_vreturn dX6_copyTo_20 rfl (Nat.zero_le _) ⟨rfl, fr, fun i hi => he i (by omega)⟩
      · refine zV_aload_nr dX6_copyTo_8 rfl rfl ?_
        refine zV_iload_n dX6_copyTo_9 rfl rfl ?_
        refine zV_aload_nr dX6_copyTo_10 rfl rfl ?_
        refine zV_iload_n dX6_copyTo_11 rfl rfl ?_
        refine zV_ialoadN (i := s) (N := M) (hez) (by omega) (by omega) dX6_copyTo_12 ?_
        refine zV_iastoreN (i := s) (N := N) (hcz) (by omega) (by omega) dX6_copyTo_13 ?_
        refine zV_iinc dX6_copyTo_14 rfl (Nat.le_of_ble_eq_true rfl) rfl ?_
        refine zV_goto (tgt := 2) dX6_copyTo_17 (by decide) ?_
        exact ih (s + 1) _ (by omega) (by omega) (fun c2 z => by rw [zup_fn z]; exact fr c2 z) (fun i hi => by
          rw [zup_at, fr e (Ne.symm hce)]
          by_cases z : i = s
          · rw [if_pos z, z]
          · rw [if_neg z]; exact he i (by omega))
  exact L2 (N + 1) 0 h (by omega) (by omega) (fun _ _ => rfl) (fun i hi => absurd hi (Nat.not_lt_zero i))
def mimg (h h' : zH) : Prop := (∀ c2 : Nat, c2 ≠ 64 → (c2 < 98 ∨ 102 < c2) → h' c2 = h c2) ∧ (∀ j, j ≠ 4 → j ≠ 58 → j ≠ 59 → j ≠ 60 → h' 64 j = h 64 j) ∧ (h' 64 4 = 0 ∧ h' 64 58 = 1 ∧ h' 64 59 = h 64 35 ∧ h' 64 60 = h 64 36) ∧ (∀ i, i < 27 → h' 98 i = rowF h i) ∧ (∀ i, i < 1080 → h' 99 i = h 83 i) ∧ (∀ i, i < 8 → h' 100 i = h 92 i) ∧ (∀ i, i < 8 → h' 101 i = h 93 i) ∧ ∀ i, i < 3 → h' 102 i = h 77 i
def mrest (h h' : zH) : Prop := (∀ c2 : Nat, c2 ≠ 64 → c2 ≠ 77 → c2 ≠ 80 → c2 ≠ 81 → c2 ≠ 82 → c2 ≠ 83 → c2 ≠ 92 → c2 ≠ 93 → h' c2 = h c2) ∧ (∀ j, j ≠ 4 → (j < 32 ∨ 36 < j) → h' 64 j = h 64 j) ∧ (h' 64 4 = 0 ∧ h' 64 35 = h 64 59 ∧ h' 64 36 = h 64 60) ∧ (h' 64 32 = h 98 0 ∧ h' 64 33 = h 98 1 ∧ h' 64 34 = h 98 2) ∧ (∀ k, k < 8 → h' 80 k = h 98 (3 + k) ∧ h' 81 k = h 98 (11 + k) ∧ h' 82 k = h 98 (19 + k)) ∧ (∀ i, i < 1080 → h' 83 i = h 99 i) ∧ (∀ i, i < 8 → h' 92 i = h 100 i) ∧ (∀ i, i < 8 → h' 93 i = h 101 i) ∧ ∀ i, i < 3 → h' 77 i = h 102 i
theorem scr98 : scr 98 := ⟨by decide, by decide, by decide, by decide⟩

set_option maxRecDepth 100000 in
theorem c6_image {E : zE} {h : zH}  : zCal E mX6_image 12 4 [zrv E 64] h (fun r h' => r = none ∧ mimg h h') (fun _ _ => False) := by
  refine zCal_of (by decide) (Nat.le_of_ble_eq_true rfl) (fun a => ?_)
  show zV _ 0 0 [zrv E 64] [] _
  refine zV_aload_nr dX6_image_0 rfl rfl ?_
  refine zV_iconst dX6_image_1 ?_
  refine pf6_157 rfl (rfl) dX6_image_2 ?_
  obtain ⟨hA, hhA⟩ : ∃ hA, hA = zup h 64 4 0 := ⟨_, rfl⟩
  rw [← hhA]
  refine zV_aload_nr dX6_image_5 rfl rfl ?_
  refine zV_iconst dX6_image_6 ?_
  refine pf6_322 rfl (rfl) (Or.inr rfl) dX6_image_7 ?_
  refine zV_aload_nr dX6_image_10 rfl rfl ?_
  refine zV_aload_nr dX6_image_11 rfl rfl ?_
  refine gf6_316 rfl rfl dX6_image_12 ?_
  refine zV_teq (w := ziv (h 64 35)) (congrArg ziv (by rw [hhA]; rfl)) ?_
  refine pf6_489 rfl (rfl) dX6_image_15 ?_
  refine zV_aload_nr dX6_image_18 rfl rfl ?_
  refine zV_aload_nr dX6_image_19 rfl rfl ?_
  refine gf6_319 rfl rfl dX6_image_20 ?_
  refine zV_teq (w := ziv (h 64 36)) (congrArg ziv (by rw [hhA]; rfl)) ?_
  refine pf6_492 rfl (rfl) dX6_image_23 ?_
  obtain ⟨h0, hh0⟩ : ∃ h0, h0 = zup (zup (zup hA 64 58 1) 64 59 (h 64 35)) 64 60 (h 64 36) := ⟨_, rfl⟩
  refine zV_heq hh0 ?_
  have e0 : ∀ c2 : Nat, c2 ≠ 64 → h0 c2 = h c2 := fun c2 a => by rw [hh0, zup_fn a, zup_fn a, zup_fn a, hhA, zup_fn a]
  have e4 : ∀ j, j ≠ 4 → j ≠ 58 → j ≠ 59 → j ≠ 60 → h0 64 j = h 64 j := fun j a b c d => by rw [hh0, zup_at, if_neg d, zup_at, if_neg c, zup_at, if_neg b, hhA, zup_at, if_neg a]
  have z0 : h0 64 4 = 0 ∧ h0 64 58 = 1 ∧ h0 64 59 = h 64 35 ∧ h0 64 60 = h 64 36 := by subst hh0; subst hhA; exact ⟨rfl, rfl, rfl, rfl⟩
  refine zV_aload_nr dX6_image_26 rfl rfl ?_
  refine zV_aload_nr dX6_image_27 rfl rfl ?_
  refine gf6_136 rfl (rfl) dX6_image_28 ?_
  refine zV_teq (w := zrv E 98) rfl ?_
  refine zV_iconst dX6_image_31 ?_
  refine zV_callV (As := [zrv E 98, ziv ((0 : Nat) : Int)]) lk6_372 (rfl) rfl rfl (c6_pack (c := 98) (N := 27) (f := 0) 11 0 rfl (by decide) scr98 (by decide)) ⟨by show _ + 1 ≤ 12; omega, by show _ ≤ 4; omega⟩ rfl (Nat.le_of_ble_eq_true rfl) dX6_image_32 (fun _ _ z => z.elim) (fun r h1 q => ?_)
  obtain ⟨rfl, pk⟩ := q
  refine zV_aload_nr dX6_image_35 rfl rfl ?_
  refine gf6_139 rfl (rfl) dX6_image_36 ?_
  refine zV_teq (w := zrv E 99) rfl ?_
  refine zV_aload_nr dX6_image_39 rfl rfl ?_
  refine gf6_91 rfl (rfl) dX6_image_40 ?_
  refine zV_teq (w := zrv E 83) rfl ?_
  refine zV_callS (As := [zrv E 99, zrv E 83]) lk6_442 (c6_copyTo (c := 99) (e := 83) (N := 1080) (M := 1080) 11 0 rfl rfl (by decide) (by decide) (by decide)) ⟨by show _ + 1 ≤ 12; omega, by show _ ≤ 4; omega⟩ rfl (Nat.le_of_ble_eq_true rfl) dX6_image_43 (fun _ _ z => z.elim) (fun r h2 q => ?_)
  obtain ⟨rfl, fr99, cp99⟩ := q
  refine zV_aload_nr dX6_image_46 rfl rfl ?_
  refine gf6_142 rfl (rfl) dX6_image_47 ?_
  refine zV_teq (w := zrv E 100) rfl ?_
  refine zV_aload_nr dX6_image_50 rfl rfl ?_
  refine gf6_118 rfl (rfl) dX6_image_51 ?_
  refine zV_teq (w := zrv E 92) rfl ?_
  refine zV_callS (As := [zrv E 100, zrv E 92]) lk6_442 (c6_copyTo (c := 100) (e := 92) (N := 8) (M := 8) 11 0 rfl rfl (by decide) (by decide) (by decide)) ⟨by show _ + 1 ≤ 12; omega, by show _ ≤ 4; omega⟩ rfl (Nat.le_of_ble_eq_true rfl) dX6_image_54 (fun _ _ z => z.elim) (fun r h3 q => ?_)
  obtain ⟨rfl, fr100, cp100⟩ := q
  refine zV_aload_nr dX6_image_57 rfl rfl ?_
  refine gf6_145 rfl (rfl) dX6_image_58 ?_
  refine zV_teq (w := zrv E 101) rfl ?_
  refine zV_aload_nr dX6_image_61 rfl rfl ?_
  refine gf6_121 rfl (rfl) dX6_image_62 ?_
  refine zV_teq (w := zrv E 93) rfl ?_
  refine zV_callS (As := [zrv E 101, zrv E 93]) lk6_442 (c6_copyTo (c := 101) (e := 93) (N := 8) (M := 8) 11 0 rfl rfl (by decide) (by decide) (by decide)) ⟨by show _ + 1 ≤ 12; omega, by show _ ≤ 4; omega⟩ rfl (Nat.le_of_ble_eq_true rfl) dX6_image_65 (fun _ _ z => z.elim) (fun r h4 q => ?_)
  obtain ⟨rfl, fr101, cp101⟩ := q
  refine zV_aload_nr dX6_image_68 rfl rfl ?_
  refine gf6_148 rfl (rfl) dX6_image_69 ?_
  refine zV_teq (w := zrv E 102) rfl ?_
  refine zV_aload_nr dX6_image_72 rfl rfl ?_
  refine gf6_70 rfl (rfl) dX6_image_73 ?_
  refine zV_teq (w := zrv E 77) rfl ?_
  refine zV_callS (As := [zrv E 102, zrv E 77]) lk6_442 (c6_copyTo (c := 102) (e := 77) (N := 3) (M := 3) 11 0 rfl rfl (by decide) (by decide) (by decide)) ⟨by show _ + 1 ≤ 12; omega, by show _ ≤ 4; omega⟩ rfl (Nat.le_of_ble_eq_true rfl) dX6_image_76 (fun _ _ z => z.elim) (fun r h5 q => ?_)
  obtain ⟨rfl, fr102, cp102⟩ := q
  exact zV_vreturn dX6_image_79 rfl (Nat.zero_le _) ⟨rfl, fun c2 a b => by rw [fr102 c2 (by omega), fr101 c2 (by omega), fr100 c2 (by omega), fr99 c2 (by omega), pk.1 c2 (by omega), e0 c2 a], fun j a b c d => by rw [fr102 64 (by decide), fr101 64 (by decide), fr100 64 (by decide), fr99 64 (by decide), pk.1 64 (by decide), e4 j a b c d], by rw [fr102 64 (by decide), fr101 64 (by decide), fr100 64 (by decide), fr99 64 (by decide), pk.1 64 (by decide)]; exact z0,
      fun i hi => by rw [fr102 98 (by decide), fr101 98 (by decide), fr100 98 (by decide), fr99 98 (by decide), pk.2 i, if_pos (by omega), Nat.sub_zero]; unfold rowF; rw [e4 32 (by decide) (by decide) (by decide) (by decide), e4 33 (by decide) (by decide) (by decide) (by decide), e4 34 (by decide) (by decide) (by decide) (by decide), e0 80 (by decide), e0 81 (by decide), e0 82 (by decide)],
      fun i hi => by rw [fr102 99 (by decide), fr101 99 (by decide), fr100 99 (by decide), cp99 i hi, pk.1 83 (by decide), e0 83 (by decide)], fun i hi => by rw [fr102 100 (by decide), fr101 100 (by decide), cp100 i hi, fr99 92 (by decide), pk.1 92 (by decide), e0 92 (by decide)], fun i hi => by rw [fr102 101 (by decide), cp101 i hi, fr100 93 (by decide), fr99 93 (by decide), pk.1 93 (by decide), e0 93 (by decide)], fun i hi => by rw [cp102 i hi, fr101 77 (by decide), fr100 77 (by decide), fr99 77 (by decide), pk.1 77 (by decide), e0 77 (by decide)]⟩
set_option maxRecDepth 100000 in
theorem c6_restore {E : zE} {h : zH} (him : h 64 58 = 0 ∨ h 64 58 = 1) : zCal E mX6_restore 12 4 [zrv E 64] h (fun r h' => if h 64 58 = 0 then r = some (ziv 0) ∧ h' = zup h 64 4 0 else r = some (ziv 1) ∧ mrest h h') (fun _ _ => False) := by
  refine zCal_of (by decide) (Nat.le_of_ble_eq_true rfl) (fun a => ?_)
  show zV _ 0 0 [zrv E 64] [] _
  refine zV_aload_nr dX6_restore_0 rfl rfl ?_
  refine zV_iconst dX6_restore_1 ?_
  refine pf6_157 rfl (rfl) dX6_restore_2 ?_
  obtain ⟨hA, hhA⟩ : ∃ hA, hA = zup h 64 4 0 := ⟨_, rfl⟩
  rw [← hhA]
  refine zV_aload_nr dX6_restore_5 rfl rfl ?_
  refine gf6_322 rfl rfl dX6_restore_6 ?_
  refine zV_teq (w := ziv (h 64 58)) (congrArg ziv (by rw [hhA]; rfl)) ?_
  refine zR_if_ne (tgt := 14) dX6_restore_9 (by decide) (by omega) (fun h9 => ?_) (fun h9 => ?_)
  · refine zV_aload_nr dX6_restore_14 rfl rfl ?_
    refine zV_aload_nr dX6_restore_15 rfl rfl ?_
    refine gf6_489 rfl rfl dX6_restore_16 ?_
    refine zV_teq (w := ziv (h 64 59)) (congrArg ziv (by rw [hhA]; rfl)) ?_
    refine pf6_316 rfl (rfl) dX6_restore_19 ?_
    refine zV_aload_nr dX6_restore_22 rfl rfl ?_
    refine zV_aload_nr dX6_restore_23 rfl rfl ?_
    refine gf6_492 rfl rfl dX6_restore_24 ?_
    refine zV_teq (w := ziv (h 64 60)) (congrArg ziv (by rw [hhA]; rfl)) ?_
    refine pf6_319 rfl (rfl) dX6_restore_27 ?_
    obtain ⟨h0, hh0⟩ : ∃ h0, h0 = zup (zup hA 64 35 (h 64 59)) 64 36 (h 64 60) := ⟨_, rfl⟩
    refine zV_heq hh0 ?_
    have e0 : ∀ c2 : Nat, c2 ≠ 64 → h0 c2 = h c2 := fun c2 a => by rw [hh0, zup_fn a, zup_fn a, hhA, zup_fn a]
    have e4 : ∀ j, j ≠ 4 → j ≠ 35 → j ≠ 36 → h0 64 j = h 64 j := fun j a b c => by rw [hh0, zup_at, if_neg c, zup_at, if_neg b, hhA, zup_at, if_neg a]
    have z0 : h0 64 4 = 0 ∧ h0 64 35 = h 64 59 ∧ h0 64 36 = h 64 60 := by subst hh0; subst hhA; exact ⟨rfl, rfl, rfl⟩
    refine zV_aload_nr dX6_restore_30 rfl rfl ?_
    refine zV_aload_nr dX6_restore_31 rfl rfl ?_
    refine gf6_136 rfl (rfl) dX6_restore_32 ?_
    refine zV_teq (w := zrv E 98) rfl ?_
    refine zV_iconst dX6_restore_35 ?_
    refine zV_callV (As := [zrv E 98, ziv ((0 : Nat) : Int)]) lk6_376 (rfl) rfl rfl (c6_unpack (c := 98) (N := 27) (f := 0) 11 0 rfl (by decide) scr98 (by decide)) ⟨by show _ + 1 ≤ 12; omega, by show _ ≤ 4; omega⟩ rfl (Nat.le_of_ble_eq_true rfl) dX6_restore_36 (fun _ _ z => z.elim) (fun r h1 q => ?_)
    obtain ⟨rfl, up⟩ := q
    refine zV_aload_nr dX6_restore_39 rfl rfl ?_
    refine gf6_91 rfl (rfl) dX6_restore_40 ?_
    refine zV_teq (w := zrv E 83) rfl ?_
    refine zV_aload_nr dX6_restore_43 rfl rfl ?_
    refine gf6_139 rfl (rfl) dX6_restore_44 ?_
    refine zV_teq (w := zrv E 99) rfl ?_
    refine zV_callS (As := [zrv E 83, zrv E 99]) lk6_442 (c6_copyTo (c := 83) (e := 99) (N := 1080) (M := 1080) 11 0 rfl rfl (by decide) (by decide) (by decide)) ⟨by show _ + 1 ≤ 12; omega, by show _ ≤ 4; omega⟩ rfl (Nat.le_of_ble_eq_true rfl) dX6_restore_47 (fun _ _ z => z.elim) (fun r h2 q => ?_)
    obtain ⟨rfl, fr83, cp83⟩ := q
    refine zV_aload_nr dX6_restore_50 rfl rfl ?_
    refine gf6_118 rfl (rfl) dX6_restore_51 ?_
    refine zV_teq (w := zrv E 92) rfl ?_
    refine zV_aload_nr dX6_restore_54 rfl rfl ?_
    refine gf6_142 rfl (rfl) dX6_restore_55 ?_
    refine zV_teq (w := zrv E 100) rfl ?_
    refine zV_callS (As := [zrv E 92, zrv E 100]) lk6_442 (c6_copyTo (c := 92) (e := 100) (N := 8) (M := 8) 11 0 rfl rfl (by decide) (by decide) (by decide)) ⟨by show _ + 1 ≤ 12; omega, by show _ ≤ 4; omega⟩ rfl (Nat.le_of_ble_eq_true rfl) dX6_restore_58 (fun _ _ z => z.elim) (fun r h3 q => ?_)
    obtain ⟨rfl, fr92, cp92⟩ := q
    refine zV_aload_nr dX6_restore_61 rfl rfl ?_
    refine gf6_121 rfl (rfl) dX6_restore_62 ?_
    refine zV_teq (w := zrv E 93) rfl ?_
    refine zV_aload_nr dX6_restore_65 rfl rfl ?_
    refine gf6_145 rfl (rfl) dX6_restore_66 ?_
    refine zV_teq (w := zrv E 101) rfl ?_
    refine zV_callS (As := [zrv E 93, zrv E 101]) lk6_442 (c6_copyTo (c := 93) (e := 101) (N := 8) (M := 8) 11 0 rfl rfl (by decide) (by decide) (by decide)) ⟨by show _ + 1 ≤ 12; omega, by show _ ≤ 4; omega⟩ rfl (Nat.le_of_ble_eq_true rfl) dX6_restore_69 (fun _ _ z => z.elim) (fun r h4 q => ?_)
    obtain ⟨rfl, fr93, cp93⟩ := q
    refine zV_aload_nr dX6_restore_72 rfl rfl ?_
    refine gf6_70 rfl (rfl) dX6_restore_73 ?_
    refine zV_teq (w := zrv E 77) rfl ?_
    refine zV_aload_nr dX6_restore_76 rfl rfl ?_
    refine gf6_148 rfl (rfl) dX6_restore_77 ?_
    refine zV_teq (w := zrv E 102) rfl ?_
    refine zV_callS (As := [zrv E 77, zrv E 102]) lk6_442 (c6_copyTo (c := 77) (e := 102) (N := 3) (M := 3) 11 0 rfl rfl (by decide) (by decide) (by decide)) ⟨by show _ + 1 ≤ 12; omega, by show _ ≤ 4; omega⟩ rfl (Nat.le_of_ble_eq_true rfl) dX6_restore_80 (fun _ _ z => z.elim) (fun r h5 q => ?_)
    obtain ⟨rfl, fr77, cp77⟩ := q
    refine zV_iconst dX6_restore_83 ?_
    exact zV_zreturn dX6_restore_84 rfl (Or.inr rfl) (Nat.zero_le _) (iteF (by omega) ⟨rfl, fun c2 a b c d e f g i => by rw [fr77 c2 b, fr93 c2 i, fr92 c2 g, fr83 c2 f, up.1 c2 a c d e, e0 c2 a], fun j a b => by rw [fr77 64 (by decide), fr93 64 (by decide), fr92 64 (by decide), fr83 64 (by decide), up.2.1 j (by omega) (by omega) (by omega), e4 j a (by omega) (by omega)], by rw [fr77 64 (by decide), fr93 64 (by decide), fr92 64 (by decide), fr83 64 (by decide), up.2.1 4 (by decide) (by decide) (by decide), up.2.1 35 (by decide) (by decide) (by decide), up.2.1 36 (by decide) (by decide) (by decide)]; exact z0,
        by rw [fr77 64 (by decide), fr93 64 (by decide), fr92 64 (by decide), fr83 64 (by decide), up.2.2.1.1, up.2.2.1.2.1, up.2.2.1.2.2, e0 98 (by decide)]; exact ⟨rfl, rfl, rfl⟩, fun k hk => by rw [fr77 80 (by decide), fr93 80 (by decide), fr92 80 (by decide), fr83 80 (by decide), fr77 81 (by decide), fr93 81 (by decide), fr92 81 (by decide), fr83 81 (by decide), fr77 82 (by decide), fr93 82 (by decide), fr92 82 (by decide), fr83 82 (by decide), (up.2.2.2 k hk).1, (up.2.2.2 k hk).2.1, (up.2.2.2 k hk).2.2, e0 98 (by decide), Nat.zero_add]; exact ⟨rfl, rfl, rfl⟩,
        fun i hi => by rw [fr77 83 (by decide), fr93 83 (by decide), fr92 83 (by decide), cp83 i hi, up.1 99 (by decide) (by decide) (by decide) (by decide), e0 99 (by decide)], fun i hi => by rw [fr77 92 (by decide), fr93 92 (by decide), cp92 i hi, fr83 100 (by decide), up.1 100 (by decide) (by decide) (by decide) (by decide), e0 100 (by decide)], fun i hi => by rw [fr77 93 (by decide), cp93 i hi, fr92 101 (by decide), fr83 101 (by decide), up.1 101 (by decide) (by decide) (by decide) (by decide), e0 101 (by decide)], fun i hi => by rw [cp77 i hi, fr93 102 (by decide), fr92 102 (by decide), fr83 102 (by decide), up.1 102 (by decide) (by decide) (by decide) (by decide), e0 102 (by decide)]⟩)
  · refine zV_iconst dX6_restore_12 ?_
    exact zV_zreturn dX6_restore_13 rfl (Or.inl rfl) (Nat.zero_le _) (iteT (by omega) ⟨rfl, rfl⟩)
set_option maxRecDepth 100000 in
theorem c6_feed {E : zE} {h : zH} {x0 x1 x2 x3 x4 : Int} (hl : 0 ≤ h 64 17 ∧ h 64 17 ≤ 700) : zCal E mX6_feed 12 4 [zrv E 64, ziv x0, ziv x1, ziv x2, ziv x3, ziv x4] h (fun r h' => if h 64 17 + 20 ≤ 700 then r = some (ziv (h 64 17 + 20)) ∧ (∀ c2 : Nat, c2 ≠ 64 → c2 ≠ 79 → h' c2 = h c2) ∧ (∀ j, j ≠ 4 → j ≠ 17 → h' 64 j = h 64 j) ∧ h' 64 4 = 0 ∧ h' 64 17 = h 64 17 + 20 ∧ (∀ i : Nat, (i : Int) < h 64 17 → h' 79 i = h 79 i) ∧ ∀ i : Nat, i < 20 → h' 79 ((h 64 17).toNat + i) = zand (zshr (if i < 4 then x0 else if i < 8 then x1 else if i < 12 then x2 else if i < 16 then x3 else x4) (24 - 8 * ((i % 4 : Nat) : Int))) 255 else r = some (ziv (-1)) ∧ h' = zup h 64 4 0) (fun _ _ => False) := by
  refine zCal_of (by decide) (Nat.le_of_ble_eq_true rfl) (fun a => ?_)
  show zV _ 0 0 [zrv E 64, ziv x0, ziv x1, ziv x2, ziv x3, ziv x4, .null, .null] [] _
  obtain ⟨t, ht⟩ : ∃ t : Nat, h 64 17 = (t : Int) := ⟨(h 64 17).toNat, by omega⟩
  refine zV_aload_nr dX6_feed_0 rfl rfl ?_
  refine zV_iconst dX6_feed_1 ?_
  refine pf6_157 rfl (rfl) dX6_feed_2 ?_
  refine zV_aload_nr dX6_feed_5 rfl rfl ?_
  refine gf6_168 rfl rfl dX6_feed_6 ?_
  refine zV_teq (w := ziv (t : Int)) (congrArg ziv ht.symm) ?_
  refine zV_bipush dX6_feed_9 (by decide) ?_
  refine zV_iadd dX6_feed_11 ?_
  refine zV_sipush dX6_feed_12 (by decide) ?_
  refine zR_icmp_le (tgt := 20) dX6_feed_15 (by decide) (by omega) (by omega) (fun h15 => ?_) (fun h15 => ?_)
  · refine zV_iconst dX6_feed_20 ?_
    refine zV_istore dX6_feed_21 (Nat.le_of_ble_eq_true rfl) rfl ?_
    have L23 : ∀ (m : Nat) (s : Nat) (h1 : zH), (21 ≤ s + m) → (s ≤ 20) → ((∀ c2 : Nat, c2 ≠ 64 → c2 ≠ 79 → h1 c2 = h c2) ∧ (∀ j, j ≠ 4 → j ≠ 17 → h1 64 j = h 64 j) ∧ h1 64 4 = 0) → (h1 64 17 = (t : Int) + s) → (∀ i : Nat, i < t → h1 79 i = h 79 i) → (∀ i : Nat, i < s → h1 79 (t + i) = zand (zshr (if i < 4 then x0 else if i < 8 then x1 else if i < 12 then x2 else if i < 16 then x3 else x4) (24 - 8 * ((i % 4 : Nat) : Int))) 255) → zV (E, mX6_feed, 12, 4, (fun r h' => if h 64 17 + 20 ≤ 700 then r = some (ziv (h 64 17 + 20)) ∧ (∀ c2 : Nat, c2 ≠ 64 → c2 ≠ 79 → h' c2 = h c2) ∧ (∀ j, j ≠ 4 → j ≠ 17 → h' 64 j = h 64 j) ∧ h' 64 4 = 0 ∧ h' 64 17 = h 64 17 + 20 ∧ (∀ i : Nat, (i : Int) < h 64 17 → h' 79 i = h 79 i) ∧ ∀ i : Nat, i < 20 → h' 79 ((h 64 17).toNat + i) = zand (zshr (if i < 4 then x0 else if i < 8 then x1 else if i < 12 then x2 else if i < 16 then x3 else x4) (24 - 8 * ((i % 4 : Nat) : Int))) 255 else r = some (ziv (-1)) ∧ h' = zup h 64 4 0), (fun _ _ => False), a) 0 23 [zrv E 64, ziv x0, ziv x1, ziv x2, ziv x3, ziv x4, ziv (s : Int), .null] [] h1 := by
      intro m
      induction m with
      | zero => intro s h1 hm_ hs fr h17 hol hnw; exfalso; omega
      | succ m ih =>
        intro s h1 hm_ hs fr h17 hol hnw
        refine zV_iload dX6_feed_23 rfl ?_
        refine zV_bipush dX6_feed_25 (by decide) ?_
        refine zR_icmp_ge (tgt := 120) dX6_feed_27 (by decide) (by omega) (by omega) (fun h27 => ?_) (fun h27 => ?_)
        · refine zV_aload_nr dX6_feed_120 rfl rfl ?_
          refine gf6_168 rfl rfl dX6_feed_121 ?_
          refine zV_teq (w := ziv (h 64 17 + 20)) (congrArg ziv (by rw [h17, ht]; omega)) ?_
          exact zV_ireturn dX6_feed_124 rfl (Nat.zero_le _) (iteT (by omega) ⟨rfl, fr.1, fr.2.1, fr.2.2, by rw [h17, ht]; omega, fun i hi => hol i (by omega), fun i hi => by rw [show (h 64 17).toNat = t by omega]; exact hnw i (by omega)⟩)
        · refine zV_iload dX6_feed_30 rfl ?_
          refine zV_iconst dX6_feed_32 ?_
          have J76 : ∀ (w : Int), (w = (if s < 4 then x0 else if s < 8 then x1 else if s < 12 then x2 else if s < 16 then x3 else x4)) → zV (E, mX6_feed, 12, 4, (fun r h' => if h 64 17 + 20 ≤ 700 then r = some (ziv (h 64 17 + 20)) ∧ (∀ c2 : Nat, c2 ≠ 64 → c2 ≠ 79 → h' c2 = h c2) ∧ (∀ j, j ≠ 4 → j ≠ 17 → h' 64 j = h 64 j) ∧ h' 64 4 = 0 ∧ h' 64 17 = h 64 17 + 20 ∧ (∀ i : Nat, (i : Int) < h 64 17 → h' 79 i = h 79 i) ∧ ∀ i : Nat, i < 20 → h' 79 ((h 64 17).toNat + i) = zand (zshr (if i < 4 then x0 else if i < 8 then x1 else if i < 12 then x2 else if i < 16 then x3 else x4) (24 - 8 * ((i % 4 : Nat) : Int))) 255 else r = some (ziv (-1)) ∧ h' = zup h 64 4 0), (fun _ _ => False), a) 0 76 [zrv E 64, ziv x0, ziv x1, ziv x2, ziv x3, ziv x4, ziv (s : Int), .null] [ziv w] h1 := by
            intro w hw
            refine zV_istore dX6_feed_76 (Nat.le_of_ble_eq_true rfl) rfl ?_
            refine zV_aload_nr dX6_feed_78 rfl rfl ?_
            refine gf6_75 rfl (rfl) dX6_feed_79 ?_
            refine zV_teq (w := zrv E 79) rfl ?_
            refine zV_aload_nr dX6_feed_82 rfl rfl ?_
            refine gf6_168 rfl rfl dX6_feed_83 ?_
            refine zV_teq (w := ziv ((t + s : Nat) : Int)) (congrArg ziv (by rw [h17]; omega)) ?_
            refine zV_iload dX6_feed_86 rfl ?_
            refine zV_bipush dX6_feed_88 (by decide) ?_
            refine zV_bipush dX6_feed_90 (by decide) ?_
            refine zV_iload dX6_feed_92 rfl ?_
            refine zV_iconst dX6_feed_94 ?_
            refine zV_irem dX6_feed_95 (by decide) ?_
            refine zV_teq (w := ziv ((s % 4 : Nat) : Int)) (congrArg ziv (by rw [zrem_eq (by omega) (by decide), Int.tmod_eq_emod_of_nonneg (by omega)]; omega)) ?_
            refine zV_imul dX6_feed_96 ?_
            refine zV_isub dX6_feed_97 ?_
            refine zV_ishr dX6_feed_98 ?_
            refine zV_sipush dX6_feed_99 (by decide) ?_
            refine zV_iand dX6_feed_102 ?_
            refine zV_iastoreN (i := (t + s)) (N := 700) (rfl) (by omega) (by decide) dX6_feed_103 ?_
            refine zV_aload_nr dX6_feed_104 rfl rfl ?_
            refine zV_dup dX6_feed_105 rfl ?_
            refine gf6_168 rfl rfl dX6_feed_106 ?_
            refine zV_teq (w := ziv ((t : Int) + s)) (congrArg ziv (by rw [zup_fn (by decide)]; exact h17.symm)) ?_
            refine zV_iconst dX6_feed_109 ?_
            refine zV_iadd dX6_feed_110 ?_
            refine pf6_168 rfl (rfl) dX6_feed_111 ?_
            refine zV_iinc dX6_feed_114 rfl (Nat.le_of_ble_eq_true rfl) rfl ?_
            refine zV_goto (tgt := 23) dX6_feed_117 (by decide) ?_
            refine zV_drop 7 ?_
            refine ih (s + 1) _ (by omega) (by omega) ⟨fun c2 a b => by rw [zup_fn a, zup_fn b]; exact fr.1 c2 a b, fun j a b => by rw [zup_at, if_neg b, zup_fn (by decide)]; exact fr.2.1 j a b, by rw [zup_at, if_neg (by decide), zup_fn (by decide)]; exact fr.2.2⟩ (by rw [zup_at, if_pos rfl]; omega) (fun i hi => by rw [zup_fn (by decide), zup_at, if_neg (by omega)]; exact hol i hi) (fun i hi => ?_)
            rw [zup_fn (by decide), zup_at]
            by_cases e : i = s
            · rw [if_pos (by omega), e, hw]
            · rw [if_neg (by omega)]; exact hnw i (by omega)
          refine zR_icmp_ge (tgt := 40) dX6_feed_33 (by decide) (by omega) (by omega) (fun h33 => ?_) (fun h33 => ?_)
          · refine zV_iload dX6_feed_40 rfl ?_
            refine zV_bipush dX6_feed_42 (by decide) ?_
            refine zR_icmp_ge (tgt := 51) dX6_feed_44 (by decide) (by omega) (by omega) (fun h44 => ?_) (fun h44 => ?_)
            · refine zV_iload dX6_feed_51 rfl ?_
              refine zV_bipush dX6_feed_53 (by decide) ?_
              refine zR_icmp_ge (tgt := 62) dX6_feed_55 (by decide) (by omega) (by omega) (fun h55 => ?_) (fun h55 => ?_)
              · refine zV_iload dX6_feed_62 rfl ?_
                refine zV_bipush dX6_feed_64 (by decide) ?_
                refine zR_icmp_ge (tgt := 74) dX6_feed_66 (by decide) (by omega) (by omega) (fun h66 => ?_) (fun h66 => ?_)
                · refine zV_iload dX6_feed_74 rfl ?_
                  exact J76 x4 (by rw [if_neg (by omega), if_neg (by omega), if_neg (by omega), if_neg (by omega)])
                · refine zV_iload dX6_feed_69 rfl ?_
                  refine zV_goto (tgt := 76) dX6_feed_71 (by decide) ?_
                  exact J76 x3 (by rw [if_neg (by omega), if_neg (by omega), if_neg (by omega), if_pos (by omega)])
              · refine zV_iload_n dX6_feed_58 rfl rfl ?_
                refine zV_goto (tgt := 76) dX6_feed_59 (by decide) ?_
                exact J76 x2 (by rw [if_neg (by omega), if_neg (by omega), if_pos (by omega)])
            · refine zV_iload_n dX6_feed_47 rfl rfl ?_
              refine zV_goto (tgt := 76) dX6_feed_48 (by decide) ?_
              exact J76 x1 (by rw [if_neg (by omega), if_pos (by omega)])
          · refine zV_iload_n dX6_feed_36 rfl rfl ?_
            refine zV_goto (tgt := 76) dX6_feed_37 (by decide) ?_
            exact J76 x0 (by rw [if_pos (by omega)])
    exact L23 21 0 _ (by omega) (by omega) ⟨fun c2 a _ => zup_fn a, fun j a _ => by rw [zup_at, if_neg a], by rw [zup_at, if_pos rfl]⟩ (by rw [zup_at, if_neg (by decide), ht]; omega) (fun i _ => by rw [zup_fn (by decide)]) (fun i hi => absurd hi (Nat.not_lt_zero i))
  · refine zV_iconst dX6_feed_18 ?_
    exact zV_ireturn dX6_feed_19 rfl (Nat.zero_le _) (iteF (by omega) ⟨rfl, rfl⟩)
