/-! THE ACTS -/
theorem kept1_fr {h h' : zH} (hk : kept1 h h') : ∀ c2 : Nat, c2 ≠ 31 → c2 ≠ 38 → h' c2 = h c2 := fun c2 a b => by
  obtain ⟨f, old, ac, -, -, -, h3, -⟩ := hk
  have := h3.1 c2 b
  rwa [zst_ne a] at this
theorem inv_fr {h h2 : zH} {t n jn : Nat} (hi : tInv h t n jn) (e : ∀ c2 : Nat, c2 < 37 → c2 ≠ 31 → h2 c2 = h c2) : tInv h2 t n jn ∧ gOf h2 32 t = gOf h 32 t ∧ h2 32 = h 32 ∧ h2 33 = h 33 := by
  obtain ⟨i0, i1, i2, i3, i4⟩ := hi
  have ht9 : t = 2 ∨ t = 16 := i1.1
  have ct : ∀ o, o ≤ 11 → h2 (t + o) = h (t + o) := fun o ho => e _ (by omega) (by omega)
  obtain ⟨c1, c2, c3, c4, c5, c6, c7⟩ := i2
  refine ⟨⟨by rw [e 0 (by omega) (by omega)]; exact i0, courtOK_congr ct i1, ⟨c1, by rw [e (32 + 1) (by omega) (by omega)]; exact c2, by rw [e (32 + 2) (by omega) (by omega)]; exact c3, by rw [e (32 + 3) (by omega) (by omega)]; exact c4, by rw [e (32 + 4) (by omega) (by omega)]; exact c5, by rw [e 32 (by omega) (by omega)]; exact c6, by rw [e 32 (by omega) (by omega)]; exact c7⟩, fun j j1 j2 => by rw [e 28 (by omega) (by omega)]; exact i3 j j1 j2, by rw [e 32 (by omega) (by omega)]; exact i4⟩, ?_, e 32 (by omega) (by omega), e 33 (by omega) (by omega)⟩
  unfold gOf
  rw [e (32 + 4) (by omega) (by omega), e (32 + 3) (by omega) (by omega), e (32 + 2) (by omega) (by omega), e 32 (by omega) (by omega), ct 2 (by omega), ct 6 (by omega), ct 10 (by omega), ruleV_congr (ct 7 (by omega)) (ct 8 (by omega)) (ct 9 (by omega)), ruleV_congr (ct 7 (by omega)) (ct 8 (by omega)) (ct 9 (by omega))]
def dkOK (h : zH) (old ac rn : Nat) : Prop := h 31 2 = (old : Int) ∧ old < 40 ∧ h 31 3 = (ac : Int) ∧ ac ≤ 40 ∧ h 31 6 = (rn : Int) ∧ rn ≤ 8

set_option maxRecDepth 100000 in
theorem c5_cases {E : zE} {h : zH} {t n jn : Nat} {y : Int} (hy : -2147483648 ≤ y ∧ y ≤ 2147483647) {old ac rn : Nat} (hdk : dkOK h old ac rn) (hi : tInv h t n jn) : zCal E mX5_cases 12 4 [zrv E 0, ziv y] h (fun r h' => if (1 ≤ y ∧ y ≤ 20) ∧ h 32 6 + y ≤ 999 then r = some (ziv (h 32 6 + y)) ∧ ∃ h1, kept1 h h1 ∧ ran h1 32 t n jn y.toNat h' else r = some (ziv (-1)) ∧ h' = zup h 41 1 (h 41 1 + 1)) (fun _ _ => False) := by
  refine zCal_of (by decide) (Nat.le_of_ble_eq_true rfl) (fun a => ?_)
  show zV _ 0 0 [zrv E 0, ziv y, .null] [] _
  have ht := hi.2.1.1
  have k0 := hi.1
  have hnum := hi.2.2.2.2
  have hn8 := hi.2.1.2.1
  have hjn8 := hi.2.1.2.2.1
  have hn0 := hi.2.2.1.2.2.2.2.2.2
  refine zV_iload_n dX5_cases_0 rfl rfl ?_
  refine zV_iconst dX5_cases_1 ?_
  refine zR_icmp_lt (tgt := 29) dX5_cases_2 (by decide) (by omega) (by omega) (fun h2 => ?_) (fun h2 => ?_)
  · refine zV_aload_nr dX5_cases_29 rfl rfl ?_
    refine gf5_41 rfl (rfl) dX5_cases_30 ?_
    refine zV_teq (w := zrv E 31) rfl ?_
    refine gf5_91 rfl (rfl) dX5_cases_33 ?_
    refine zV_teq (w := zrv E 41) rfl ?_
    refine zV_iconst dX5_cases_36 ?_
    refine zV_dup2 dX5_cases_37 rfl rfl ?_
    refine zV_iaload (N := 3) (rfl) (by decide) (by decide) dX5_cases_38 ?_
    refine zV_iconst dX5_cases_39 ?_
    refine zV_iadd dX5_cases_40 ?_
    refine zV_iastore (N := 3) (rfl) (by decide) (by decide) dX5_cases_41 ?_
    refine zV_iconst dX5_cases_42 ?_
    exact zV_ireturn dX5_cases_43 rfl (Nat.le_of_ble_eq_true rfl) (by show ite _ _ _; rw [if_neg (by omega)]; exact ⟨rfl, rfl⟩)
  · refine zV_iload_n dX5_cases_5 rfl rfl ?_
    refine zV_bipush dX5_cases_6 (by decide) ?_
    refine zR_icmp_gt (tgt := 29) dX5_cases_8 (by decide) (by omega) (by omega) (fun h8 => ?_) (fun h8 => ?_)
    · refine zV_aload_nr dX5_cases_29 rfl rfl ?_
      refine gf5_41 rfl (rfl) dX5_cases_30 ?_
      refine zV_teq (w := zrv E 31) rfl ?_
      refine gf5_91 rfl (rfl) dX5_cases_33 ?_
      refine zV_teq (w := zrv E 41) rfl ?_
      refine zV_iconst dX5_cases_36 ?_
      refine zV_dup2 dX5_cases_37 rfl rfl ?_
      refine zV_iaload (N := 3) (rfl) (by decide) (by decide) dX5_cases_38 ?_
      refine zV_iconst dX5_cases_39 ?_
      refine zV_iadd dX5_cases_40 ?_
      refine zV_iastore (N := 3) (rfl) (by decide) (by decide) dX5_cases_41 ?_
      refine zV_iconst dX5_cases_42 ?_
      exact zV_ireturn dX5_cases_43 rfl (Nat.le_of_ble_eq_true rfl) (by show ite _ _ _; rw [if_neg (by omega)]; exact ⟨rfl, rfl⟩)
    · refine zV_aload_nr dX5_cases_11 rfl rfl ?_
      refine gf5_41 rfl (rfl) dX5_cases_12 ?_
      refine zV_teq (w := zrv E 31) rfl ?_
      refine gf5_112 rfl (rfl) dX5_cases_15 ?_
      refine zV_teq (w := zrv E 32) rfl ?_
      refine gf5_115 rfl rfl dX5_cases_18 ?_
      refine zV_iload_n dX5_cases_21 rfl rfl ?_
      refine zV_iadd dX5_cases_22 ?_
      refine zV_sipush dX5_cases_23 (by decide) ?_
      refine zR_icmp_le (tgt := 44) dX5_cases_26 (by decide) (by omega) (by omega) (fun h26 => ?_) (fun h26 => ?_)
      · refine zV_aload_nr dX5_cases_44 rfl rfl ?_
        refine gf5_41 rfl (rfl) dX5_cases_45 ?_
        refine zV_teq (w := zrv E 31) rfl ?_
        refine zV_callV (As := []) lk5_231 (rfl) rfl rfl (c3_keepAct 11 0 (by decide) hdk.1 hdk.2.1 hdk.2.2.1 hdk.2.2.2.1) ⟨by show _ + 1 ≤ 12; omega, by show _ ≤ 4; omega⟩ rfl (Nat.le_of_ble_eq_true rfl) dX5_cases_48 (fun _ _ z => z.elim) (fun r h1 q => ?_)
        obtain ⟨rfl, hk⟩ := q
        have fr := kept1_fr hk
        obtain ⟨hi1, g1, g2, g3⟩ := inv_fr hi (fun c2 _ a => fr c2 a (by omega))
        obtain ⟨kk, hkk⟩ : ∃ z : Nat, y = (z : Int) := ⟨y.toNat, by omega⟩
        refine zV_iconst dX5_cases_51 ?_
        refine zV_istore_n dX5_cases_52 rfl (Nat.le_of_ble_eq_true rfl) rfl ?_
        have L53 : ∀ (m : Nat) (s : Nat) (h2 : zH), (kk + 1 ≤ s + m) → (s ≤ kk) → (ran h1 32 t n jn s h2) → zV (E, mX5_cases, 12, 4, (fun r h' => if (1 ≤ y ∧ y ≤ 20) ∧ h 32 6 + y ≤ 999 then r = some (ziv (h 32 6 + y)) ∧ ∃ h1, kept1 h h1 ∧ ran h1 32 t n jn y.toNat h' else r = some (ziv (-1)) ∧ h' = zup h 41 1 (h 41 1 + 1)), (fun _ _ => False), a) 0 53 [zrv E 0, ziv y, ziv (s : Int)] [] h2 := by
          intro m
          induction m with
          | zero => intro s h2 hm_ hsn hr; exfalso; omega
          | succ m ih =>
            intro s h2 hm_ hsn hr
            have ok := ran_ok hi1.2.1 hi1.2.2.1 (by have := hi1.2.2.2.2; omega) hr
            have k0 : h2 0 3 = (t : Int) := by rw [hr.1 0 (by decide) (by decide) (by decide) (by decide) (by decide) (by decide)]; exact hi1.1
            refine zV_iload_n dX5_cases_53 rfl rfl ?_
            refine zV_iload_n dX5_cases_54 rfl rfl ?_
            refine zR_icmp_ge (tgt := 82) dX5_cases_55 (by decide) (by omega) (by omega) (fun h55 => ?_) (fun h55 => ?_)
            · refine zV_aload_nr dX5_cases_82 rfl rfl ?_
              refine gf5_41 rfl (rfl) dX5_cases_83 ?_
              refine zV_teq (w := zrv E 31) rfl ?_
              refine gf5_112 rfl (rfl) dX5_cases_86 ?_
              refine zV_teq (w := zrv E 32) rfl ?_
              refine gf5_115 rfl rfl dX5_cases_89 ?_
              exact zV_ireturn dX5_cases_92 rfl (Nat.le_of_ble_eq_true rfl) (by show ite _ _ _; rw [if_pos (by omega)]; exact ⟨by rw [hr.2.2.2.2.2.2.1, g2, show (s : Int) = y by omega], h1, hk, by rw [show y.toNat = s by omega]; exact hr⟩)
            · refine zV_aload_nr dX5_cases_58 rfl rfl ?_
              refine gf5_41 rfl (rfl) dX5_cases_59 ?_
              refine zV_teq (w := zrv E 31) rfl ?_
              refine gf5_112 rfl (rfl) dX5_cases_62 ?_
              refine zV_teq (w := zrv E 32) rfl ?_
              refine zV_aload_nr dX5_cases_65 rfl rfl ?_
              refine gf5_20 (t := t) (k0) rfl (rfl) dX5_cases_66 ?_
              refine zV_aload_nr dX5_cases_69 rfl rfl ?_
              refine gf5_34 rfl (rfl) dX5_cases_70 ?_
              refine zV_teq (w := zrv E 28) rfl ?_
              refine zV_callV (As := [zrv E t, zrv E 28]) lk5_234 (rfl) rfl rfl (c2_hear 11 0 (by decide) ok.1 ok.2.1 ok.2.2) ⟨by show _ + 1 ≤ 12; omega, by show _ ≤ 4; omega⟩ rfl (Nat.le_of_ble_eq_true rfl) dX5_cases_73 (fun _ _ z => z.elim) (fun r h' q => ?_)
              obtain ⟨rfl, q⟩ := q
              refine zV_iinc dX5_cases_76 rfl (Nat.le_of_ble_eq_true rfl) rfl ?_
              refine zV_goto (tgt := 53) dX5_cases_79 (by decide) ?_
              exact ih (s + 1) _ (by omega) (by omega) (ran_s (Or.inl rfl) ht hr q)
        exact L53 (kk + 1) 0 _ (by omega) (by omega) (ran_0 hi1.2.2.2.1)
      · refine zV_aload_nr dX5_cases_29 rfl rfl ?_
        refine gf5_41 rfl (rfl) dX5_cases_30 ?_
        refine zV_teq (w := zrv E 31) rfl ?_
        refine gf5_91 rfl (rfl) dX5_cases_33 ?_
        refine zV_teq (w := zrv E 41) rfl ?_
        refine zV_iconst dX5_cases_36 ?_
        refine zV_dup2 dX5_cases_37 rfl rfl ?_
        refine zV_iaload (N := 3) (rfl) (by decide) (by decide) dX5_cases_38 ?_
        refine zV_iconst dX5_cases_39 ?_
        refine zV_iadd dX5_cases_40 ?_
        refine zV_iastore (N := 3) (rfl) (by decide) (by decide) dX5_cases_41 ?_
        refine zV_iconst dX5_cases_42 ?_
        exact zV_ireturn dX5_cases_43 rfl (Nat.le_of_ble_eq_true rfl) (by show ite _ _ _; rw [if_neg (by omega)]; exact ⟨rfl, rfl⟩)
set_option maxRecDepth 100000 in
theorem c5_change {E : zE} {h : zH} {t n jn : Nat} {x y : Int} (hx : -2147483648 ≤ x ∧ x ≤ 2147483647) (hy : -2147483648 ≤ y ∧ y ≤ 2147483647) {old ac rn : Nat} (hdk : dkOK h old ac rn) (hi : tInv h t n jn) : zCal E mX5_change 12 4 [zrv E 0, ziv x, ziv y] h (fun r h' => ((0 ≤ x ∧ x < jn) ∧ (0 ≤ y ∧ y < jn)) ∧ if x = y then r = some (ziv 0) ∧ h' = zup h 41 1 (h 41 1 + 1) else r = some (ziv 1) ∧ ∃ h1, kept1 h h1 ∧ h' = zst h1 36 (swapP (h 36) x y jn)) (fun e h' => h' = h ∧ e = NSE ∧ ¬ ((0 ≤ x ∧ x < jn) ∧ (0 ≤ y ∧ y < jn))) := by
  refine zCal_of (by decide) (Nat.le_of_ble_eq_true rfl) (fun a => ?_)
  show zV _ 0 0 [zrv E 0, ziv x, ziv y] [] _
  have ht := hi.2.1.1
  have k0 := hi.1
  have hnum := hi.2.2.2.2
  have hn8 := hi.2.1.2.1
  have hjn8 := hi.2.1.2.2.1
  refine zV_aload_nr dX5_change_0 rfl rfl ?_
  refine zV_iload_n dX5_change_1 rfl rfl ?_
  refine zV_callV (As := [ziv x]) lk5_167 (rfl) rfl rfl (c5_needJudge ht k0 hi.2.1.2.2.2.2.1 hi.2.1.2.2.1 (by omega)) ⟨Nat.le_of_ble_eq_true rfl, Nat.le_of_ble_eq_true rfl⟩ rfl (Nat.le_of_ble_eq_true rfl) dX5_change_2 (fun e h2 z => ⟨z.2.1, z.1, fun w => z.2.2 w.1⟩) (fun r h' q => ?_)
  obtain ⟨rfl, hh, cj⟩ := q
  rw [hh]
  refine zV_aload_nr dX5_change_5 rfl rfl ?_
  refine zV_iload_n dX5_change_6 rfl rfl ?_
  refine zV_callV (As := [ziv y]) lk5_167 (rfl) rfl rfl (c5_needJudge ht k0 hi.2.1.2.2.2.2.1 hi.2.1.2.2.1 (by omega)) ⟨Nat.le_of_ble_eq_true rfl, Nat.le_of_ble_eq_true rfl⟩ rfl (Nat.le_of_ble_eq_true rfl) dX5_change_7 (fun e h2 z => ⟨z.2.1, z.1, fun w => z.2.2 w.2⟩) (fun r h' q => ?_)
  obtain ⟨rfl, hh, cj2⟩ := q
  rw [hh]
  refine zV_iload_n dX5_change_10 rfl rfl ?_
  refine zV_iload_n dX5_change_11 rfl rfl ?_
  refine zR_icmp_ne (tgt := 30) dX5_change_12 (by decide) (by omega) (by omega) (fun h12 => ?_) (fun h12 => ?_)
  · refine zV_aload_nr dX5_change_30 rfl rfl ?_
    refine gf5_41 rfl (rfl) dX5_change_31 ?_
    refine zV_teq (w := zrv E 31) rfl ?_
    refine zV_callV (As := []) lk5_231 (rfl) rfl rfl (c3_keepAct 11 0 (by decide) hdk.1 hdk.2.1 hdk.2.2.1 hdk.2.2.2.1) ⟨by show _ + 1 ≤ 12; omega, by show _ ≤ 4; omega⟩ rfl (Nat.le_of_ble_eq_true rfl) dX5_change_34 (fun _ _ z => z.elim) (fun r h1 q => ?_)
    obtain ⟨rfl, hk⟩ := q
    have fr := kept1_fr hk
    obtain ⟨hi1, g1, g2, g3⟩ := inv_fr hi (fun c2 _ a => fr c2 a (by omega))
    have k0 : h1 0 3 = (t : Int) := hi1.1
    refine zV_aload_nr dX5_change_37 rfl rfl ?_
    refine gf5_41 rfl (rfl) dX5_change_38 ?_
    refine zV_teq (w := zrv E 31) rfl ?_
    refine gf5_112 rfl (rfl) dX5_change_41 ?_
    refine zV_teq (w := zrv E 32) rfl ?_
    refine zV_iload_n dX5_change_44 rfl rfl ?_
    refine zV_iload_n dX5_change_45 rfl rfl ?_
    refine zV_aload_nr dX5_change_46 rfl rfl ?_
    refine gf5_20 (t := t) (k0) rfl (rfl) dX5_change_47 ?_
    refine gf5_109 rfl (court_0 ht) dX5_change_50 ?_
    rw [hi1.2.1.2.2.2.2.1]
    refine zV_callV (As := [ziv x, ziv y, ziv (jn : Int)]) lk5_238 (rfl) rfl rfl (c2_swap 11 0 (by decide) (Or.inl rfl) (by omega) (by omega) hjn8 (fun i hi9 => by have := hi1.2.2.1.2.2.2.2.1 i hi9; omega)) ⟨by show _ + 1 ≤ 12; omega, by show _ ≤ 4; omega⟩ rfl (Nat.le_of_ble_eq_true rfl) dX5_change_53 (fun _ _ z => z.elim) (fun r h' q => ?_)
    obtain ⟨rfl, hh⟩ := q
    refine zV_iconst dX5_change_56 ?_
    exact zV_zreturn dX5_change_57 rfl (by simp) (Nat.le_of_ble_eq_true rfl) ⟨⟨cj, cj2⟩, by rw [if_neg h12]; exact ⟨rfl, h1, hk, by rw [hh, show h1 (32 + 4) = h 36 from fr 36 (by decide) (by decide)]⟩⟩
  · refine zV_aload_nr dX5_change_15 rfl rfl ?_
    refine gf5_41 rfl (rfl) dX5_change_16 ?_
    refine zV_teq (w := zrv E 31) rfl ?_
    refine gf5_91 rfl (rfl) dX5_change_19 ?_
    refine zV_teq (w := zrv E 41) rfl ?_
    refine zV_iconst dX5_change_22 ?_
    refine zV_dup2 dX5_change_23 rfl rfl ?_
    refine zV_iaload (N := 3) (rfl) (by decide) (by decide) dX5_change_24 ?_
    refine zV_iconst dX5_change_25 ?_
    refine zV_iadd dX5_change_26 ?_
    refine zV_iastore (N := 3) (rfl) (by decide) (by decide) dX5_change_27 ?_
    refine zV_iconst dX5_change_28 ?_
    exact zV_zreturn dX5_change_29 rfl (by simp) (Nat.le_of_ble_eq_true rfl) ⟨⟨cj, cj2⟩, by rw [if_pos h12]; exact ⟨rfl, rfl⟩⟩
set_option maxRecDepth 100000 in
theorem c5_hand {E : zE} {h : zH} {t n jn : Nat} {x y : Int} (hx : -2147483648 ≤ x ∧ x ≤ 2147483647) (hy : -2147483648 ≤ y ∧ y ≤ 2147483647) {old ac rn : Nat} (hdk : dkOK h old ac rn) (hi : tInv h t n jn) : zCal E mX5_hand 12 4 [zrv E 0, ziv x, ziv y] h (fun r h' => (0 ≤ x ∧ x < jn) ∧ if 0 ≤ y ∧ y ≤ 12 then r = some (ziv (h 35 x.toNat)) ∧ ∃ h1, kept1 h h1 ∧ h' = zup h1 35 x.toNat y else r = some (ziv (-1)) ∧ h' = zup h 41 1 (h 41 1 + 1)) (fun e h' => h' = h ∧ e = NSE ∧ ¬ (0 ≤ x ∧ x < jn)) := by
  refine zCal_of (by decide) (Nat.le_of_ble_eq_true rfl) (fun a => ?_)
  show zV _ 0 0 [zrv E 0, ziv x, ziv y, .null] [] _
  have ht := hi.2.1.1
  have k0 := hi.1
  have hnum := hi.2.2.2.2
  have hn8 := hi.2.1.2.1
  have hjn8 := hi.2.1.2.2.1
  refine zV_aload_nr dX5_hand_0 rfl rfl ?_
  refine zV_iload_n dX5_hand_1 rfl rfl ?_
  refine zV_callV (As := [ziv x]) lk5_167 (rfl) rfl rfl (c5_needJudge ht k0 hi.2.1.2.2.2.2.1 hi.2.1.2.2.1 (by omega)) ⟨Nat.le_of_ble_eq_true rfl, Nat.le_of_ble_eq_true rfl⟩ rfl (Nat.le_of_ble_eq_true rfl) dX5_hand_2 (fun e h2 z => ⟨z.2.1, z.1, z.2.2⟩) (fun r h' q => ?_)
  obtain ⟨rfl, hh, cj⟩ := q
  rw [hh]
  refine zV_iload_n dX5_hand_5 rfl rfl ?_
  refine zR_if_lt (tgt := 15) dX5_hand_6 (by decide) (by omega) (fun h6 => ?_) (fun h6 => ?_)
  · refine zV_aload_nr dX5_hand_15 rfl rfl ?_
    refine gf5_41 rfl (rfl) dX5_hand_16 ?_
    refine zV_teq (w := zrv E 31) rfl ?_
    refine gf5_91 rfl (rfl) dX5_hand_19 ?_
    refine zV_teq (w := zrv E 41) rfl ?_
    refine zV_iconst dX5_hand_22 ?_
    refine zV_dup2 dX5_hand_23 rfl rfl ?_
    refine zV_iaload (N := 3) (rfl) (by decide) (by decide) dX5_hand_24 ?_
    refine zV_iconst dX5_hand_25 ?_
    refine zV_iadd dX5_hand_26 ?_
    refine zV_iastore (N := 3) (rfl) (by decide) (by decide) dX5_hand_27 ?_
    refine zV_iconst dX5_hand_28 ?_
    exact zV_ireturn dX5_hand_29 rfl (Nat.le_of_ble_eq_true rfl) ⟨cj, by rw [if_neg (by omega)]; exact ⟨rfl, rfl⟩⟩
  · refine zV_iload_n dX5_hand_9 rfl rfl ?_
    refine zV_bipush dX5_hand_10 (by decide) ?_
    refine zR_icmp_le (tgt := 30) dX5_hand_12 (by decide) (by omega) (by omega) (fun h12 => ?_) (fun h12 => ?_)
    · refine zV_aload_nr dX5_hand_30 rfl rfl ?_
      refine gf5_41 rfl (rfl) dX5_hand_31 ?_
      refine zV_teq (w := zrv E 31) rfl ?_
      refine zV_callV (As := []) lk5_231 (rfl) rfl rfl (c3_keepAct 11 0 (by decide) hdk.1 hdk.2.1 hdk.2.2.1 hdk.2.2.2.1) ⟨by show _ + 1 ≤ 12; omega, by show _ ≤ 4; omega⟩ rfl (Nat.le_of_ble_eq_true rfl) dX5_hand_34 (fun _ _ z => z.elim) (fun r h1 q => ?_)
      obtain ⟨rfl, hk⟩ := q
      have fr := kept1_fr hk
      obtain ⟨hi1, g1, g2, g3⟩ := inv_fr hi (fun c2 _ a => fr c2 a (by omega))
      refine zV_aload_nr dX5_hand_37 rfl rfl ?_
      refine gf5_41 rfl (rfl) dX5_hand_38 ?_
      refine zV_teq (w := zrv E 31) rfl ?_
      refine gf5_112 rfl (rfl) dX5_hand_41 ?_
      refine zV_teq (w := zrv E 32) rfl ?_
      refine gf5_173 rfl (rfl) dX5_hand_44 ?_
      refine zV_teq (w := zrv E 35) rfl ?_
      refine zV_iload_n dX5_hand_47 rfl rfl ?_
      refine zV_iaload (N := 8) (rfl) (by omega) (by decide) dX5_hand_48 ?_
      refine zV_istore_n dX5_hand_49 rfl (Nat.le_of_ble_eq_true rfl) rfl ?_
      refine zV_aload_nr dX5_hand_50 rfl rfl ?_
      refine gf5_41 rfl (rfl) dX5_hand_51 ?_
      refine zV_teq (w := zrv E 31) rfl ?_
      refine gf5_112 rfl (rfl) dX5_hand_54 ?_
      refine zV_teq (w := zrv E 32) rfl ?_
      refine gf5_173 rfl (rfl) dX5_hand_57 ?_
      refine zV_teq (w := zrv E 35) rfl ?_
      refine zV_iload_n dX5_hand_60 rfl rfl ?_
      refine zV_iload_n dX5_hand_61 rfl rfl ?_
      refine zV_iastore (N := 8) (rfl) (by omega) (by decide) dX5_hand_62 ?_
      refine zV_iload_n dX5_hand_63 rfl rfl ?_
      exact zV_ireturn dX5_hand_64 rfl (Nat.le_of_ble_eq_true rfl) ⟨cj, by rw [if_pos (by omega)]; exact ⟨by rw [fr 35 (by decide) (by decide)], h1, hk, rfl⟩⟩
    · refine zV_aload_nr dX5_hand_15 rfl rfl ?_
      refine gf5_41 rfl (rfl) dX5_hand_16 ?_
      refine zV_teq (w := zrv E 31) rfl ?_
      refine gf5_91 rfl (rfl) dX5_hand_19 ?_
      refine zV_teq (w := zrv E 41) rfl ?_
      refine zV_iconst dX5_hand_22 ?_
      refine zV_dup2 dX5_hand_23 rfl rfl ?_
      refine zV_iaload (N := 3) (rfl) (by decide) (by decide) dX5_hand_24 ?_
      refine zV_iconst dX5_hand_25 ?_
      refine zV_iadd dX5_hand_26 ?_
      refine zV_iastore (N := 3) (rfl) (by decide) (by decide) dX5_hand_27 ?_
      refine zV_iconst dX5_hand_28 ?_
      exact zV_ireturn dX5_hand_29 rfl (Nat.le_of_ble_eq_true rfl) ⟨cj, by rw [if_neg (by omega)]; exact ⟨rfl, rfl⟩⟩
set_option maxRecDepth 100000 in
theorem c5_pot {E : zE} {h : zH} {t n jn : Nat} {y : Int} (hy : -2147483648 ≤ y ∧ y ≤ 2147483647) {old ac rn : Nat} (hdk : dkOK h old ac rn) (hi : tInv h t n jn) : zCal E mX5_pot 12 4 [zrv E 0, ziv y] h (fun r h' => if 0 ≤ y ∧ y ≤ 99 then r = some (ziv (h 32 5)) ∧ ∃ h1, kept1 h h1 ∧ h' = zup h1 32 5 y else r = some (ziv (-1)) ∧ h' = zup h 41 1 (h 41 1 + 1)) (fun _ _ => False) := by
  refine zCal_of (by decide) (Nat.le_of_ble_eq_true rfl) (fun a => ?_)
  show zV _ 0 0 [zrv E 0, ziv y, .null] [] _
  have ht := hi.2.1.1
  have k0 := hi.1
  have hnum := hi.2.2.2.2
  have hn8 := hi.2.1.2.1
  have hjn8 := hi.2.1.2.2.1
  refine zV_iload_n dX5_pot_0 rfl rfl ?_
  refine zR_if_lt (tgt := 10) dX5_pot_1 (by decide) (by omega) (fun h1 => ?_) (fun h1 => ?_)
  · refine zV_aload_nr dX5_pot_10 rfl rfl ?_
    refine gf5_41 rfl (rfl) dX5_pot_11 ?_
    refine zV_teq (w := zrv E 31) rfl ?_
    refine gf5_91 rfl (rfl) dX5_pot_14 ?_
    refine zV_teq (w := zrv E 41) rfl ?_
    refine zV_iconst dX5_pot_17 ?_
    refine zV_dup2 dX5_pot_18 rfl rfl ?_
    refine zV_iaload (N := 3) (rfl) (by decide) (by decide) dX5_pot_19 ?_
    refine zV_iconst dX5_pot_20 ?_
    refine zV_iadd dX5_pot_21 ?_
    refine zV_iastore (N := 3) (rfl) (by decide) (by decide) dX5_pot_22 ?_
    refine zV_iconst dX5_pot_23 ?_
    exact zV_ireturn dX5_pot_24 rfl (Nat.le_of_ble_eq_true rfl) (by show ite _ _ _; rw [if_neg (by omega)]; exact ⟨rfl, rfl⟩)
  · refine zV_iload_n dX5_pot_4 rfl rfl ?_
    refine zV_bipush dX5_pot_5 (by decide) ?_
    refine zR_icmp_le (tgt := 25) dX5_pot_7 (by decide) (by omega) (by omega) (fun h7 => ?_) (fun h7 => ?_)
    · refine zV_aload_nr dX5_pot_25 rfl rfl ?_
      refine gf5_41 rfl (rfl) dX5_pot_26 ?_
      refine zV_teq (w := zrv E 31) rfl ?_
      refine zV_callV (As := []) lk5_231 (rfl) rfl rfl (c3_keepAct 11 0 (by decide) hdk.1 hdk.2.1 hdk.2.2.1 hdk.2.2.2.1) ⟨by show _ + 1 ≤ 12; omega, by show _ ≤ 4; omega⟩ rfl (Nat.le_of_ble_eq_true rfl) dX5_pot_29 (fun _ _ z => z.elim) (fun r h1 q => ?_)
      obtain ⟨rfl, hk⟩ := q
      have fr := kept1_fr hk
      obtain ⟨hi1, g1, g2, g3⟩ := inv_fr hi (fun c2 _ a => fr c2 a (by omega))
      refine zV_aload_nr dX5_pot_32 rfl rfl ?_
      refine gf5_41 rfl (rfl) dX5_pot_33 ?_
      refine zV_teq (w := zrv E 31) rfl ?_
      refine gf5_112 rfl (rfl) dX5_pot_36 ?_
      refine zV_teq (w := zrv E 32) rfl ?_
      refine gf5_118 rfl rfl dX5_pot_39 ?_
      refine zV_istore_n dX5_pot_42 rfl (Nat.le_of_ble_eq_true rfl) rfl ?_
      refine zV_aload_nr dX5_pot_43 rfl rfl ?_
      refine gf5_41 rfl (rfl) dX5_pot_44 ?_
      refine zV_teq (w := zrv E 31) rfl ?_
      refine gf5_112 rfl (rfl) dX5_pot_47 ?_
      refine zV_teq (w := zrv E 32) rfl ?_
      refine zV_iload_n dX5_pot_50 rfl rfl ?_
      refine pf5_118 rfl (rfl) dX5_pot_51 ?_
      refine zV_iload_n dX5_pot_54 rfl rfl ?_
      exact zV_ireturn dX5_pot_55 rfl (Nat.le_of_ble_eq_true rfl) (by show ite _ _ _; rw [if_pos (by omega)]; exact ⟨by rw [fr 32 (by decide) (by decide)], h1, hk, rfl⟩)
    · refine zV_aload_nr dX5_pot_10 rfl rfl ?_
      refine gf5_41 rfl (rfl) dX5_pot_11 ?_
      refine zV_teq (w := zrv E 31) rfl ?_
      refine gf5_91 rfl (rfl) dX5_pot_14 ?_
      refine zV_teq (w := zrv E 41) rfl ?_
      refine zV_iconst dX5_pot_17 ?_
      refine zV_dup2 dX5_pot_18 rfl rfl ?_
      refine zV_iaload (N := 3) (rfl) (by decide) (by decide) dX5_pot_19 ?_
      refine zV_iconst dX5_pot_20 ?_
      refine zV_iadd dX5_pot_21 ?_
      refine zV_iastore (N := 3) (rfl) (by decide) (by decide) dX5_pot_22 ?_
      refine zV_iconst dX5_pot_23 ?_
      exact zV_ireturn dX5_pot_24 rfl (Nat.le_of_ble_eq_true rfl) (by show ite _ _ _; rw [if_neg (by omega)]; exact ⟨rfl, rfl⟩)
set_option maxRecDepth 100000 in
theorem c5_put {E : zE} {h : zH} {t n jn : Nat} {x y : Int} (hx : -2147483648 ≤ x ∧ x ≤ 2147483647) (hy : -2147483648 ≤ y ∧ y ≤ 2147483647) {old ac rn : Nat} (hdk : dkOK h old ac rn) (hi : tInv h t n jn) : zCal E mX5_put 12 4 [zrv E 0, ziv x, ziv y] h (fun r h' => ((0 ≤ x ∧ x < n) ∧ (0 ≤ y ∧ y < 12)) ∧ if h 33 x.toNat = y then r = some (ziv (-1)) ∧ h' = zup h 41 1 (h 41 1 + 1) else r = some (ziv (h 33 x.toNat)) ∧ ∃ h1, kept1 h h1 ∧ h' = zup h1 33 x.toNat y) (fun e h' => h' = h ∧ e = NSE ∧ ¬ ((0 ≤ x ∧ x < n) ∧ (0 ≤ y ∧ y < 12))) := by
  refine zCal_of (by decide) (Nat.le_of_ble_eq_true rfl) (fun a => ?_)
  show zV _ 0 0 [zrv E 0, ziv x, ziv y, .null] [] _
  have ht := hi.2.1.1
  have k0 := hi.1
  have hnum := hi.2.2.2.2
  have hn8 := hi.2.1.2.1
  have hjn8 := hi.2.1.2.2.1
  refine zV_aload_nr dX5_put_0 rfl rfl ?_
  refine zV_iload_n dX5_put_1 rfl rfl ?_
  refine zV_callV (As := [ziv x]) lk5_156 (rfl) rfl rfl (c5_needLeaf ht k0 hi.2.1.2.2.2.1 hi.2.1.2.1 (by omega)) ⟨Nat.le_of_ble_eq_true rfl, Nat.le_of_ble_eq_true rfl⟩ rfl (Nat.le_of_ble_eq_true rfl) dX5_put_2 (fun e h2 z => ⟨z.2.1, z.1, fun w => z.2.2 w.1⟩) (fun r h' q => ?_)
  obtain ⟨rfl, hh, cl⟩ := q
  rw [hh]
  refine zV_iload_n dX5_put_5 rfl rfl ?_
  refine zV_callS (As := [ziv y]) lk5_197 (c5_needPlace (by omega)) ⟨Nat.le_of_ble_eq_true rfl, Nat.le_of_ble_eq_true rfl⟩ rfl (Nat.le_of_ble_eq_true rfl) dX5_put_6 (fun e h2 z => ⟨z.2.1, z.1, fun w => z.2.2 w.2⟩) (fun r h' q => ?_)
  obtain ⟨rfl, hh, cp⟩ := q
  rw [hh]
  refine zV_aload_nr dX5_put_9 rfl rfl ?_
  refine gf5_41 rfl (rfl) dX5_put_10 ?_
  refine zV_teq (w := zrv E 31) rfl ?_
  refine gf5_112 rfl (rfl) dX5_put_13 ?_
  refine zV_teq (w := zrv E 32) rfl ?_
  refine gf5_159 rfl (rfl) dX5_put_16 ?_
  refine zV_teq (w := zrv E 33) rfl ?_
  refine zV_iload_n dX5_put_19 rfl rfl ?_
  refine zV_iaload (N := 8) (rfl) (by omega) (by decide) dX5_put_20 ?_
  refine zV_istore_n dX5_put_21 rfl (Nat.le_of_ble_eq_true rfl) rfl ?_
  refine zV_iload_n dX5_put_22 rfl rfl ?_
  refine zV_iload_n dX5_put_23 rfl rfl ?_
  have b1 : 0 ≤ h 33 x.toNat ∧ h 33 x.toNat < 12 := hi.2.2.1.2.1 x.toNat (by omega)
  refine zR_icmp_ne (tgt := 42) dX5_put_24 (by decide) (by omega) (by omega) (fun h24 => ?_) (fun h24 => ?_)
  · refine zV_aload_nr dX5_put_42 rfl rfl ?_
    refine gf5_41 rfl (rfl) dX5_put_43 ?_
    refine zV_teq (w := zrv E 31) rfl ?_
    refine zV_callV (As := []) lk5_231 (rfl) rfl rfl (c3_keepAct 11 0 (by decide) hdk.1 hdk.2.1 hdk.2.2.1 hdk.2.2.2.1) ⟨by show _ + 1 ≤ 12; omega, by show _ ≤ 4; omega⟩ rfl (Nat.le_of_ble_eq_true rfl) dX5_put_46 (fun _ _ z => z.elim) (fun r h1 q => ?_)
    obtain ⟨rfl, hk⟩ := q
    have fr := kept1_fr hk
    obtain ⟨hi1, g1, g2, g3⟩ := inv_fr hi (fun c2 _ a => fr c2 a (by omega))
    refine zV_aload_nr dX5_put_49 rfl rfl ?_
    refine gf5_41 rfl (rfl) dX5_put_50 ?_
    refine zV_teq (w := zrv E 31) rfl ?_
    refine gf5_112 rfl (rfl) dX5_put_53 ?_
    refine zV_teq (w := zrv E 32) rfl ?_
    refine gf5_159 rfl (rfl) dX5_put_56 ?_
    refine zV_teq (w := zrv E 33) rfl ?_
    refine zV_iload_n dX5_put_59 rfl rfl ?_
    refine zV_iload_n dX5_put_60 rfl rfl ?_
    refine zV_iastore (N := 8) (rfl) (by omega) (by decide) dX5_put_61 ?_
    refine zV_iload_n dX5_put_62 rfl rfl ?_
    exact zV_ireturn dX5_put_63 rfl (Nat.le_of_ble_eq_true rfl) ⟨⟨cl, cp⟩, by rw [if_neg h24]; exact ⟨rfl, h1, hk, rfl⟩⟩
  · refine zV_aload_nr dX5_put_27 rfl rfl ?_
    refine gf5_41 rfl (rfl) dX5_put_28 ?_
    refine zV_teq (w := zrv E 31) rfl ?_
    refine gf5_91 rfl (rfl) dX5_put_31 ?_
    refine zV_teq (w := zrv E 41) rfl ?_
    refine zV_iconst dX5_put_34 ?_
    refine zV_dup2 dX5_put_35 rfl rfl ?_
    refine zV_iaload (N := 3) (rfl) (by decide) (by decide) dX5_put_36 ?_
    refine zV_iconst dX5_put_37 ?_
    refine zV_iadd dX5_put_38 ?_
    refine zV_iastore (N := 3) (rfl) (by decide) (by decide) dX5_put_39 ?_
    refine zV_iconst dX5_put_40 ?_
    exact zV_ireturn dX5_put_41 rfl (Nat.le_of_ble_eq_true rfl) ⟨⟨cl, cp⟩, by rw [if_pos h24]; exact ⟨rfl, rfl⟩⟩
set_option maxRecDepth 100000 in
theorem c5_undo {E : zE} {h : zH} {t n jn : Nat} {old ac rn : Nat} (hdk : dkOK h old ac rn) (hi : tInv h t n jn) : zCal E mX5_undo 12 4 [zrv E 0] h (fun r h' => if ac = 0 then r = some (ziv (-1)) ∧ h' = h else r = some (ziv ((ac : Int) - 1)) ∧ undone1 h h') (fun _ _ => False) := by
  refine zCal_of (by decide) (Nat.le_of_ble_eq_true rfl) (fun a => ?_)
  show zV _ 0 0 [zrv E 0] [] _
  have ht := hi.2.1.1
  have k0 := hi.1
  have hnum := hi.2.2.2.2
  have hn8 := hi.2.1.2.1
  have hjn8 := hi.2.1.2.2.1
  refine zV_aload_nr dX5_undo_0 rfl rfl ?_
  refine gf5_41 rfl (rfl) dX5_undo_1 ?_
  refine zV_teq (w := zrv E 31) rfl ?_
  refine gf5_128 rfl rfl dX5_undo_4 ?_
  rw [hdk.2.2.1]
  have ha2 := hdk.2.2.2.1
  refine zR_if_ne (tgt := 12) dX5_undo_7 (by decide) (by omega) (fun h7 => ?_) (fun h7 => ?_)
  · refine zV_aload_nr dX5_undo_12 rfl rfl ?_
    refine gf5_41 rfl (rfl) dX5_undo_13 ?_
    refine zV_teq (w := zrv E 31) rfl ?_
    refine zV_callV (As := []) lk5_241 (rfl) rfl rfl (c3_takeBackAct (ac := ac - 1) 11 0 (by decide) hdk.1 hdk.2.1 (by rw [hdk.2.2.1]; omega) (by omega)) ⟨by show _ + 1 ≤ 12; omega, by show _ ≤ 4; omega⟩ rfl (Nat.le_of_ble_eq_true rfl) dX5_undo_16 (fun _ _ z => z.elim) (fun r h' q => ?_)
    obtain ⟨rfl, q⟩ := q
    refine zV_aload_nr dX5_undo_19 rfl rfl ?_
    refine gf5_41 rfl (rfl) dX5_undo_20 ?_
    refine zV_teq (w := zrv E 31) rfl ?_
    refine gf5_128 rfl rfl dX5_undo_23 ?_
    exact zV_ireturn dX5_undo_26 rfl (Nat.le_of_ble_eq_true rfl) (by show ite _ _ _; rw [if_neg (by omega)]; refine ⟨?_, q⟩; obtain ⟨f, old2, ac2, e1, e2, e3, e4, e5, e6, e7⟩ := q; rw [e6, show (ac2 : Int) = (ac : Int) - 1 by rw [hdk.2.2.1] at e2; omega])
  · refine zV_iconst dX5_undo_10 ?_
    exact zV_ireturn dX5_undo_11 rfl (Nat.le_of_ble_eq_true rfl) (by show ite _ _ _; rw [if_pos (by omega)]; exact ⟨rfl, rfl⟩)
set_option maxRecDepth 100000 in
theorem c5_read {E : zE} {h : zH} {t n jn : Nat} {x y : Int} (hx : -2147483648 ≤ x ∧ x ≤ 2147483647) (hy : -2147483648 ≤ y ∧ y ≤ 2147483647) {old ac rn : Nat} (hdk : dkOK h old ac rn) (hi : tInv h t n jn) : zCal E mX5_read 12 4 [zrv E 0, ziv x, ziv y] h (fun r h' => (0 ≤ y ∧ y < 5) ∧ if (1 ≤ x ∧ x ≤ 20) ∧ rn < 8 then r = some (ziv ((rn : Int) + 1)) ∧ h' = zup (zup (zup h 39 rn x) 40 rn y) 31 6 ((rn : Int) + 1) else r = some (ziv (-1)) ∧ h' = zup h 41 2 (h 41 2 + 1)) (fun e h' => h' = h ∧ e = NSE ∧ ¬ (0 ≤ y ∧ y < 5)) := by
  refine zCal_of (by decide) (Nat.le_of_ble_eq_true rfl) (fun a => ?_)
  show zV _ 0 0 [zrv E 0, ziv x, ziv y] [] _
  have ht := hi.2.1.1
  have k0 := hi.1
  have hnum := hi.2.2.2.2
  have hn8 := hi.2.1.2.1
  have hjn8 := hi.2.1.2.2.1
  have hrn := hdk.2.2.2.2.1
  have hr8 := hdk.2.2.2.2.2
  refine zV_iload_n dX5_read_0 rfl rfl ?_
  refine zV_callS (As := [ziv y]) lk5_261 (c5_needVerdict (by omega)) ⟨Nat.le_of_ble_eq_true rfl, Nat.le_of_ble_eq_true rfl⟩ rfl (Nat.le_of_ble_eq_true rfl) dX5_read_1 (fun e h2 z => ⟨z.2.1, z.1, z.2.2⟩) (fun r h' q => ?_)
  obtain ⟨rfl, hh, cv⟩ := q
  rw [hh]
  refine zV_iload_n dX5_read_4 rfl rfl ?_
  refine zV_iconst dX5_read_5 ?_
  refine zR_icmp_lt (tgt := 27) dX5_read_6 (by decide) (by omega) (by omega) (fun h6 => ?_) (fun h6 => ?_)
  · refine zV_aload_nr dX5_read_27 rfl rfl ?_
    refine gf5_41 rfl (rfl) dX5_read_28 ?_
    refine zV_teq (w := zrv E 31) rfl ?_
    refine gf5_91 rfl (rfl) dX5_read_31 ?_
    refine zV_teq (w := zrv E 41) rfl ?_
    refine zV_iconst dX5_read_34 ?_
    refine zV_dup2 dX5_read_35 rfl rfl ?_
    refine zV_iaload (N := 3) (rfl) (by decide) (by decide) dX5_read_36 ?_
    refine zV_iconst dX5_read_37 ?_
    refine zV_iadd dX5_read_38 ?_
    refine zV_iastore (N := 3) (rfl) (by decide) (by decide) dX5_read_39 ?_
    refine zV_iconst dX5_read_40 ?_
    exact zV_ireturn dX5_read_41 rfl (Nat.le_of_ble_eq_true rfl) ⟨cv, by rw [if_neg (by omega)]; exact ⟨rfl, rfl⟩⟩
  · refine zV_iload_n dX5_read_9 rfl rfl ?_
    refine zV_bipush dX5_read_10 (by decide) ?_
    refine zR_icmp_gt (tgt := 27) dX5_read_12 (by decide) (by omega) (by omega) (fun h12 => ?_) (fun h12 => ?_)
    · refine zV_aload_nr dX5_read_27 rfl rfl ?_
      refine gf5_41 rfl (rfl) dX5_read_28 ?_
      refine zV_teq (w := zrv E 31) rfl ?_
      refine gf5_91 rfl (rfl) dX5_read_31 ?_
      refine zV_teq (w := zrv E 41) rfl ?_
      refine zV_iconst dX5_read_34 ?_
      refine zV_dup2 dX5_read_35 rfl rfl ?_
      refine zV_iaload (N := 3) (rfl) (by decide) (by decide) dX5_read_36 ?_
      refine zV_iconst dX5_read_37 ?_
      refine zV_iadd dX5_read_38 ?_
      refine zV_iastore (N := 3) (rfl) (by decide) (by decide) dX5_read_39 ?_
      refine zV_iconst dX5_read_40 ?_
      exact zV_ireturn dX5_read_41 rfl (Nat.le_of_ble_eq_true rfl) ⟨cv, by rw [if_neg (by omega)]; exact ⟨rfl, rfl⟩⟩
    · refine zV_aload_nr dX5_read_15 rfl rfl ?_
      refine gf5_41 rfl (rfl) dX5_read_16 ?_
      refine zV_teq (w := zrv E 31) rfl ?_
      refine gf5_131 rfl rfl dX5_read_19 ?_
      refine zV_bipush dX5_read_22 (by decide) ?_
      rw [hrn]
      refine zR_icmp_lt (tgt := 42) dX5_read_24 (by decide) (by omega) (by omega) (fun h24 => ?_) (fun h24 => ?_)
      · refine zV_aload_nr dX5_read_42 rfl rfl ?_
        refine gf5_41 rfl (rfl) dX5_read_43 ?_
        refine zV_teq (w := zrv E 31) rfl ?_
        refine gf5_308 rfl (rfl) dX5_read_46 ?_
        refine zV_teq (w := zrv E 39) rfl ?_
        refine zV_aload_nr dX5_read_49 rfl rfl ?_
        refine gf5_41 rfl (rfl) dX5_read_50 ?_
        refine zV_teq (w := zrv E 31) rfl ?_
        refine gf5_131 rfl rfl dX5_read_53 ?_
        rw [hrn]
        refine zV_iload_n dX5_read_56 rfl rfl ?_
        refine zV_iastoreN (i := rn) (N := 8) (rfl) (by omega) (by decide) dX5_read_57 ?_
        refine zV_aload_nr dX5_read_58 rfl rfl ?_
        refine gf5_41 rfl (rfl) dX5_read_59 ?_
        refine zV_teq (w := zrv E 31) rfl ?_
        refine gf5_311 rfl (rfl) dX5_read_62 ?_
        refine zV_teq (w := zrv E 40) rfl ?_
        refine zV_aload_nr dX5_read_65 rfl rfl ?_
        refine gf5_41 rfl (rfl) dX5_read_66 ?_
        refine zV_teq (w := zrv E 31) rfl ?_
        refine gf5_131 rfl rfl dX5_read_69 ?_
        rw [zup_fn (by decide), hrn]
        refine zV_iload_n dX5_read_72 rfl rfl ?_
        refine zV_iastoreN (i := rn) (N := 8) (rfl) (by omega) (by decide) dX5_read_73 ?_
        refine zV_aload_nr dX5_read_74 rfl rfl ?_
        refine gf5_41 rfl (rfl) dX5_read_75 ?_
        refine zV_teq (w := zrv E 31) rfl ?_
        refine zV_dup dX5_read_78 rfl ?_
        refine gf5_131 rfl rfl dX5_read_79 ?_
        rw [zup_fn (by decide), zup_fn (by decide), hrn]
        refine zV_iconst dX5_read_82 ?_
        refine zV_iadd dX5_read_83 ?_
        refine pf5_131 rfl (rfl) dX5_read_84 ?_
        refine zV_aload_nr dX5_read_87 rfl rfl ?_
        refine gf5_41 rfl (rfl) dX5_read_88 ?_
        refine zV_teq (w := zrv E 31) rfl ?_
        refine gf5_131 rfl rfl dX5_read_91 ?_
        exact zV_ireturn dX5_read_94 rfl (Nat.le_of_ble_eq_true rfl) ⟨cv, by rw [if_pos (by omega)]; exact ⟨by rw [zup_at, if_pos rfl], rfl⟩⟩
      · refine zV_aload_nr dX5_read_27 rfl rfl ?_
        refine gf5_41 rfl (rfl) dX5_read_28 ?_
        refine zV_teq (w := zrv E 31) rfl ?_
        refine gf5_91 rfl (rfl) dX5_read_31 ?_
        refine zV_teq (w := zrv E 41) rfl ?_
        refine zV_iconst dX5_read_34 ?_
        refine zV_dup2 dX5_read_35 rfl rfl ?_
        refine zV_iaload (N := 3) (rfl) (by decide) (by decide) dX5_read_36 ?_
        refine zV_iconst dX5_read_37 ?_
        refine zV_iadd dX5_read_38 ?_
        refine zV_iastore (N := 3) (rfl) (by decide) (by decide) dX5_read_39 ?_
        refine zV_iconst dX5_read_40 ?_
        exact zV_ireturn dX5_read_41 rfl (Nat.le_of_ble_eq_true rfl) ⟨cv, by rw [if_neg (by omega)]; exact ⟨rfl, rfl⟩⟩
set_option maxRecDepth 100000 in
theorem c5_forget {E : zE} {h : zH} {t n jn : Nat}  (hi : tInv h t n jn) : zCal E mX5_forget 12 4 [zrv E 0] h (fun r h' => r = none ∧ h' = zup h 31 6 0) (fun _ _ => False) := by
  refine zCal_of (by decide) (Nat.le_of_ble_eq_true rfl) (fun a => ?_)
  show zV _ 0 0 [zrv E 0] [] _
  have ht := hi.2.1.1
  have k0 := hi.1
  have hnum := hi.2.2.2.2
  have hn8 := hi.2.1.2.1
  have hjn8 := hi.2.1.2.2.1
  refine zV_aload_nr dX5_forget_0 rfl rfl ?_
  refine gf5_41 rfl (rfl) dX5_forget_1 ?_
  refine zV_teq (w := zrv E 31) rfl ?_
  refine zV_iconst dX5_forget_4 ?_
  refine pf5_131 rfl (rfl) dX5_forget_5 ?_
  exact zV_vreturn dX5_forget_8 rfl (Nat.le_of_ble_eq_true rfl) ⟨rfl, rfl⟩
