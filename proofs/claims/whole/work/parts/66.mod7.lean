/-! THE REFERENCE: what is asked, if only cases go by -/
def mA (h : zH) (F V : Int) : Option Value → zH → Prop := fun r h' => mq h h' ∧ h' 64 4 = F ∧ ∃ v, r = some (ziv v) ∧ (F = 0 → v = V)
theorem mA_f {h h0 : zH} {F V k : Int} (q0 : mq h h0) (hk : k ≠ 0) (hF : F = k) : mA h F V (some (ziv 0)) (zup h0 64 4 k) := ⟨mq_trans q0 (mq_c h0 k), by rw [zup_at, if_pos rfl, hF], 0, rfl, fun z => absurd (hF ▸ z) hk⟩
theorem mA_ok {h h' : zH} {F V v : Int} (q : mq h h') (z : h' 64 4 = 0) (hF : F = 0) (hv : v = V) : mA h F V (some (ziv v)) h' := ⟨q, by rw [hF]; exact z, v, rfl, fun _ => hv⟩
theorem st0 {h : zH} {n jn : Nat} (hm : mInv h n jn) : ∃ h0, zup h 64 4 0 = h0 ∧ mq h h0 ∧ h0 64 4 = 0 ∧ mInv h0 n jn ∧ (∀ c2 : Nat, c2 ≠ 64 → h0 c2 = h c2) ∧ (∀ j, j ≠ 4 → h0 64 j = h 64 j) ∧ (∀ k, RM h0 n jn k = RM h n jn k) ∧ gM h0 = gM h := by
  obtain ⟨m1, m2, m3⟩ := hm
  have e : ∀ c2 : Nat, c2 ≠ 64 → zup h 64 4 0 c2 = h c2 := fun c2 hc => zup_fn hc
  have e4 : ∀ j, j ≠ 4 → zup h 64 4 0 64 j = h 64 j := fun j hj => by rw [zup_at, if_neg hj]
  have gm : gM (zup h 64 4 0) = gM h := by
    unfold gM
    rw [ruM_congr (ru := 0) (e 68 (by decide)) (e 75 (by decide)), ruM_congr (ru := 1) (e 68 (by decide)) (e 76 (by decide)), e 81 (by decide), e 82 (by decide), e 78 (by decide), e4 33 (by decide), e 70 (by decide), e 71 (by decide), e 68 (by decide)]
  obtain ⟨d1, d2, d3, d4, d5, d6⟩ := m2
  refine ⟨_, rfl, mq_c h 0, by rw [zup_at, if_pos rfl], ⟨mCt_congr (e 68 (by decide)) (e 70 (by decide)) (e 71 (by decide)) (e 74 (by decide)) (e 75 (by decide)) (e 76 (by decide)) m1, ⟨by rw [e 80 (by decide)]; exact d1, by rw [e 78 (by decide)]; exact d2, by rw [e 82 (by decide)]; exact d3, by rw [e 81 (by decide)]; exact d4, by rw [e4 33 (by decide)]; exact d5, by rw [e4 32 (by decide)]; exact d6⟩, by rw [e4 32 (by decide)]; exact m3⟩, e, e4, fun k => ?_, gm⟩
  unfold RM
  rw [gm, e4 32 (by decide), e 80 (by decide)]
theorem RM_lo {h : zH} {n jn : Nat} (hm : mInv h n jn) (k : Nat) : (∀ l, l < n → 0 ≤ (RM h n jn k).1 l ∧ (RM h n jn k).1 l < 12) ∧ (1 ≤ k → 0 ≤ (RM h n jn k).2.1 ∧ (RM h n jn k).2.1 < 5) := runG_lo (g := gM h) hm.2.1.1 hm.2.1.2.2.2.2.1 k
theorem RM_sip {h : zH} {n jn k j : Nat} (hm : mInv h n jn) (hj : seated (h 81) jn j) (hk : 1 ≤ k) : 0 ≤ (RM h n jn k).2.2.2 j ∧ (RM h n jn k).2.2.2 j ≤ 99 := by
  obtain ⟨k, rfl⟩ : ∃ z, k = z + 1 := ⟨k - 1, by omega⟩
  obtain ⟨s, s1, s2⟩ := hj
  exact (seatsN_sip (g := gM h) (x := (_, h 64 33, _)) hm.2.1.2.2.2.2.1 jn).2 j ⟨s, s1, by show (h 81 s).toNat = j; rw [s2]; simp⟩
theorem pk_inv {h h1 : zH} {n jn : Nat} (i0 : mInv h n jn) (pk : mpk h 87 0 h1) : mInv h1 n jn ∧ (∀ k, RM h1 n jn k = RM h n jn k) ∧ mrun h1 n jn 0 h1 ∧ (h1 80 = h 80 ∧ h1 64 = h 64 ∧ h1 81 = h 81 ∧ h1 74 = h 74 ∧ h1 68 = h 68) := by
  obtain ⟨ct1, dy1, ⟨gm1, e80, e64, e81⟩, rr1⟩ := mpk_inv (Or.inl rfl) pk i0.1 i0.2.1
  exact ⟨⟨ct1, dy1, by rw [e64]; exact i0.2.2⟩, rr1, mrun_0 ct1 dy1, e80, e64, e81, pk.1 74 (by decide), pk.1 68 (by decide)⟩
theorem perm_congr {f g : Nat → Int} {jn : Nat} (e : f = g) (h : permM f jn) : permM g jn := e ▸ h

set_option maxRecDepth 100000 in
theorem c6_verdict {E : zE} {h : zH} {n jn : Nat} {x w : Int} (hx : -2147483648 ≤ x ∧ x ≤ 2147483647) (hw : -2147483648 ≤ w ∧ w ≤ 2147483647) (hm : mInv h n jn) : zCal E mX6_verdict 12 4 [zrv E 64, ziv x, ziv w] h (mA h (if 0 ≤ w ∧ w ≤ 1 then (if 1 ≤ x ∧ x ≤ 60 then 0 else 2) else 1) (if w = 0 then (RM h n jn x.toNat).2.1 else (RM h n jn x.toNat).2.2.1)) (fun _ _ => False) := by
  refine zCal_of (by decide) (Nat.le_of_ble_eq_true rfl) (fun a => ?_)
  show zV _ 0 0 [zrv E 64, ziv x, ziv w, .null] [] _
  refine zV_aload_nr dX6_verdict_0 rfl rfl ?_
  refine zV_iconst dX6_verdict_1 ?_
  refine pf6_157 rfl (rfl) dX6_verdict_2 ?_
  obtain ⟨h0, hh0, q0, z0, i0, e0, e4, r0, g0⟩ := st0 hm
  rw [hh0]
  refine zV_iload_n dX6_verdict_5 rfl rfl ?_
  refine zV_i2l dX6_verdict_6 (by omega) ?_
  refine zV_lconst dX6_verdict_7 ?_
  refine zV_lconst dX6_verdict_8 ?_
  refine zV_callS (As := [zlv w, zlv ((0 : Nat) : Int), zlv ((1 : Nat) : Int)]) lk6_160 (c6_isIn 11 0 (by omega) (by omega) (by omega)) ⟨by show _ + 1 ≤ 12; omega, by show _ ≤ 4; omega⟩ rfl (Nat.le_of_ble_eq_true rfl) dX6_verdict_9 (fun _ _ z => z.elim) (fun r h9 q => ?_)
  obtain ⟨rfl, hh⟩ := q
  rw [hh]
  clear hh
  refine zR_if_ne (tgt := 21) dX6_verdict_12 (by decide) (by split <;> omega) (fun h12 => ?_) (fun h12 => ?_)
  · have y12 := ipT h12
    refine zV_iload_n dX6_verdict_21 rfl rfl ?_
    refine zV_i2l dX6_verdict_22 (by omega) ?_
    refine zV_lconst dX6_verdict_23 ?_
    refine zV_ldc2 (v := 60) kl6_419 dX6_verdict_24 ?_
    refine zV_callS (As := [zlv x, zlv ((1 : Nat) : Int), zlv 60]) lk6_160 (c6_isIn 11 0 (by omega) (by omega) (by omega)) ⟨by show _ + 1 ≤ 12; omega, by show _ ≤ 4; omega⟩ rfl (Nat.le_of_ble_eq_true rfl) dX6_verdict_27 (fun _ _ z => z.elim) (fun r h9 q => ?_)
    obtain ⟨rfl, hh⟩ := q
    rw [hh]
    clear hh
    refine zR_if_ne (tgt := 39) dX6_verdict_30 (by decide) (by split <;> omega) (fun h30 => ?_) (fun h30 => ?_)
    · have y30 := ipT h30
      refine zV_aload_nr dX6_verdict_39 rfl rfl ?_
      refine zV_aload_nr dX6_verdict_40 rfl rfl ?_
      refine gf6_103 rfl (rfl) dX6_verdict_41 ?_
      refine zV_teq (w := zrv E 87) rfl ?_
      refine zV_iconst dX6_verdict_44 ?_
      refine zV_callV (As := [zrv E 87, ziv ((0 : Nat) : Int)]) lk6_372 (rfl) rfl rfl (c6_pack (c := 87) (N := 27) (f := 0) 11 0 zsh87 (by decide) scr87 (by decide)) ⟨by show _ + 1 ≤ 12; omega, by show _ ≤ 4; omega⟩ rfl (Nat.le_of_ble_eq_true rfl) dX6_verdict_45 (fun _ _ z => z.elim) (fun r h1 q => ?_)
      obtain ⟨rfl, pk⟩ := q
      obtain ⟨i1, rr1, ru0, e80, e64, e81, e74, e68⟩ := pk_inv i0 pk
      refine zV_aload_nr dX6_verdict_48 rfl rfl ?_
      refine zV_iload_n dX6_verdict_49 rfl rfl ?_
      refine zV_callV (As := [ziv x]) lk6_405 (rfl) rfl rfl (c6_goOn (n := n) (jn := jn) 11 0 (by decide) i1.1 i1.2.1 (by omega) i1.2.2) ⟨by show _ + 1 ≤ 12; omega, by show _ ≤ 4; omega⟩ rfl (Nat.le_of_ble_eq_true rfl) dX6_verdict_50 (fun _ _ z => z.elim) (fun r h2 q => ?_)
      obtain ⟨rfl, ru⟩ := q
      have r9 := ru.2.2.1 (by omega)
      rw [rr1, r0] at r9
      refine zV_iload_n dX6_verdict_53 rfl rfl ?_
      refine zR_if_ne (tgt := 64) dX6_verdict_54 (by decide) (by omega) (fun h54 => ?_) (fun h54 => ?_)
      · refine zV_aload_nr dX6_verdict_64 rfl rfl ?_
        refine gf6_338 rfl rfl dX6_verdict_65 ?_
        try rw [r9.1]
        try rw [r9.2.1]
        refine zV_istore_n dX6_verdict_68 rfl (Nat.le_of_ble_eq_true rfl) rfl ?_
        refine zV_aload_nr dX6_verdict_69 rfl rfl ?_
        refine zV_aload_nr dX6_verdict_70 rfl rfl ?_
        refine gf6_103 rfl (rfl) dX6_verdict_71 ?_
        refine zV_teq (w := zrv E 87) rfl ?_
        refine zV_iconst dX6_verdict_74 ?_
        refine zV_callV (As := [zrv E 87, ziv ((0 : Nat) : Int)]) lk6_376 (rfl) rfl rfl (c6_unpack (c := 87) (N := 27) (f := 0) 11 0 zsh87 (by decide) scr87 (by decide)) ⟨by show _ + 1 ≤ 12; omega, by show _ ≤ 4; omega⟩ rfl (Nat.le_of_ble_eq_true rfl) dX6_verdict_75 (fun _ _ z => z.elim) (fun r h4 q => ?_)
        obtain ⟨rfl, up⟩ := q
        have mq4 := mq_trans q0 (mq_run (Or.inl rfl) pk ru.1 up)
        have z4 := (mq_run4 (Or.inl rfl) pk ru.1 up).trans z0
        refine zV_iload_n dX6_verdict_78 rfl rfl ?_
        exact zV_ireturn dX6_verdict_79 rfl (Nat.zero_le _) (mA_ok mq4 z4 (by rw [if_pos (by omega), if_pos (by omega)]) (by rw [if_neg h54]))
      · refine zV_aload_nr dX6_verdict_57 rfl rfl ?_
        refine gf6_154 rfl rfl dX6_verdict_58 ?_
        rw [r9.1]
        refine zV_goto (tgt := 68) dX6_verdict_61 (by decide) ?_
        try rw [r9.1]
        try rw [r9.2.1]
        refine zV_istore_n dX6_verdict_68 rfl (Nat.le_of_ble_eq_true rfl) rfl ?_
        refine zV_aload_nr dX6_verdict_69 rfl rfl ?_
        refine zV_aload_nr dX6_verdict_70 rfl rfl ?_
        refine gf6_103 rfl (rfl) dX6_verdict_71 ?_
        refine zV_teq (w := zrv E 87) rfl ?_
        refine zV_iconst dX6_verdict_74 ?_
        refine zV_callV (As := [zrv E 87, ziv ((0 : Nat) : Int)]) lk6_376 (rfl) rfl rfl (c6_unpack (c := 87) (N := 27) (f := 0) 11 0 zsh87 (by decide) scr87 (by decide)) ⟨by show _ + 1 ≤ 12; omega, by show _ ≤ 4; omega⟩ rfl (Nat.le_of_ble_eq_true rfl) dX6_verdict_75 (fun _ _ z => z.elim) (fun r h4 q => ?_)
        obtain ⟨rfl, up⟩ := q
        have mq4 := mq_trans q0 (mq_run (Or.inl rfl) pk ru.1 up)
        have z4 := (mq_run4 (Or.inl rfl) pk ru.1 up).trans z0
        refine zV_iload_n dX6_verdict_78 rfl rfl ?_
        exact zV_ireturn dX6_verdict_79 rfl (Nat.zero_le _) (mA_ok mq4 z4 (by rw [if_pos (by omega), if_pos (by omega)]) (by rw [if_pos h54]))
    · have n30 := ipF h30
      refine zV_aload_nr dX6_verdict_33 rfl rfl ?_
      refine zV_iconst dX6_verdict_34 ?_
      refine zV_callV (As := [ziv 2]) lk6_300 (rfl) rfl rfl (c6_fail 11 0) ⟨by show _ + 1 ≤ 12; omega, by show _ ≤ 4; omega⟩ rfl (Nat.le_of_ble_eq_true rfl) dX6_verdict_35 (fun _ _ z => z.elim) (fun r h9 q => ?_)
      obtain ⟨rfl, hh⟩ := q
      rw [hh]
      clear hh
      exact zV_ireturn dX6_verdict_38 rfl (Nat.zero_le _) (mA_f q0 (by decide) (by rw [if_pos (by omega), if_neg (by omega)]))
  · have n12 := ipF h12
    refine zV_aload_nr dX6_verdict_15 rfl rfl ?_
    refine zV_iconst dX6_verdict_16 ?_
    refine zV_callV (As := [ziv 1]) lk6_300 (rfl) rfl rfl (c6_fail 11 0) ⟨by show _ + 1 ≤ 12; omega, by show _ ≤ 4; omega⟩ rfl (Nat.le_of_ble_eq_true rfl) dX6_verdict_17 (fun _ _ z => z.elim) (fun r h9 q => ?_)
    obtain ⟨rfl, hh⟩ := q
    rw [hh]
    clear hh
    exact zV_ireturn dX6_verdict_20 rfl (Nat.zero_le _) (mA_f q0 (by decide) (by rw [if_neg (by omega)]))
set_option maxRecDepth 100000 in
theorem c6_lies {E : zE} {h : zH} {n jn : Nat} {x y : Int} (hx : -2147483648 ≤ x ∧ x ≤ 2147483647) (hy : -2147483648 ≤ y ∧ y ≤ 2147483647) (hm : mInv h n jn) : zCal E mX6_lies 12 4 [zrv E 64, ziv x, ziv y] h (mA h (if 0 ≤ x ∧ x < n then (if 0 ≤ y ∧ y ≤ 60 then 0 else 2) else 1) ((RM h n jn y.toNat).1 x.toNat)) (fun _ _ => False) := by
  refine zCal_of (by decide) (Nat.le_of_ble_eq_true rfl) (fun a => ?_)
  show zV _ 0 0 [zrv E 64, ziv x, ziv y, .null] [] _
  refine zV_aload_nr dX6_lies_0 rfl rfl ?_
  refine zV_iconst dX6_lies_1 ?_
  refine pf6_157 rfl (rfl) dX6_lies_2 ?_
  obtain ⟨h0, hh0, q0, z0, i0, e0, e4, r0, g0⟩ := st0 hm
  rw [hh0]
  refine zV_aload_nr dX6_lies_5 rfl rfl ?_
  refine zV_iload_n dX6_lies_6 rfl rfl ?_
  refine zV_callV (As := [ziv x]) lk6_382 (rfl) rfl rfl (c6_isLeaf (jn := jn) 11 0 (by decide) hx i0.1.1.2.2.1 i0.1.1.1) ⟨by show _ + 1 ≤ 12; omega, by show _ ≤ 4; omega⟩ rfl (Nat.le_of_ble_eq_true rfl) dX6_lies_7 (fun _ _ z => z.elim) (fun r h9 q => ?_)
  obtain ⟨rfl, hh⟩ := q
  rw [hh]
  clear hh
  refine zR_if_ne (tgt := 19) dX6_lies_10 (by decide) (by split <;> omega) (fun h10 => ?_) (fun h10 => ?_)
  · have y10 := ipT h10
    refine zV_iload_n dX6_lies_19 rfl rfl ?_
    refine zV_i2l dX6_lies_20 (by omega) ?_
    refine zV_lconst dX6_lies_21 ?_
    refine zV_ldc2 (v := 60) kl6_419 dX6_lies_22 ?_
    refine zV_callS (As := [zlv y, zlv ((0 : Nat) : Int), zlv 60]) lk6_160 (c6_isIn 11 0 (by omega) (by omega) (by omega)) ⟨by show _ + 1 ≤ 12; omega, by show _ ≤ 4; omega⟩ rfl (Nat.le_of_ble_eq_true rfl) dX6_lies_25 (fun _ _ z => z.elim) (fun r h9 q => ?_)
    obtain ⟨rfl, hh⟩ := q
    rw [hh]
    clear hh
    refine zR_if_ne (tgt := 37) dX6_lies_28 (by decide) (by split <;> omega) (fun h28 => ?_) (fun h28 => ?_)
    · have y28 := ipT h28
      refine zV_aload_nr dX6_lies_37 rfl rfl ?_
      refine zV_aload_nr dX6_lies_38 rfl rfl ?_
      refine gf6_103 rfl (rfl) dX6_lies_39 ?_
      refine zV_teq (w := zrv E 87) rfl ?_
      refine zV_iconst dX6_lies_42 ?_
      refine zV_callV (As := [zrv E 87, ziv ((0 : Nat) : Int)]) lk6_372 (rfl) rfl rfl (c6_pack (c := 87) (N := 27) (f := 0) 11 0 zsh87 (by decide) scr87 (by decide)) ⟨by show _ + 1 ≤ 12; omega, by show _ ≤ 4; omega⟩ rfl (Nat.le_of_ble_eq_true rfl) dX6_lies_43 (fun _ _ z => z.elim) (fun r h1 q => ?_)
      obtain ⟨rfl, pk⟩ := q
      obtain ⟨i1, rr1, ru0, e80, e64, e81, e74, e68⟩ := pk_inv i0 pk
      refine zV_aload_nr dX6_lies_46 rfl rfl ?_
      refine zV_iload_n dX6_lies_47 rfl rfl ?_
      refine zV_callV (As := [ziv y]) lk6_405 (rfl) rfl rfl (c6_goOn (n := n) (jn := jn) 11 0 (by decide) i1.1 i1.2.1 (by omega) i1.2.2) ⟨by show _ + 1 ≤ 12; omega, by show _ ≤ 4; omega⟩ rfl (Nat.le_of_ble_eq_true rfl) dX6_lies_48 (fun _ _ z => z.elim) (fun r h2 q => ?_)
      obtain ⟨rfl, ru⟩ := q
      have n8 := i0.1.1.1
      have r9 := ru.2.1 x.toNat (by omega)
      rw [rr1, r0] at r9
      refine zV_aload_nr dX6_lies_51 rfl rfl ?_
      refine gf6_82 rfl (rfl) dX6_lies_52 ?_
      refine zV_teq (w := zrv E 80) rfl ?_
      refine zV_iload_n dX6_lies_55 rfl rfl ?_
      refine zV_iaload (N := 8) (rfl) (by omega) (by decide) dX6_lies_56 ?_
      rw [r9]
      refine zV_istore_n dX6_lies_57 rfl (Nat.le_of_ble_eq_true rfl) rfl ?_
      refine zV_aload_nr dX6_lies_58 rfl rfl ?_
      refine zV_aload_nr dX6_lies_59 rfl rfl ?_
      refine gf6_103 rfl (rfl) dX6_lies_60 ?_
      refine zV_teq (w := zrv E 87) rfl ?_
      refine zV_iconst dX6_lies_63 ?_
      refine zV_callV (As := [zrv E 87, ziv ((0 : Nat) : Int)]) lk6_376 (rfl) rfl rfl (c6_unpack (c := 87) (N := 27) (f := 0) 11 0 zsh87 (by decide) scr87 (by decide)) ⟨by show _ + 1 ≤ 12; omega, by show _ ≤ 4; omega⟩ rfl (Nat.le_of_ble_eq_true rfl) dX6_lies_64 (fun _ _ z => z.elim) (fun r h4 q => ?_)
      obtain ⟨rfl, up⟩ := q
      have mq4 := mq_trans q0 (mq_run (Or.inl rfl) pk ru.1 up)
      have z4 := (mq_run4 (Or.inl rfl) pk ru.1 up).trans z0
      refine zV_iload_n dX6_lies_67 rfl rfl ?_
      exact zV_ireturn dX6_lies_68 rfl (Nat.zero_le _) (mA_ok mq4 z4 (by rw [if_pos (by omega), if_pos (by omega)]) rfl)
    · have n28 := ipF h28
      refine zV_aload_nr dX6_lies_31 rfl rfl ?_
      refine zV_iconst dX6_lies_32 ?_
      refine zV_callV (As := [ziv 2]) lk6_300 (rfl) rfl rfl (c6_fail 11 0) ⟨by show _ + 1 ≤ 12; omega, by show _ ≤ 4; omega⟩ rfl (Nat.le_of_ble_eq_true rfl) dX6_lies_33 (fun _ _ z => z.elim) (fun r h9 q => ?_)
      obtain ⟨rfl, hh⟩ := q
      rw [hh]
      clear hh
      exact zV_ireturn dX6_lies_36 rfl (Nat.zero_le _) (mA_f q0 (by decide) (by rw [if_pos (by omega), if_neg (by omega)]))
  · have n10 := ipF h10
    refine zV_aload_nr dX6_lies_13 rfl rfl ?_
    refine zV_iconst dX6_lies_14 ?_
    refine zV_callV (As := [ziv 1]) lk6_300 (rfl) rfl rfl (c6_fail 11 0) ⟨by show _ + 1 ≤ 12; omega, by show _ ≤ 4; omega⟩ rfl (Nat.le_of_ble_eq_true rfl) dX6_lies_15 (fun _ _ z => z.elim) (fun r h9 q => ?_)
    obtain ⟨rfl, hh⟩ := q
    rw [hh]
    clear hh
    exact zV_ireturn dX6_lies_18 rfl (Nat.zero_le _) (mA_f q0 (by decide) (by rw [if_neg (by omega)]))
set_option maxRecDepth 100000 in
theorem c6_drunk {E : zE} {h : zH} {n jn : Nat} {x y : Int} (hx : -2147483648 ≤ x ∧ x ≤ 2147483647) (hy : -2147483648 ≤ y ∧ y ≤ 2147483647) (hpm : permM (h 81) jn) (hm : mInv h n jn) : zCal E mX6_drunk 12 4 [zrv E 64, ziv x, ziv y] h (mA h (if 0 ≤ x ∧ x < jn then (if 1 ≤ y ∧ y ≤ 60 then 0 else 2) else 1) ((RM h n jn y.toNat).2.2.2 x.toNat)) (fun _ _ => False) := by
  refine zCal_of (by decide) (Nat.le_of_ble_eq_true rfl) (fun a => ?_)
  show zV _ 0 0 [zrv E 64, ziv x, ziv y] [] _
  refine zV_aload_nr dX6_drunk_0 rfl rfl ?_
  refine zV_iconst dX6_drunk_1 ?_
  refine pf6_157 rfl (rfl) dX6_drunk_2 ?_
  obtain ⟨h0, hh0, q0, z0, i0, e0, e4, r0, g0⟩ := st0 hm
  rw [hh0]
  refine zV_aload_nr dX6_drunk_5 rfl rfl ?_
  refine zV_iload_n dX6_drunk_6 rfl rfl ?_
  refine zV_callV (As := [ziv x]) lk6_385 (rfl) rfl rfl (c6_isJudge (jn := jn) 11 0 (by decide) hx i0.1.1.2.2.2 i0.1.1.2.1) ⟨by show _ + 1 ≤ 12; omega, by show _ ≤ 4; omega⟩ rfl (Nat.le_of_ble_eq_true rfl) dX6_drunk_7 (fun _ _ z => z.elim) (fun r h9 q => ?_)
  obtain ⟨rfl, hh⟩ := q
  rw [hh]
  clear hh
  refine zR_if_ne (tgt := 19) dX6_drunk_10 (by decide) (by split <;> omega) (fun h10 => ?_) (fun h10 => ?_)
  · have y10 := ipT h10
    refine zV_iload_n dX6_drunk_19 rfl rfl ?_
    refine zV_i2l dX6_drunk_20 (by omega) ?_
    refine zV_lconst dX6_drunk_21 ?_
    refine zV_ldc2 (v := 60) kl6_419 dX6_drunk_22 ?_
    refine zV_callS (As := [zlv y, zlv ((1 : Nat) : Int), zlv 60]) lk6_160 (c6_isIn 11 0 (by omega) (by omega) (by omega)) ⟨by show _ + 1 ≤ 12; omega, by show _ ≤ 4; omega⟩ rfl (Nat.le_of_ble_eq_true rfl) dX6_drunk_25 (fun _ _ z => z.elim) (fun r h9 q => ?_)
    obtain ⟨rfl, hh⟩ := q
    rw [hh]
    clear hh
    refine zR_if_ne (tgt := 37) dX6_drunk_28 (by decide) (by split <;> omega) (fun h28 => ?_) (fun h28 => ?_)
    · have y28 := ipT h28
      refine zV_aload_nr dX6_drunk_37 rfl rfl ?_
      refine zV_aload_nr dX6_drunk_38 rfl rfl ?_
      refine gf6_103 rfl (rfl) dX6_drunk_39 ?_
      refine zV_teq (w := zrv E 87) rfl ?_
      refine zV_iconst dX6_drunk_42 ?_
      refine zV_callV (As := [zrv E 87, ziv ((0 : Nat) : Int)]) lk6_372 (rfl) rfl rfl (c6_pack (c := 87) (N := 27) (f := 0) 11 0 zsh87 (by decide) scr87 (by decide)) ⟨by show _ + 1 ≤ 12; omega, by show _ ≤ 4; omega⟩ rfl (Nat.le_of_ble_eq_true rfl) dX6_drunk_43 (fun _ _ z => z.elim) (fun r h1 q => ?_)
      obtain ⟨rfl, pk⟩ := q
      obtain ⟨i1, rr1, ru0, e80, e64, e81, e74, e68⟩ := pk_inv i0 pk
      refine zV_aload_nr dX6_drunk_46 rfl rfl ?_
      refine zV_iload_n dX6_drunk_47 rfl rfl ?_
      refine zV_callV (As := [ziv y]) lk6_405 (rfl) rfl rfl (c6_goOn (n := n) (jn := jn) 11 0 (by decide) i1.1 i1.2.1 (by omega) i1.2.2) ⟨by show _ + 1 ≤ 12; omega, by show _ ≤ 4; omega⟩ rfl (Nat.le_of_ble_eq_true rfl) dX6_drunk_48 (fun _ _ z => z.elim) (fun r h2 q => ?_)
      obtain ⟨rfl, ru⟩ := q
      have j8 := i0.1.1.2.1
      have r9 := (ru.2.2.1 (by omega)).2.2 (perm_congr (by rw [e81, e0 81 (by decide)]) hpm) x.toNat (by omega)
      rw [rr1, r0] at r9
      refine zV_aload_nr dX6_drunk_51 rfl rfl ?_
      refine zV_aload_nr dX6_drunk_52 rfl rfl ?_
      refine gf6_103 rfl (rfl) dX6_drunk_53 ?_
      refine zV_teq (w := zrv E 87) rfl ?_
      refine zV_iconst dX6_drunk_56 ?_
      refine zV_callV (As := [zrv E 87, ziv ((0 : Nat) : Int)]) lk6_376 (rfl) rfl rfl (c6_unpack (c := 87) (N := 27) (f := 0) 11 0 zsh87 (by decide) scr87 (by decide)) ⟨by show _ + 1 ≤ 12; omega, by show _ ≤ 4; omega⟩ rfl (Nat.le_of_ble_eq_true rfl) dX6_drunk_57 (fun _ _ z => z.elim) (fun r h4 q => ?_)
      obtain ⟨rfl, up⟩ := q
      have mq4 := mq_trans q0 (mq_run (Or.inl rfl) pk ru.1 up)
      have z4 := (mq_run4 (Or.inl rfl) pk ru.1 up).trans z0
      refine zV_aload_nr dX6_drunk_60 rfl rfl ?_
      refine gf6_100 rfl (rfl) dX6_drunk_61 ?_
      refine zV_teq (w := zrv E 86) rfl ?_
      refine zV_iload_n dX6_drunk_64 rfl rfl ?_
      refine zV_iaload (N := 8) (rfl) (by omega) (by decide) dX6_drunk_65 ?_
      rw [up.1 86 (by decide) (by decide) (by decide) (by decide), r9]
      exact zV_ireturn dX6_drunk_66 rfl (Nat.zero_le _) (mA_ok mq4 z4 (by rw [if_pos (by omega), if_pos (by omega)]) rfl)
    · have n28 := ipF h28
      refine zV_aload_nr dX6_drunk_31 rfl rfl ?_
      refine zV_iconst dX6_drunk_32 ?_
      refine zV_callV (As := [ziv 2]) lk6_300 (rfl) rfl rfl (c6_fail 11 0) ⟨by show _ + 1 ≤ 12; omega, by show _ ≤ 4; omega⟩ rfl (Nat.le_of_ble_eq_true rfl) dX6_drunk_33 (fun _ _ z => z.elim) (fun r h9 q => ?_)
      obtain ⟨rfl, hh⟩ := q
      rw [hh]
      clear hh
      exact zV_ireturn dX6_drunk_36 rfl (Nat.zero_le _) (mA_f q0 (by decide) (by rw [if_pos (by omega), if_neg (by omega)]))
  · have n10 := ipF h10
    refine zV_aload_nr dX6_drunk_13 rfl rfl ?_
    refine zV_iconst dX6_drunk_14 ?_
    refine zV_callV (As := [ziv 1]) lk6_300 (rfl) rfl rfl (c6_fail 11 0) ⟨by show _ + 1 ≤ 12; omega, by show _ ≤ 4; omega⟩ rfl (Nat.le_of_ble_eq_true rfl) dX6_drunk_15 (fun _ _ z => z.elim) (fun r h9 q => ?_)
    obtain ⟨rfl, hh⟩ := q
    rw [hh]
    clear hh
    exact zV_ireturn dX6_drunk_18 rfl (Nat.zero_le _) (mA_f q0 (by decide) (by rw [if_neg (by omega)]))
/-- the verdict of the k-th case, as the reference has it -/
def LT (h : zH) (n jn k : Nat) : Int := (RM h n jn k).2.1
def tellI (h : zH) (n jn s : Nat) (h2 : zH) : Prop := (∀ v : Nat, v < 5 → h2 88 v = oftS (LT h n jn) (v : Int) s) ∧ h2 64 43 = (strS (LT h n jn) s).1 ∧ h2 64 44 = cameS (LT h n jn) s
def told1 (h : zH) (n jn k : Nat) (h' : zH) : Prop := mq h h' ∧ h' 64 4 = h 64 4 ∧ tellI h n jn k h'
theorem tell_0 {h h1 h0 : zH} {n jn : Nat} (hm : mInv h n jn) (f1 : ∀ c2 : Nat, c2 ≠ 88 → h1 c2 = h c2) (z1 : ∀ i, i < 5 → h1 88 i = 0) (hh : h0 = zup (zup h1 64 43 0) 64 44 0) : (mq h h0 ∧ h0 64 4 = h 64 4) ∧ mInv h0 n jn ∧ (∀ k, RM h0 n jn k = RM h n jn k) ∧ (∀ v : Nat, v < 5 → h0 88 v = oftS (LT h n jn) (v : Int) 0) ∧ h0 64 43 = 0 ∧ h0 64 44 = 0 := by
  subst hh
  have e : ∀ c2 : Nat, c2 ≠ 64 → c2 ≠ 88 → zup (zup h1 64 43 0) 64 44 0 c2 = h c2 := fun c2 a b => by rw [zup_fn a, zup_fn a, f1 c2 b]
  have e2 : ∀ j, j ≠ 43 → j ≠ 44 → zup (zup h1 64 43 0) 64 44 0 64 j = h 64 j := fun j a b => by rw [zup_at, if_neg b, zup_at, if_neg a, f1 64 (by decide)]
  have fw : mFw h (zup (zup h1 64 43 0) 64 44 0) := ⟨fun c2 p => by unfold kpc at p; exact e c2 (by omega) (by omega), fun j p => by unfold stf at p; exact e2 j (by omega) (by omega)⟩
  obtain ⟨ct, gm⟩ := mFw_ct hm.1 fw
  obtain ⟨d1, d2, d3, d4, d5, d6⟩ := hm.2.1
  have c80 := e 80 (by decide) (by decide)
  have c32 := e2 32 (by decide) (by decide)
  refine ⟨⟨⟨fun c2 hc => e c2 (by omega) (by omega), fun c2 hc => by rw [e c2 (by omega) (by omega)]; exact agn_rfl _ _, fun j hj => by unfold stf at hj; exact e2 j (by omega) (by omega)⟩, e2 4 (by decide) (by decide)⟩, ⟨ct, ⟨by rw [c80]; exact d1, by rw [e 78 (by decide) (by decide)]; exact d2, by rw [e 82 (by decide) (by decide)]; exact d3, by rw [e 81 (by decide) (by decide)]; exact d4, by rw [e2 33 (by decide) (by decide)]; exact d5, by rw [c32]; exact d6⟩, by rw [c32]; exact hm.2.2⟩, fun k => ?_, fun v hv => ?_, ?_, ?_⟩
  · unfold RM; rw [gm, c32, c80]
  · rw [zup_fn (by decide), zup_fn (by decide)]; exact z1 v hv
  · rw [zup_at, if_neg (by decide), zup_at, if_pos rfl]
  · rw [zup_at, if_pos rfl]

set_option maxRecDepth 100000 in
theorem c6_tellVerdicts {E : zE} {h : zH} {n jn : Nat} {y : Int} (d k : Nat) (hd : 9 ≤ d) (hm : mInv h n jn) (hy : 0 ≤ y ∧ y ≤ 60) : zCal E mX6_tellVerdicts d k [zrv E 64, ziv y] h (fun r h' => r = none ∧ told1 h n jn y.toNat h') (fun _ _ => False) := by
  refine zCal_of (by decide) (Nat.le_of_ble_eq_true rfl) (fun a => ?_)
  show zV _ 0 0 [zrv E 64, ziv y, .null, .null, .null] [] _
  refine zV_iconst dX6_tellVerdicts_0 ?_
  refine zV_istore_n dX6_tellVerdicts_1 rfl (Nat.le_of_ble_eq_true rfl) rfl ?_
  have L2 : ∀ (m : Nat) (s : Nat) (h1 : zH), (6 ≤ s + m) → (s ≤ 5) → (∀ c2 : Nat, c2 ≠ 88 → h1 c2 = h c2) → (∀ i, i < s → h1 88 i = 0) → zV (E, mX6_tellVerdicts, d, k, (fun r h' => r = none ∧ told1 h n jn y.toNat h'), (fun _ _ => False), a) 0 2 [zrv E 64, ziv y, ziv (s : Int), .null, .null] [] h1 := by
    intro m
    induction m with
    | zero => intro s h1 hm_ hs f1 z1; exfalso; omega
    | succ m ih =>
      intro s h1 hm_ hs f1 z1
      refine zV_iload_n dX6_tellVerdicts_2 rfl rfl ?_
      refine zV_iconst dX6_tellVerdicts_3 ?_
      refine zR_icmp_ge (tgt := 20) dX6_tellVerdicts_4 (by decide) (by omega) (by omega) (fun h4 => ?_) (fun h4 => ?_)
      · refine zV_aload_nr dX6_tellVerdicts_20 rfl rfl ?_
        refine zV_iconst dX6_tellVerdicts_21 ?_
        refine pf6_421 rfl (rfl) dX6_tellVerdicts_22 ?_
        refine zV_aload_nr dX6_tellVerdicts_25 rfl rfl ?_
        refine zV_iconst dX6_tellVerdicts_26 ?_
        refine pf6_424 rfl (rfl) dX6_tellVerdicts_27 ?_
        refine zV_iconst dX6_tellVerdicts_30 ?_
        refine zV_istore_n dX6_tellVerdicts_31 rfl (Nat.le_of_ble_eq_true rfl) rfl ?_
        refine zV_iconst dX6_tellVerdicts_32 ?_
        refine zV_istore_n dX6_tellVerdicts_33 rfl (Nat.le_of_ble_eq_true rfl) rfl ?_
        obtain ⟨h0, hh0⟩ : ∃ h0, h0 = zup (zup h1 64 43 0) 64 44 0 := ⟨_, rfl⟩
        rw [← hh0]
        obtain ⟨q0, i0, r0, zz, zl, zc⟩ := tell_0 hm f1 (fun i hi => z1 i (by omega)) hh0
        clear hh0 f1 z1
        clear h1
        refine zV_aload_nr dX6_tellVerdicts_34 rfl rfl ?_
        refine zV_aload_nr dX6_tellVerdicts_35 rfl rfl ?_
        refine gf6_103 rfl (rfl) dX6_tellVerdicts_36 ?_
        refine zV_teq (w := zrv E 87) rfl ?_
        refine zV_iconst dX6_tellVerdicts_39 ?_
        refine zV_callV (As := [zrv E 87, ziv ((0 : Nat) : Int)]) lk6_372 (rfl) rfl rfl (c6_pack (c := 87) (N := 27) (f := 0) (d - 1) 0 zsh87 (by decide) scr87 (by decide)) ⟨by show _ + 1 ≤ d; omega, by show _ ≤ k; omega⟩ rfl (Nat.le_of_ble_eq_true rfl) dX6_tellVerdicts_40 (fun _ _ z => z.elim) (fun r h1 q => ?_)
        obtain ⟨rfl, pk⟩ := q
        obtain ⟨i1, rr1, ru0, e80, e64, e81, e74, e68⟩ := pk_inv i0 pk
        refine zV_iconst dX6_tellVerdicts_43 ?_
        refine zV_istore dX6_tellVerdicts_44 (Nat.le_of_ble_eq_true rfl) rfl ?_
        have L46 : ∀ (m3 : Nat) (s : Nat) (h2 : zH), (61 ≤ s + m3) → ((s : Int) ≤ y) → (mrun h1 n jn s h2) → (tellI h n jn s h2) → zV (E, mX6_tellVerdicts, d, k, (fun r h' => r = none ∧ told1 h n jn y.toNat h'), (fun _ _ => False), a) 0 46 [zrv E 64, ziv y, ziv (strS (LT h n jn) s).2, ziv (if s = 0 then -1 else LT h n jn s), ziv (s : Int)] [] h2 := by
          intro m3
          induction m3 with
          | zero => intro s h2 hm_ hs ru ti; exfalso; omega
          | succ m3 ih3 =>
            intro s h2 hm_ hs ru ti
            obtain ⟨t1, t2, t3⟩ := id ti
            refine zV_iload dX6_tellVerdicts_46 rfl ?_
            refine zV_iload_n dX6_tellVerdicts_48 rfl rfl ?_
            refine zR_icmp_ge (tgt := 123) dX6_tellVerdicts_49 (by decide) (by omega) (by omega) (fun h49 => ?_) (fun h49 => ?_)
            · refine zV_aload_nr dX6_tellVerdicts_123 rfl rfl ?_
              refine zV_aload_nr dX6_tellVerdicts_124 rfl rfl ?_
              refine gf6_103 rfl (rfl) dX6_tellVerdicts_125 ?_
              refine zV_teq (w := zrv E 87) rfl ?_
              refine zV_iconst dX6_tellVerdicts_128 ?_
              refine zV_callV (As := [zrv E 87, ziv ((0 : Nat) : Int)]) lk6_376 (rfl) rfl rfl (c6_unpack (c := 87) (N := 27) (f := 0) (d - 1) 0 zsh87 (by decide) scr87 (by decide)) ⟨by show _ + 1 ≤ d; omega, by show _ ≤ k; omega⟩ rfl (Nat.le_of_ble_eq_true rfl) dX6_tellVerdicts_129 (fun _ _ z => z.elim) (fun r h4 q => ?_)
              obtain ⟨rfl, up⟩ := q
              exact zV_vreturn dX6_tellVerdicts_132 rfl (Nat.zero_le _) ⟨rfl, mq_trans q0.1 (mq_run (Or.inl rfl) pk ru.1 up), (mq_run4 (Or.inl rfl) pk ru.1 up).trans q0.2, by
                  rw [show y.toNat = s by omega]
                  exact ⟨fun v hv => by rw [up.1 88 (by decide) (by decide) (by decide) (by decide)]; exact t1 v hv, by rw [up.2.1 43 (by decide) (by decide) (by decide)]; exact t2, by rw [up.2.1 44 (by decide) (by decide) (by decide)]; exact t3⟩⟩
            · refine zV_aload_nr dX6_tellVerdicts_52 rfl rfl ?_
              refine zV_callV (As := []) lk6_369 (rfl) rfl rfl (c6_aCase (n := n) (jn := jn) (d - 1) 0 (by omega) ru.2.2.2.2.2 ru.2.2.2.2.1) ⟨by show _ + 1 ≤ d; omega, by show _ ≤ k; omega⟩ rfl (Nat.le_of_ble_eq_true rfl) dX6_tellVerdicts_53 (fun _ _ z => z.elim) (fun r h3 q => ?_)
              obtain ⟨rfl, q⟩ := q
              have ru3 := mrun_s i1.1 (by have := i1.2.2; omega) ru q
              have lt3 := (ru3.2.2.1 (by omega)).1
              rw [rr1, r0] at lt3
              have lo3 := (RM_lo hm (s + 1)).2 (by omega)
              obtain ⟨v, hv9⟩ : ∃ v : Nat, LT h n jn (s + 1) = (v : Int) := ⟨(LT h n jn (s + 1)).toNat, by unfold LT; omega⟩
              have lt4 : h3 64 34 = (v : Int) := lt3.trans hv9
              have hv5 : v < 5 := by unfold LT at hv9; omega
              have of9 := oftS_lo (fun k => (RM h n jn k).2.1) (v : Int) s
              have st9 := strS_lo (LT h n jn) s
              refine zV_aload_nr dX6_tellVerdicts_56 rfl rfl ?_
              refine gf6_106 rfl (rfl) dX6_tellVerdicts_57 ?_
              refine zV_teq (w := zrv E 88) rfl ?_
              refine zV_aload_nr dX6_tellVerdicts_60 rfl rfl ?_
              refine gf6_154 rfl rfl dX6_tellVerdicts_61 ?_
              rw [lt4]
              refine zV_dup2 dX6_tellVerdicts_64 rfl rfl ?_
              refine zV_ialoadN (i := v) (N := 5) (rfl) (by omega) (by decide) dX6_tellVerdicts_65 ?_
              rw [q.1.1 88 (by decide) (by decide) (by decide) (by decide) (by decide), t1 v hv5]
              refine zV_iconst dX6_tellVerdicts_66 ?_
              refine zV_iadd dX6_tellVerdicts_67 ?_
              refine zV_iastoreN (i := v) (N := 5) (rfl) (by omega) (by decide) dX6_tellVerdicts_68 ?_
              refine zV_aload_nr dX6_tellVerdicts_69 rfl rfl ?_
              refine zV_dup dX6_tellVerdicts_70 rfl ?_
              refine gf6_424 rfl rfl dX6_tellVerdicts_71 ?_
              refine zV_teq (w := ziv (cameS (LT h n jn) s)) (congrArg ziv (by rw [zup_fn (by decide), q.1.2 44 (by decide) (by decide) (by decide), t3])) ?_
              refine zV_iconst dX6_tellVerdicts_74 ?_
              refine zV_aload_nr dX6_tellVerdicts_75 rfl rfl ?_
              refine gf6_154 rfl rfl dX6_tellVerdicts_76 ?_
              refine zV_teq (w := ziv (LT h n jn (s + 1))) (congrArg ziv (by rw [zup_fn (by decide), lt4, hv9])) ?_
              refine zV_ishl dX6_tellVerdicts_79 ?_
              refine zV_ior dX6_tellVerdicts_80 ?_
              refine pf6_424 rfl (rfl) dX6_tellVerdicts_81 ?_
              obtain ⟨hX, hhX⟩ : ∃ hX, hX = zup (zup h3 88 v (oftS (LT h n jn) (v : Int) s + 1)) 64 44 (zor (cameS (LT h n jn) s) (zshl 1 (LT h n jn (s + 1)))) := ⟨_, rfl⟩
              refine zV_heq hhX ?_
              have x34 : hX 64 34 = LT h n jn (s + 1) := by rw [hhX, zup_at, if_neg (by decide), zup_fn (by decide), lt4, hv9]
              have x43 : hX 64 43 = (strS (LT h n jn) s).1 := by rw [hhX, zup_at, if_neg (by decide), zup_fn (by decide), q.1.2 43 (by decide) (by decide) (by decide)]; exact t2
              refine zV_aload_nr dX6_tellVerdicts_84 rfl rfl ?_
              refine gf6_154 rfl rfl dX6_tellVerdicts_85 ?_
              rw [x34]
              refine zV_iload_n dX6_tellVerdicts_88 rfl rfl ?_
              have J99 : ∀ (w : Int), (w = if LT h n jn (s + 1) = (if s = 0 then -1 else LT h n jn s) then (strS (LT h n jn) s).2 + 1 else 1) → zV (E, mX6_tellVerdicts, d, k, (fun r h' => r = none ∧ told1 h n jn y.toNat h'), (fun _ _ => False), a) 0 99 [zrv E 64, ziv y, ziv (strS (LT h n jn) s).2, ziv (if s = 0 then -1 else LT h n jn s), ziv (s : Int)] [ziv w] hX := by
                intro w hw9
                refine zV_istore_n dX6_tellVerdicts_99 rfl (Nat.le_of_ble_eq_true rfl) rfl ?_
                refine zV_aload_nr dX6_tellVerdicts_100 rfl rfl ?_
                refine gf6_154 rfl rfl dX6_tellVerdicts_101 ?_
                rw [x34]
                refine zV_istore_n dX6_tellVerdicts_104 rfl (Nat.le_of_ble_eq_true rfl) rfl ?_
                refine zV_aload_nr dX6_tellVerdicts_105 rfl rfl ?_
                refine zV_aload_nr dX6_tellVerdicts_106 rfl rfl ?_
                refine gf6_421 rfl rfl dX6_tellVerdicts_107 ?_
                rw [x43]
                refine zV_iload_n dX6_tellVerdicts_110 rfl rfl ?_
                refine zV_callS (As := [ziv (strS (LT h n jn) s).1, ziv w]) lk6_354 (cJ_max (d - 1) 0 (by omega) (by omega)) ⟨by show _ + 1 ≤ d; omega, by show _ ≤ k; omega⟩ rfl (Nat.le_of_ble_eq_true rfl) dX6_tellVerdicts_111 (fun _ _ z => z.elim) (fun r h9 q => ?_)
                obtain ⟨rfl, hh⟩ := q
                rw [hh]
                clear hh
                refine pf6_421 rfl (rfl) dX6_tellVerdicts_114 ?_
                refine zV_iinc dX6_tellVerdicts_117 rfl (Nat.le_of_ble_eq_true rfl) rfl ?_
                refine zV_goto (tgt := 46) dX6_tellVerdicts_120 (by decide) ?_
                refine zV_lveq (lv' := [zrv E 64, ziv y, ziv (strS (LT h n jn) (s + 1)).2, ziv (if s + 1 = 0 then -1 else LT h n jn (s + 1)), ziv ((s : Int) + 1)]) (by rw [if_neg (show ¬ s + 1 = 0 by omega), hw9]; rfl) ?_
                refine ih3 (s + 1) _ (by omega) (by omega) (mrun_w ru3 (fun c2 a b c d => by rw [zup_fn a, hhX, zup_fn a, zup_fn b]) (fun j a b => by rw [zup_at, if_neg a, hhX, zup_at, if_neg b, zup_fn (by decide)])) ⟨fun u hu => ?_, ?_, ?_⟩
                · rw [zup_fn (by decide), hhX, zup_fn (by decide), zup_at, q.1.1 88 (by decide) (by decide) (by decide) (by decide) (by decide), t1 u hu]
                  show _ = if LT h n jn (s + 1) = (u : Int) then _ else _
                  rw [hv9]
                  by_cases e : u = v
                  · rw [if_pos e, if_pos (by omega), e]
                  · rw [if_neg e, if_neg (by omega)]
                · rw [zup_at, if_pos rfl, hw9]; rfl
                · rw [zup_at, if_neg (by decide), hhX, zup_at, if_pos rfl]; rfl
              refine zR_icmp_ne (tgt := 98) dX6_tellVerdicts_89 (by decide) (by unfold LT; omega) (by unfold LT; have := (RM_lo hm s).2; split <;> omega) (fun h89 => ?_) (fun h89 => ?_)
              · refine zV_iconst dX6_tellVerdicts_98 ?_
                exact J99 1 (by rw [if_neg h89])
              · refine zV_iload_n dX6_tellVerdicts_92 rfl rfl ?_
                refine zV_iconst dX6_tellVerdicts_93 ?_
                refine zV_iadd dX6_tellVerdicts_94 ?_
                refine zV_goto (tgt := 99) dX6_tellVerdicts_95 (by decide) ?_
                exact J99 _ (by rw [if_pos h89])
        exact L46 61 0 h1 (by omega) (by omega) ru0 ⟨fun v hv => by rw [pk.1 88 (by decide)]; exact zz v hv, by rw [e64]; exact zl, by rw [e64]; exact zc⟩
      · refine zV_aload_nr dX6_tellVerdicts_7 rfl rfl ?_
        refine gf6_106 rfl (rfl) dX6_tellVerdicts_8 ?_
        refine zV_teq (w := zrv E 88) rfl ?_
        refine zV_iload_n dX6_tellVerdicts_11 rfl rfl ?_
        refine zV_iconst dX6_tellVerdicts_12 ?_
        refine zV_iastoreN (i := s) (N := 5) (rfl) (by omega) (by decide) dX6_tellVerdicts_13 ?_
        refine zV_iinc dX6_tellVerdicts_14 rfl (Nat.le_of_ble_eq_true rfl) rfl ?_
        refine zV_goto (tgt := 2) dX6_tellVerdicts_17 (by decide) ?_
        exact ih (s + 1) _ (by omega) (by omega) (fun c2 e => by rw [zup_fn e]; exact f1 c2 e) (fun i hi => by rw [zup_at]; split; rfl; exact z1 i (by omega))
  exact L2 6 0 h (by omega) (by omega) (fun _ _ => rfl) (fun i hi => absurd hi (Nat.not_lt_zero i))
set_option maxRecDepth 100000 in
theorem c6_often {E : zE} {h : zH} {n jn : Nat} {x y : Int} (hx : -2147483648 ≤ x ∧ x ≤ 2147483647) (hy : -2147483648 ≤ y ∧ y ≤ 2147483647) (hm : mInv h n jn) : zCal E mX6_often 12 4 [zrv E 64, ziv x, ziv y] h (mA h (if 0 ≤ x ∧ x < 5 then (if 0 ≤ y ∧ y ≤ 60 then 0 else 2) else 1) (oftS (LT h n jn) x y.toNat)) (fun _ _ => False) := by
  refine zCal_of (by decide) (Nat.le_of_ble_eq_true rfl) (fun a => ?_)
  show zV _ 0 0 [zrv E 64, ziv x, ziv y] [] _
  refine zV_aload_nr dX6_often_0 rfl rfl ?_
  refine zV_iconst dX6_often_1 ?_
  refine pf6_157 rfl (rfl) dX6_often_2 ?_
  obtain ⟨h0, hh0, q0, z0, i0, e0, e4, r0, g0⟩ := st0 hm
  rw [hh0]
  refine zV_iload_n dX6_often_5 rfl rfl ?_
  refine zV_callS (As := [ziv x]) lk6_427 (c6_isVerdict 11 0 (by decide) hx) ⟨by show _ + 1 ≤ 12; omega, by show _ ≤ 4; omega⟩ rfl (Nat.le_of_ble_eq_true rfl) dX6_often_6 (fun _ _ z => z.elim) (fun r h9 q => ?_)
  obtain ⟨rfl, hh⟩ := q
  rw [hh]
  clear hh
  refine zR_if_ne (tgt := 18) dX6_often_9 (by decide) (by split <;> omega) (fun h9 => ?_) (fun h9 => ?_)
  · have y9 := ipT h9
    refine zV_iload_n dX6_often_18 rfl rfl ?_
    refine zV_i2l dX6_often_19 (by omega) ?_
    refine zV_lconst dX6_often_20 ?_
    refine zV_ldc2 (v := 60) kl6_419 dX6_often_21 ?_
    refine zV_callS (As := [zlv y, zlv ((0 : Nat) : Int), zlv 60]) lk6_160 (c6_isIn 11 0 (by omega) (by omega) (by omega)) ⟨by show _ + 1 ≤ 12; omega, by show _ ≤ 4; omega⟩ rfl (Nat.le_of_ble_eq_true rfl) dX6_often_24 (fun _ _ z => z.elim) (fun r h9 q => ?_)
    obtain ⟨rfl, hh⟩ := q
    rw [hh]
    clear hh
    refine zR_if_ne (tgt := 36) dX6_often_27 (by decide) (by split <;> omega) (fun h27 => ?_) (fun h27 => ?_)
    · have y27 := ipT h27
      refine zV_aload_nr dX6_often_36 rfl rfl ?_
      refine zV_iload_n dX6_often_37 rfl rfl ?_
      refine zV_callV (As := [ziv y]) lk6_430 (rfl) rfl rfl (c6_tellVerdicts (n := n) (jn := jn) 11 0 (by decide) i0 (by omega)) ⟨by show _ + 1 ≤ 12; omega, by show _ ≤ 4; omega⟩ rfl (Nat.le_of_ble_eq_true rfl) dX6_often_38 (fun _ _ z => z.elim) (fun r h4 q => ?_)
      obtain ⟨rfl, mq0, z40, ti⟩ := q
      have mq4 := mq_trans q0 mq0
      have z4 := z40.trans z0
      have lt0 : LT h0 n jn = LT h n jn := by funext k; unfold LT; rw [r0]
      obtain ⟨t1, t2, t3⟩ := ti
      rw [lt0] at t1 t2 t3
      refine zV_aload_nr dX6_often_41 rfl rfl ?_
      refine gf6_106 rfl (rfl) dX6_often_42 ?_
      refine zV_teq (w := zrv E 88) rfl ?_
      refine zV_iload_n dX6_often_45 rfl rfl ?_
      refine zV_iaload (N := 5) (rfl) (by omega) (by decide) dX6_often_46 ?_
      rw [t1 x.toNat (by omega), show ((x.toNat : Nat) : Int) = x by omega]
      exact zV_ireturn dX6_often_47 rfl (Nat.zero_le _) (mA_ok mq4 z4 (by rw [if_pos (by omega), if_pos (by omega)]) rfl)
    · have n27 := ipF h27
      refine zV_aload_nr dX6_often_30 rfl rfl ?_
      refine zV_iconst dX6_often_31 ?_
      refine zV_callV (As := [ziv 2]) lk6_300 (rfl) rfl rfl (c6_fail 11 0) ⟨by show _ + 1 ≤ 12; omega, by show _ ≤ 4; omega⟩ rfl (Nat.le_of_ble_eq_true rfl) dX6_often_32 (fun _ _ z => z.elim) (fun r h9 q => ?_)
      obtain ⟨rfl, hh⟩ := q
      rw [hh]
      clear hh
      exact zV_ireturn dX6_often_35 rfl (Nat.zero_le _) (mA_f q0 (by decide) (by rw [if_pos (by omega), if_neg (by omega)]))
  · have n9 := ipF h9
    refine zV_aload_nr dX6_often_12 rfl rfl ?_
    refine zV_iconst dX6_often_13 ?_
    refine zV_callV (As := [ziv 1]) lk6_300 (rfl) rfl rfl (c6_fail 11 0) ⟨by show _ + 1 ≤ 12; omega, by show _ ≤ 4; omega⟩ rfl (Nat.le_of_ble_eq_true rfl) dX6_often_14 (fun _ _ z => z.elim) (fun r h9 q => ?_)
    obtain ⟨rfl, hh⟩ := q
    rw [hh]
    clear hh
    exact zV_ireturn dX6_often_17 rfl (Nat.zero_le _) (mA_f q0 (by decide) (by rw [if_neg (by omega)]))
set_option maxRecDepth 100000 in
theorem c6_streak {E : zE} {h : zH} {n jn : Nat} {y : Int} (hy : -2147483648 ≤ y ∧ y ≤ 2147483647) (hm : mInv h n jn) : zCal E mX6_streak 12 4 [zrv E 64, ziv y] h (mA h (if 1 ≤ y ∧ y ≤ 60 then 0 else 1) ((strS (LT h n jn) y.toNat).1)) (fun _ _ => False) := by
  refine zCal_of (by decide) (Nat.le_of_ble_eq_true rfl) (fun a => ?_)
  show zV _ 0 0 [zrv E 64, ziv y] [] _
  refine zV_aload_nr dX6_streak_0 rfl rfl ?_
  refine zV_iconst dX6_streak_1 ?_
  refine pf6_157 rfl (rfl) dX6_streak_2 ?_
  obtain ⟨h0, hh0, q0, z0, i0, e0, e4, r0, g0⟩ := st0 hm
  rw [hh0]
  refine zV_iload_n dX6_streak_5 rfl rfl ?_
  refine zV_i2l dX6_streak_6 (by omega) ?_
  refine zV_lconst dX6_streak_7 ?_
  refine zV_ldc2 (v := 60) kl6_419 dX6_streak_8 ?_
  refine zV_callS (As := [zlv y, zlv ((1 : Nat) : Int), zlv 60]) lk6_160 (c6_isIn 11 0 (by omega) (by omega) (by omega)) ⟨by show _ + 1 ≤ 12; omega, by show _ ≤ 4; omega⟩ rfl (Nat.le_of_ble_eq_true rfl) dX6_streak_11 (fun _ _ z => z.elim) (fun r h9 q => ?_)
  obtain ⟨rfl, hh⟩ := q
  rw [hh]
  clear hh
  refine zR_if_ne (tgt := 23) dX6_streak_14 (by decide) (by split <;> omega) (fun h14 => ?_) (fun h14 => ?_)
  · have y14 := ipT h14
    refine zV_aload_nr dX6_streak_23 rfl rfl ?_
    refine zV_iload_n dX6_streak_24 rfl rfl ?_
    refine zV_callV (As := [ziv y]) lk6_430 (rfl) rfl rfl (c6_tellVerdicts (n := n) (jn := jn) 11 0 (by decide) i0 (by omega)) ⟨by show _ + 1 ≤ 12; omega, by show _ ≤ 4; omega⟩ rfl (Nat.le_of_ble_eq_true rfl) dX6_streak_25 (fun _ _ z => z.elim) (fun r h4 q => ?_)
    obtain ⟨rfl, mq0, z40, ti⟩ := q
    have mq4 := mq_trans q0 mq0
    have z4 := z40.trans z0
    have lt0 : LT h0 n jn = LT h n jn := by funext k; unfold LT; rw [r0]
    obtain ⟨t1, t2, t3⟩ := ti
    rw [lt0] at t1 t2 t3
    refine zV_aload_nr dX6_streak_28 rfl rfl ?_
    refine gf6_421 rfl rfl dX6_streak_29 ?_
    rw [t2]
    exact zV_ireturn dX6_streak_32 rfl (Nat.zero_le _) (mA_ok mq4 z4 (by rw [if_pos (by omega)]) rfl)
  · have n14 := ipF h14
    refine zV_aload_nr dX6_streak_17 rfl rfl ?_
    refine zV_iconst dX6_streak_18 ?_
    refine zV_callV (As := [ziv 1]) lk6_300 (rfl) rfl rfl (c6_fail 11 0) ⟨by show _ + 1 ≤ 12; omega, by show _ ≤ 4; omega⟩ rfl (Nat.le_of_ble_eq_true rfl) dX6_streak_19 (fun _ _ z => z.elim) (fun r h9 q => ?_)
    obtain ⟨rfl, hh⟩ := q
    rw [hh]
    clear hh
    exact zV_ireturn dX6_streak_22 rfl (Nat.zero_le _) (mA_f q0 (by decide) (by rw [if_neg (by omega)]))
set_option maxRecDepth 100000 in
theorem c6_come {E : zE} {h : zH} {n jn : Nat} {y : Int} (hy : -2147483648 ≤ y ∧ y ≤ 2147483647) (hm : mInv h n jn) : zCal E mX6_come 12 4 [zrv E 64, ziv y] h (mA h (if 0 ≤ y ∧ y ≤ 60 then 0 else 1) (cameS (LT h n jn) y.toNat)) (fun _ _ => False) := by
  refine zCal_of (by decide) (Nat.le_of_ble_eq_true rfl) (fun a => ?_)
  show zV _ 0 0 [zrv E 64, ziv y] [] _
  refine zV_aload_nr dX6_come_0 rfl rfl ?_
  refine zV_iconst dX6_come_1 ?_
  refine pf6_157 rfl (rfl) dX6_come_2 ?_
  obtain ⟨h0, hh0, q0, z0, i0, e0, e4, r0, g0⟩ := st0 hm
  rw [hh0]
  refine zV_iload_n dX6_come_5 rfl rfl ?_
  refine zV_i2l dX6_come_6 (by omega) ?_
  refine zV_lconst dX6_come_7 ?_
  refine zV_ldc2 (v := 60) kl6_419 dX6_come_8 ?_
  refine zV_callS (As := [zlv y, zlv ((0 : Nat) : Int), zlv 60]) lk6_160 (c6_isIn 11 0 (by omega) (by omega) (by omega)) ⟨by show _ + 1 ≤ 12; omega, by show _ ≤ 4; omega⟩ rfl (Nat.le_of_ble_eq_true rfl) dX6_come_11 (fun _ _ z => z.elim) (fun r h9 q => ?_)
  obtain ⟨rfl, hh⟩ := q
  rw [hh]
  clear hh
  refine zR_if_ne (tgt := 23) dX6_come_14 (by decide) (by split <;> omega) (fun h14 => ?_) (fun h14 => ?_)
  · have y14 := ipT h14
    refine zV_aload_nr dX6_come_23 rfl rfl ?_
    refine zV_iload_n dX6_come_24 rfl rfl ?_
    refine zV_callV (As := [ziv y]) lk6_430 (rfl) rfl rfl (c6_tellVerdicts (n := n) (jn := jn) 11 0 (by decide) i0 (by omega)) ⟨by show _ + 1 ≤ 12; omega, by show _ ≤ 4; omega⟩ rfl (Nat.le_of_ble_eq_true rfl) dX6_come_25 (fun _ _ z => z.elim) (fun r h4 q => ?_)
    obtain ⟨rfl, mq0, z40, ti⟩ := q
    have mq4 := mq_trans q0 mq0
    have z4 := z40.trans z0
    have lt0 : LT h0 n jn = LT h n jn := by funext k; unfold LT; rw [r0]
    obtain ⟨t1, t2, t3⟩ := ti
    rw [lt0] at t1 t2 t3
    refine zV_aload_nr dX6_come_28 rfl rfl ?_
    refine gf6_424 rfl rfl dX6_come_29 ?_
    rw [t3]
    exact zV_ireturn dX6_come_32 rfl (Nat.zero_le _) (mA_ok mq4 z4 (by rw [if_pos (by omega)]) rfl)
  · have n14 := ipF h14
    refine zV_aload_nr dX6_come_17 rfl rfl ?_
    refine zV_iconst dX6_come_18 ?_
    refine zV_callV (As := [ziv 1]) lk6_300 (rfl) rfl rfl (c6_fail 11 0) ⟨by show _ + 1 ≤ 12; omega, by show _ ≤ 4; omega⟩ rfl (Nat.le_of_ble_eq_true rfl) dX6_come_19 (fun _ _ z => z.elim) (fun r h9 q => ?_)
    obtain ⟨rfl, hh⟩ := q
    rw [hh]
    clear hh
    exact zV_ireturn dX6_come_22 rfl (Nat.zero_le _) (mA_f q0 (by decide) (by rw [if_neg (by omega)]))
