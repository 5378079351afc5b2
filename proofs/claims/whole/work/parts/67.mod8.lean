set_option maxRecDepth 100000 in
theorem c6_first {E : zE} {h : zH} {n jn : Nat} {x : Int} (hx : -2147483648 ≤ x ∧ x ≤ 2147483647) (hm : mInv h n jn) : zCal E mX6_first 12 4 [zrv E 64, ziv x] h (mA h (if 0 ≤ x ∧ x < 5 then 0 else 1) (fstB (fun k => decide (LT h n jn k = x)) 1 60)) (fun _ _ => False) := by
  refine zCal_of (by decide) (Nat.le_of_ble_eq_true rfl) (fun a => ?_)
  show zV _ 0 0 [zrv E 64, ziv x, .null, .null] [] _
  refine zV_aload_nr dX6_first_0 rfl rfl ?_
  refine zV_iconst dX6_first_1 ?_
  refine pf6_157 rfl (rfl) dX6_first_2 ?_
  obtain ⟨h0, hh0, q0, z0, i0, e0, e4, r0, g0⟩ := st0 hm
  rw [hh0]
  refine zV_iload_n dX6_first_5 rfl rfl ?_
  refine zV_callS (As := [ziv x]) lk6_427 (c6_isVerdict 11 0 (by decide) hx) ⟨by show _ + 1 ≤ 12; omega, by show _ ≤ 4; omega⟩ rfl (Nat.le_of_ble_eq_true rfl) dX6_first_6 (fun _ _ z => z.elim) (fun r h9 q => ?_)
  obtain ⟨rfl, hh⟩ := q
  rw [hh]
  clear hh
  refine zR_if_ne (tgt := 18) dX6_first_9 (by decide) (by split <;> omega) (fun h9 => ?_) (fun h9 => ?_)
  · have y9 := ipT h9
    refine zV_aload_nr dX6_first_18 rfl rfl ?_
    refine zV_aload_nr dX6_first_19 rfl rfl ?_
    refine gf6_103 rfl (rfl) dX6_first_20 ?_
    refine zV_teq (w := zrv E 87) rfl ?_
    refine zV_iconst dX6_first_23 ?_
    refine zV_callV (As := [zrv E 87, ziv ((0 : Nat) : Int)]) lk6_372 (rfl) rfl rfl (c6_pack (c := 87) (N := 27) (f := 0) 11 0 zsh87 (by decide) scr87 (by decide)) ⟨by show _ + 1 ≤ 12; omega, by show _ ≤ 4; omega⟩ rfl (Nat.le_of_ble_eq_true rfl) dX6_first_24 (fun _ _ z => z.elim) (fun r h1 q => ?_)
    obtain ⟨rfl, pk⟩ := q
    obtain ⟨i1, rr1, ru0, e80, e64, e81, e74, e68⟩ := pk_inv i0 pk
    refine zV_iconst dX6_first_27 ?_
    refine zV_istore_n dX6_first_28 rfl (Nat.le_of_ble_eq_true rfl) rfl ?_
    refine zV_iconst dX6_first_29 ?_
    refine zV_istore_n dX6_first_30 rfl (Nat.le_of_ble_eq_true rfl) rfl ?_
    have L31 : ∀ (m : Nat) (s : Nat) (b : Int) (h2 : zH), (62 ≤ s + m) → (1 ≤ s ∧ s ≤ 61) → (mrun h1 n jn (s - 1) h2) → ((b = -1 ∧ fstB (fun k => decide (LT h n jn k = x)) 1 60 = fstB (fun k => decide (LT h n jn k = x)) s (61 - s)) ∨ (0 < b ∧ b ≤ 60 ∧ fstB (fun k => decide (LT h n jn k = x)) 1 60 = b)) → zV (E, mX6_first, 12, 4, (mA h (if 0 ≤ x ∧ x < 5 then 0 else 1) (fstB (fun k => decide (LT h n jn k = x)) 1 60)), (fun _ _ => False), a) 0 31 [zrv E 64, ziv x, ziv b, ziv (s : Int)] [] h2 := by
      intro m
      induction m with
      | zero => intro s b h2 hm_ hs ru hb; exfalso; omega
      | succ m ih =>
        intro s b h2 hm_ hs ru hb
        refine zV_iload_n dX6_first_31 rfl rfl ?_
        refine zV_bipush dX6_first_32 (by decide) ?_
        refine zR_icmp_gt (tgt := 62) dX6_first_34 (by decide) (by omega) (by omega) (fun h34 => ?_) (fun h34 => ?_)
        · refine zV_aload_nr dX6_first_62 rfl rfl ?_
          refine zV_aload_nr dX6_first_63 rfl rfl ?_
          refine gf6_103 rfl (rfl) dX6_first_64 ?_
          refine zV_teq (w := zrv E 87) rfl ?_
          refine zV_iconst dX6_first_67 ?_
          refine zV_callV (As := [zrv E 87, ziv ((0 : Nat) : Int)]) lk6_376 (rfl) rfl rfl (c6_unpack (c := 87) (N := 27) (f := 0) 11 0 zsh87 (by decide) scr87 (by decide)) ⟨by show _ + 1 ≤ 12; omega, by show _ ≤ 4; omega⟩ rfl (Nat.le_of_ble_eq_true rfl) dX6_first_68 (fun _ _ z => z.elim) (fun r h4 q => ?_)
          obtain ⟨rfl, up⟩ := q
          have mq4 := mq_trans q0 (mq_run (Or.inl rfl) pk ru.1 up)
          have z4 := (mq_run4 (Or.inl rfl) pk ru.1 up).trans z0
          refine zV_iload_n dX6_first_71 rfl rfl ?_
          exact zV_ireturn dX6_first_72 rfl (Nat.zero_le _) (mA_ok mq4 z4 (by rw [if_pos (by omega)]) (by
              rcases hb with ⟨e1, e2⟩ | ⟨e1, e2, e3⟩
              · rw [e1, e2, show s = 61 by omega]; rfl
              · exact e3.symm))
        · refine zV_iload_n dX6_first_37 rfl rfl ?_
          refine zV_iconst dX6_first_38 ?_
          refine zR_icmp_ne (tgt := 62) dX6_first_39 (by decide) (by omega) (by omega) (fun h39 => ?_) (fun h39 => ?_)
          · refine zV_aload_nr dX6_first_62 rfl rfl ?_
            refine zV_aload_nr dX6_first_63 rfl rfl ?_
            refine gf6_103 rfl (rfl) dX6_first_64 ?_
            refine zV_teq (w := zrv E 87) rfl ?_
            refine zV_iconst dX6_first_67 ?_
            refine zV_callV (As := [zrv E 87, ziv ((0 : Nat) : Int)]) lk6_376 (rfl) rfl rfl (c6_unpack (c := 87) (N := 27) (f := 0) 11 0 zsh87 (by decide) scr87 (by decide)) ⟨by show _ + 1 ≤ 12; omega, by show _ ≤ 4; omega⟩ rfl (Nat.le_of_ble_eq_true rfl) dX6_first_68 (fun _ _ z => z.elim) (fun r h4 q => ?_)
            obtain ⟨rfl, up⟩ := q
            have mq4 := mq_trans q0 (mq_run (Or.inl rfl) pk ru.1 up)
            have z4 := (mq_run4 (Or.inl rfl) pk ru.1 up).trans z0
            refine zV_iload_n dX6_first_71 rfl rfl ?_
            exact zV_ireturn dX6_first_72 rfl (Nat.zero_le _) (mA_ok mq4 z4 (by rw [if_pos (by omega)]) (by
                rcases hb with ⟨e1, e2⟩ | ⟨e1, e2, e3⟩
                · omega
                · exact e3.symm))
          · refine zV_aload_nr dX6_first_42 rfl rfl ?_
            refine zV_callV (As := []) lk6_369 (rfl) rfl rfl (c6_aCase (n := n) (jn := jn) 11 0 (by decide) ru.2.2.2.2.2 ru.2.2.2.2.1) ⟨by show _ + 1 ≤ 12; omega, by show _ ≤ 4; omega⟩ rfl (Nat.le_of_ble_eq_true rfl) dX6_first_43 (fun _ _ z => z.elim) (fun r h3 q => ?_)
            obtain ⟨rfl, q⟩ := q
            have ru3 : mrun h1 n jn s h3 := by
              have := mrun_s i1.1 (by have := i1.2.2; omega) ru q
              rw [show s - 1 + 1 = s by omega] at this
              exact this
            have lt3 : h3 64 34 = LT h n jn s := by
              have := (ru3.2.2.1 (by omega)).1
              rw [rr1, r0] at this
              exact this
            refine zV_aload_nr dX6_first_46 rfl rfl ?_
            refine gf6_154 rfl rfl dX6_first_47 ?_
            refine zV_iload_n dX6_first_50 rfl rfl ?_
            refine zR_icmp_ne (tgt := 56) dX6_first_51 (by decide) (by rw [lt3]; have := (RM_lo hm s).2 (by omega); unfold LT; omega) hx (fun h51 => ?_) (fun h51 => ?_)
            · refine zV_iinc dX6_first_56 rfl (Nat.le_of_ble_eq_true rfl) rfl ?_
              refine zV_goto (tgt := 31) dX6_first_59 (by decide) ?_
              exact ih (s + 1) b h3 (by omega) (by omega) ru3 (by
                rcases hb with ⟨e1, e2⟩ | ⟨e1, e2, e3⟩
                · exact Or.inl ⟨e1, by rw [e2, show 61 - s = 61 - (s + 1) + 1 by omega, fstB_s, if_neg (fun z => h51 (by rw [lt3]; exact of_decide_eq_true z))]⟩
                · omega)
            · refine zV_iload_n dX6_first_54 rfl rfl ?_
              refine zV_istore_n dX6_first_55 rfl (Nat.le_of_ble_eq_true rfl) rfl ?_
              refine zV_iinc dX6_first_56 rfl (Nat.le_of_ble_eq_true rfl) rfl ?_
              refine zV_goto (tgt := 31) dX6_first_59 (by decide) ?_
              exact ih (s + 1) (s : Int) h3 (by omega) (by omega) ru3 (by
                rcases hb with ⟨e1, e2⟩ | ⟨e1, e2, e3⟩
                · exact Or.inr ⟨by omega, by omega, by rw [e2, show 61 - s = 61 - (s + 1) + 1 by omega, fstB_s, if_pos (decide_eq_true (by rw [← lt3]; exact h51))]⟩
                · omega)
    exact L31 61 1 (-1) h1 (by omega) (by omega) ru0 (Or.inl ⟨rfl, rfl⟩)
  · have n9 := ipF h9
    refine zV_aload_nr dX6_first_12 rfl rfl ?_
    refine zV_iconst dX6_first_13 ?_
    refine zV_callV (As := [ziv 1]) lk6_300 (rfl) rfl rfl (c6_fail 11 0) ⟨by show _ + 1 ≤ 12; omega, by show _ ≤ 4; omega⟩ rfl (Nat.le_of_ble_eq_true rfl) dX6_first_14 (fun _ _ z => z.elim) (fun r h9 q => ?_)
    obtain ⟨rfl, hh⟩ := q
    rw [hh]
    clear hh
    exact zV_ireturn dX6_first_17 rfl (Nat.zero_le _) (mA_f q0 (by decide) (by rw [if_neg (by omega)]))
set_option maxRecDepth 100000 in
theorem c6_round {E : zE} {h : zH} {n jn : Nat}  (hm : mInv h n jn) : zCal E mX6_round 12 4 [zrv E 64] h (mA h (0) (fstB (fun k => likeB (RM h n jn k).1 (h 80) n) 1 60)) (fun _ _ => False) := by
  refine zCal_of (by decide) (Nat.le_of_ble_eq_true rfl) (fun a => ?_)
  show zV _ 0 0 [zrv E 64, .null, .null, .null, .null] [] _
  refine zV_aload_nr dX6_round_0 rfl rfl ?_
  refine zV_iconst dX6_round_1 ?_
  refine pf6_157 rfl (rfl) dX6_round_2 ?_
  obtain ⟨h0, hh0, q0, z0, i0, e0, e4, r0, g0⟩ := st0 hm
  rw [hh0]
  refine zV_aload_nr dX6_round_5 rfl rfl ?_
  refine zV_aload_nr dX6_round_6 rfl rfl ?_
  refine gf6_103 rfl (rfl) dX6_round_7 ?_
  refine zV_teq (w := zrv E 87) rfl ?_
  refine zV_iconst dX6_round_10 ?_
  refine zV_callV (As := [zrv E 87, ziv ((0 : Nat) : Int)]) lk6_372 (rfl) rfl rfl (c6_pack (c := 87) (N := 27) (f := 0) 11 0 zsh87 (by decide) scr87 (by decide)) ⟨by show _ + 1 ≤ 12; omega, by show _ ≤ 4; omega⟩ rfl (Nat.le_of_ble_eq_true rfl) dX6_round_11 (fun _ _ z => z.elim) (fun r h1 q => ?_)
  obtain ⟨rfl, pk⟩ := q
  obtain ⟨i1, rr1, ru0, e80, e64, e81, e74, e68⟩ := pk_inv i0 pk
  refine zV_iconst dX6_round_14 ?_
  refine zV_istore_n dX6_round_15 rfl (Nat.le_of_ble_eq_true rfl) rfl ?_
  refine zV_iconst dX6_round_16 ?_
  refine zV_istore_n dX6_round_17 rfl (Nat.le_of_ble_eq_true rfl) rfl ?_
  have L18 : ∀ (m : Nat) (s : Nat) (b : Int) (h2 : zH), (62 ≤ s + m) → (1 ≤ s ∧ s ≤ 61) → (mrun h1 n jn (s - 1) h2) → ((b = -1 ∧ fstB (fun k => likeB (RM h n jn k).1 (h 80) n) 1 60 = fstB (fun k => likeB (RM h n jn k).1 (h 80) n) s (61 - s)) ∨ (0 < b ∧ b ≤ 60 ∧ fstB (fun k => likeB (RM h n jn k).1 (h 80) n) 1 60 = b)) → zV (E, mX6_round, 12, 4, (mA h (0) (fstB (fun k => likeB (RM h n jn k).1 (h 80) n) 1 60)), (fun _ _ => False), a) 0 18 [zrv E 64, ziv b, ziv (s : Int), .null, .null] [] h2 := by
    intro m
    induction m with
    | zero => intro s b h2 hm_ hs ru hb; exfalso; omega
    | succ m ih =>
      intro s b h2 hm_ hs ru hb
      refine zV_iload_n dX6_round_18 rfl rfl ?_
      refine zV_bipush dX6_round_19 (by decide) ?_
      refine zR_icmp_gt (tgt := 96) dX6_round_21 (by decide) (by omega) (by omega) (fun h21 => ?_) (fun h21 => ?_)
      · refine zV_aload_nr dX6_round_96 rfl rfl ?_
        refine zV_aload_nr dX6_round_97 rfl rfl ?_
        refine gf6_103 rfl (rfl) dX6_round_98 ?_
        refine zV_teq (w := zrv E 87) rfl ?_
        refine zV_iconst dX6_round_101 ?_
        refine zV_callV (As := [zrv E 87, ziv ((0 : Nat) : Int)]) lk6_376 (rfl) rfl rfl (c6_unpack (c := 87) (N := 27) (f := 0) 11 0 zsh87 (by decide) scr87 (by decide)) ⟨by show _ + 1 ≤ 12; omega, by show _ ≤ 4; omega⟩ rfl (Nat.le_of_ble_eq_true rfl) dX6_round_102 (fun _ _ z => z.elim) (fun r h4 q => ?_)
        obtain ⟨rfl, up⟩ := q
        have mq4 := mq_trans q0 (mq_run (Or.inl rfl) pk ru.1 up)
        have z4 := (mq_run4 (Or.inl rfl) pk ru.1 up).trans z0
        refine zV_iload_n dX6_round_105 rfl rfl ?_
        exact zV_ireturn dX6_round_106 rfl (Nat.zero_le _) (mA_ok mq4 z4 rfl (by
            rcases hb with ⟨e1, e2⟩ | ⟨e1, e2, e3⟩
            · rw [e1, e2, show s = 61 by omega]; rfl
            · exact e3.symm))
      · refine zV_iload_n dX6_round_24 rfl rfl ?_
        refine zV_iconst dX6_round_25 ?_
        refine zR_icmp_ne (tgt := 96) dX6_round_26 (by decide) (by omega) (by omega) (fun h26 => ?_) (fun h26 => ?_)
        · refine zV_aload_nr dX6_round_96 rfl rfl ?_
          refine zV_aload_nr dX6_round_97 rfl rfl ?_
          refine gf6_103 rfl (rfl) dX6_round_98 ?_
          refine zV_teq (w := zrv E 87) rfl ?_
          refine zV_iconst dX6_round_101 ?_
          refine zV_callV (As := [zrv E 87, ziv ((0 : Nat) : Int)]) lk6_376 (rfl) rfl rfl (c6_unpack (c := 87) (N := 27) (f := 0) 11 0 zsh87 (by decide) scr87 (by decide)) ⟨by show _ + 1 ≤ 12; omega, by show _ ≤ 4; omega⟩ rfl (Nat.le_of_ble_eq_true rfl) dX6_round_102 (fun _ _ z => z.elim) (fun r h4 q => ?_)
          obtain ⟨rfl, up⟩ := q
          have mq4 := mq_trans q0 (mq_run (Or.inl rfl) pk ru.1 up)
          have z4 := (mq_run4 (Or.inl rfl) pk ru.1 up).trans z0
          refine zV_iload_n dX6_round_105 rfl rfl ?_
          exact zV_ireturn dX6_round_106 rfl (Nat.zero_le _) (mA_ok mq4 z4 rfl (by
              rcases hb with ⟨e1, e2⟩ | ⟨e1, e2, e3⟩
              · omega
              · exact e3.symm))
        · refine zV_aload_nr dX6_round_29 rfl rfl ?_
          refine zV_callV (As := []) lk6_369 (rfl) rfl rfl (c6_aCase (n := n) (jn := jn) 11 0 (by decide) ru.2.2.2.2.2 ru.2.2.2.2.1) ⟨by show _ + 1 ≤ 12; omega, by show _ ≤ 4; omega⟩ rfl (Nat.le_of_ble_eq_true rfl) dX6_round_30 (fun _ _ z => z.elim) (fun r h3 q => ?_)
          obtain ⟨rfl, q⟩ := q
          have ru3 : mrun h1 n jn s h3 := by
            have := mrun_s i1.1 (by have := i1.2.2; omega) ru q
            rw [show s - 1 + 1 = s by omega] at this
            exact this
          have e680 : h3 68 = h1 68 := ru3.1.1 68 (by unfold kpc; omega)
          have e87 : ∀ l, l < 8 → h3 87 (3 + l) = h 80 l := fun l hl => by
            rw [ru3.1.1 87 (by unfold kpc; omega), pk.2 (3 + l), if_pos (by omega), show 3 + l - 0 = 3 + l by omega, rowF_l h0 hl, e0 80 (by decide)]
          have n8 := i0.1.1.1
          refine zV_iconst dX6_round_33 ?_
          refine zV_istore_n dX6_round_34 rfl (Nat.le_of_ble_eq_true rfl) rfl ?_
          refine zV_iconst dX6_round_35 ?_
          refine zV_istore dX6_round_36 (Nat.le_of_ble_eq_true rfl) rfl ?_
          have L38 : ∀ (m5 : Nat) (l : Nat) (w : Int), (n + 1 ≤ l + m5) → (l ≤ n) → (w = if likeB (h3 80) (h 80) l = true then 1 else 0) → zV (E, mX6_round, 12, 4, (mA h (0) (fstB (fun k => likeB (RM h n jn k).1 (h 80) n) 1 60)), (fun _ _ => False), a) 0 38 [zrv E 64, ziv b, ziv (s : Int), ziv w, ziv (l : Int)] [] h3 := by
            intro m5
            induction m5 with
            | zero => intro l w hm_ hl hw; exfalso; omega
            | succ m5 ih5 =>
              intro l w hm_ hl hw
              refine zV_iload dX6_round_38 rfl ?_
              refine zV_aload_nr dX6_round_40 rfl rfl ?_
              refine gf6_42 rfl (rfl) dX6_round_41 ?_
              refine zV_teq (w := zrv E 68) rfl ?_
              refine zV_iconst dX6_round_44 ?_
              refine zV_ialoadN (i := 0) (N := 10) (rfl) (by decide) (by decide) dX6_round_45 ?_
              refine zV_teq (w := ziv (n : Int)) (congrArg ziv (by rw [e680]; exact i1.1.1.2.2.1.symm)) ?_
              refine zR_icmp_ge (tgt := 84) dX6_round_46 (by decide) (by omega) (by omega) (fun h46 => ?_) (fun h46 => ?_)
              · refine zV_iload_n dX6_round_84 rfl rfl ?_
                refine zR_if_eq (tgt := 90) dX6_round_85 (by decide) (by rw [hw]; split <;> omega) (fun h85 => ?_) (fun h85 => ?_)
                · refine zV_iinc dX6_round_90 rfl (Nat.le_of_ble_eq_true rfl) rfl ?_
                  refine zV_goto (tgt := 18) dX6_round_93 (by decide) ?_
                  have lk : likeB (RM h n jn s).1 (h 80) n = likeB (h3 80) (h 80) l := by
                    have a3 := ru3.2.1
                    rw [rr1, r0] at a3
                    rw [show l = n by omega]
                    exact (likeB_congr n a3).symm
                  refine zV_drop 3 ?_
                  refine zV_drop 4 ?_
                  exact ih (s + 1) b h3 (by omega) (by omega) ru3 (by
                    rcases hb with ⟨e1, e2⟩ | ⟨e1, e2, e3⟩
                    · exact Or.inl ⟨e1, by rw [e2, show 61 - s = 61 - (s + 1) + 1 by omega, fstB_s, if_neg (by rw [lk]; exact ipF (hw ▸ h85))]⟩
                    · omega)
                · refine zV_iload_n dX6_round_88 rfl rfl ?_
                  refine zV_istore_n dX6_round_89 rfl (Nat.le_of_ble_eq_true rfl) rfl ?_
                  refine zV_iinc dX6_round_90 rfl (Nat.le_of_ble_eq_true rfl) rfl ?_
                  refine zV_goto (tgt := 18) dX6_round_93 (by decide) ?_
                  have lk : likeB (RM h n jn s).1 (h 80) n = likeB (h3 80) (h 80) l := by
                    have a3 := ru3.2.1
                    rw [rr1, r0] at a3
                    rw [show l = n by omega]
                    exact (likeB_congr n a3).symm
                  refine zV_drop 3 ?_
                  refine zV_drop 4 ?_
                  exact ih (s + 1) (s : Int) h3 (by omega) (by omega) ru3 (by
                    rcases hb with ⟨e1, e2⟩ | ⟨e1, e2, e3⟩
                    · exact Or.inr ⟨by omega, by omega, by rw [e2, show 61 - s = 61 - (s + 1) + 1 by omega, fstB_s, if_pos (by rw [lk]; exact ipT (hw ▸ h85))]⟩
                    · omega)
              · refine zV_iload_n dX6_round_49 rfl rfl ?_
                have J77 : ∀ (w2 : Int), (w2 = if likeB (h3 80) (h 80) (l + 1) = true then 1 else 0) → zV (E, mX6_round, 12, 4, (mA h (0) (fstB (fun k => likeB (RM h n jn k).1 (h 80) n) 1 60)), (fun _ _ => False), a) 0 77 [zrv E 64, ziv b, ziv (s : Int), ziv w, ziv (l : Int)] [ziv w2] h3 := by
                  intro w2 hw2
                  refine zV_istore_n dX6_round_77 rfl (Nat.le_of_ble_eq_true rfl) rfl ?_
                  refine zV_iinc dX6_round_78 rfl (Nat.le_of_ble_eq_true rfl) rfl ?_
                  refine zV_goto (tgt := 38) dX6_round_81 (by decide) ?_
                  exact ih5 (l + 1) w2 (by omega) (by omega) hw2
                refine zR_if_eq (tgt := 76) dX6_round_50 (by decide) (by rw [hw]; split <;> omega) (fun h50 => ?_) (fun h50 => ?_)
                · refine zV_iconst dX6_round_76 ?_
                  exact J77 0 (by rw [likeB_s]; rw [hw] at h50; have := ipF h50; rw [Bool.eq_false_iff.mpr this]; rfl)
                · refine zV_aload_nr dX6_round_53 rfl rfl ?_
                  refine gf6_82 rfl (rfl) dX6_round_54 ?_
                  refine zV_teq (w := zrv E 80) rfl ?_
                  refine zV_iload dX6_round_57 rfl ?_
                  refine zV_ialoadN (i := l) (N := 8) (rfl) (by omega) (by decide) dX6_round_59 ?_
                  have d3 := ru3.2.2.2.2.1.1 l (by omega)
                  have d0 := hm.2.1.1 l (by omega)
                  refine zV_aload_nr dX6_round_60 rfl rfl ?_
                  refine gf6_103 rfl (rfl) dX6_round_61 ?_
                  refine zV_teq (w := zrv E 87) rfl ?_
                  refine zV_iconst dX6_round_64 ?_
                  refine zV_iload dX6_round_65 rfl ?_
                  refine zV_iadd dX6_round_67 ?_
                  refine zV_teq (w := ziv ((3 + l : Nat) : Int)) (congrArg ziv (by omega)) ?_
                  refine zV_ialoadN (i := (3 + l)) (N := 27) (rfl) (by omega) (by decide) dX6_round_68 ?_
                  rw [e87 l (by omega)]
                  refine zR_icmp_ne (tgt := 76) dX6_round_69 (by decide) (by omega) (by omega) (fun h69 => ?_) (fun h69 => ?_)
                  · refine zV_iconst dX6_round_76 ?_
                    exact J77 0 (by rw [likeB_s, decide_eq_false h69, Bool.and_false]; rfl)
                  · refine zV_iconst dX6_round_72 ?_
                    refine zV_goto (tgt := 77) dX6_round_73 (by decide) ?_
                    exact J77 1 (by rw [likeB_s, decide_eq_true h69]; rw [hw] at h50; rw [ipT h50]; rfl)
          exact L38 (n + 1) 0 1 (by omega) (by omega) rfl
  exact L18 61 1 (-1) h1 (by omega) (by omega) ru0 (Or.inl ⟨rfl, rfl⟩)
set_option maxRecDepth 100000 in
theorem c6_pleased {E : zE} {h : zH} {n jn : Nat} {y : Int} (hy : -2147483648 ≤ y ∧ y ≤ 2147483647) (hm : mInv h n jn) : zCal E mX6_pleased 12 4 [zrv E 64, ziv y] h (mA h (if 1 ≤ y ∧ y ≤ 60 then 0 else 1) (argS (fun j => oftS (LT h n jn) (h 74 j) y.toNat) jn)) (fun _ _ => False) := by
  refine zCal_of (by decide) (Nat.le_of_ble_eq_true rfl) (fun a => ?_)
  show zV _ 0 0 [zrv E 64, ziv y, .null, .null] [] _
  refine zV_aload_nr dX6_pleased_0 rfl rfl ?_
  refine zV_iconst dX6_pleased_1 ?_
  refine pf6_157 rfl (rfl) dX6_pleased_2 ?_
  obtain ⟨h0, hh0, q0, z0, i0, e0, e4, r0, g0⟩ := st0 hm
  rw [hh0]
  refine zV_iload_n dX6_pleased_5 rfl rfl ?_
  refine zV_i2l dX6_pleased_6 (by omega) ?_
  refine zV_lconst dX6_pleased_7 ?_
  refine zV_ldc2 (v := 60) kl6_419 dX6_pleased_8 ?_
  refine zV_callS (As := [zlv y, zlv ((1 : Nat) : Int), zlv 60]) lk6_160 (c6_isIn 11 0 (by omega) (by omega) (by omega)) ⟨by show _ + 1 ≤ 12; omega, by show _ ≤ 4; omega⟩ rfl (Nat.le_of_ble_eq_true rfl) dX6_pleased_11 (fun _ _ z => z.elim) (fun r h9 q => ?_)
  obtain ⟨rfl, hh⟩ := q
  rw [hh]
  clear hh
  refine zR_if_ne (tgt := 23) dX6_pleased_14 (by decide) (by split <;> omega) (fun h14 => ?_) (fun h14 => ?_)
  · have y14 := ipT h14
    refine zV_aload_nr dX6_pleased_23 rfl rfl ?_
    refine zV_iload_n dX6_pleased_24 rfl rfl ?_
    refine zV_callV (As := [ziv y]) lk6_430 (rfl) rfl rfl (c6_tellVerdicts (n := n) (jn := jn) 11 0 (by decide) i0 (by omega)) ⟨by show _ + 1 ≤ 12; omega, by show _ ≤ 4; omega⟩ rfl (Nat.le_of_ble_eq_true rfl) dX6_pleased_25 (fun _ _ z => z.elim) (fun r h4 q => ?_)
    obtain ⟨rfl, mq0, z40, ti⟩ := q
    have mq4 := mq_trans q0 mq0
    have z4 := z40.trans z0
    have lt0 : LT h0 n jn = LT h n jn := by funext k; unfold LT; rw [r0]
    obtain ⟨t1, t2, t3⟩ := ti
    rw [lt0] at t1 t2 t3
    refine zV_iconst dX6_pleased_28 ?_
    refine zV_istore_n dX6_pleased_29 rfl (Nat.le_of_ble_eq_true rfl) rfl ?_
    refine zV_iconst dX6_pleased_30 ?_
    refine zV_istore_n dX6_pleased_31 rfl (Nat.le_of_ble_eq_true rfl) rfl ?_
    have L32 : ∀ (m : Nat) (s : Nat), (jn + 1 ≤ s + m) → (s ≤ jn) → zV (E, mX6_pleased, 12, 4, (mA h (if 1 ≤ y ∧ y ≤ 60 then 0 else 1) (argS (fun j => oftS (LT h n jn) (h 74 j) y.toNat) jn)), (fun _ _ => False), a) 0 32 [zrv E 64, ziv y, ziv (argS (fun j => oftS (LT h n jn) (h 74 j) y.toNat) s), ziv (s : Int)] [] h4 := by
      intro m
      induction m with
      | zero => intro s hm_ hs; exfalso; omega
      | succ m ih =>
        intro s hm_ hs
        have al := argS_lo (fun j => oftS (LT h n jn) (h 74 j) y.toNat) s
        have j8 := hm.1.1.2.1
        refine zV_iload_n dX6_pleased_32 rfl rfl ?_
        refine zV_aload_nr dX6_pleased_33 rfl rfl ?_
        refine gf6_42 rfl (rfl) dX6_pleased_34 ?_
        refine zV_teq (w := zrv E 68) rfl ?_
        refine zV_iconst dX6_pleased_37 ?_
        refine zV_ialoadN (i := 1) (N := 10) (rfl) (by decide) (by decide) dX6_pleased_38 ?_
        refine zV_teq (w := ziv (jn : Int)) (congrArg ziv (by rw [mq0.1 68 (by omega)]; exact i0.1.1.2.2.2.symm)) ?_
        refine zR_icmp_ge (tgt := 80) dX6_pleased_39 (by decide) (by omega) (by omega) (fun h39 => ?_) (fun h39 => ?_)
        · refine zV_iload_n dX6_pleased_80 rfl rfl ?_
          exact zV_ireturn dX6_pleased_81 rfl (Nat.zero_le _) (mA_ok mq4 z4 (by rw [if_pos (by omega)]) (by rw [show jn = s by omega]))
        · refine zV_iload_n dX6_pleased_42 rfl rfl ?_
          refine zV_iconst dX6_pleased_43 ?_
          refine zR_icmp_eq (tgt := 72) dX6_pleased_44 (by decide) (by omega) (by omega) (fun h44 => ?_) (fun h44 => ?_)
          · refine zV_iload_n dX6_pleased_72 rfl rfl ?_
            refine zV_istore_n dX6_pleased_73 rfl (Nat.le_of_ble_eq_true rfl) rfl ?_
            refine zV_iinc dX6_pleased_74 rfl (Nat.le_of_ble_eq_true rfl) rfl ?_
            refine zV_goto (tgt := 32) dX6_pleased_77 (by decide) ?_
            refine zV_lveq (lv' := [zrv E 64, ziv y, ziv (argS (fun j => oftS (LT h n jn) (h 74 j) y.toNat) (s + 1)), ziv ((s : Int) + 1)]) (by rw [argS_s, if_pos (Or.inl h44)]; rfl) ?_
            exact ih (s + 1) (by omega) (by omega)
          · obtain ⟨c, hc⟩ : ∃ c : Nat, argS (fun j => oftS (LT h n jn) (h 74 j) y.toNat) s = (c : Int) := ⟨(argS (fun j => oftS (LT h n jn) (h 74 j) y.toNat) s).toNat, by omega⟩
            have w1 := hm.1.2.2.2.1 s (by omega)
            have w2 := hm.1.2.2.2.1 c (by omega)
            obtain ⟨u, hu⟩ : ∃ u : Nat, h 74 s = (u : Int) := ⟨(h 74 s).toNat, by omega⟩
            obtain ⟨v, hv⟩ : ∃ v : Nat, h 74 c = (v : Int) := ⟨(h 74 c).toNat, by omega⟩
            have e74 : h4 74 = h 74 := (mq0.1 74 (by omega)).trans (e0 74 (by decide))
            refine zV_aload_nr dX6_pleased_47 rfl rfl ?_
            refine gf6_106 rfl (rfl) dX6_pleased_48 ?_
            refine zV_teq (w := zrv E 88) rfl ?_
            refine zV_aload_nr dX6_pleased_51 rfl rfl ?_
            refine gf6_61 rfl (rfl) dX6_pleased_52 ?_
            refine zV_teq (w := zrv E 74) rfl ?_
            refine zV_iload_n dX6_pleased_55 rfl rfl ?_
            refine zV_ialoadN (i := s) (N := 16) (rfl) (by omega) (by decide) dX6_pleased_56 ?_
            refine zV_teq (w := ziv (u : Int)) (congrArg ziv (by rw [e74, hu])) ?_
            refine zV_ialoadN (i := u) (N := 5) (rfl) (by omega) (by decide) dX6_pleased_57 ?_
            rw [t1 u (by omega)]
            have b1 := oftS_lo (LT h n jn) (u : Int) y.toNat
            refine zV_aload_nr dX6_pleased_58 rfl rfl ?_
            refine gf6_106 rfl (rfl) dX6_pleased_59 ?_
            refine zV_teq (w := zrv E 88) rfl ?_
            refine zV_aload_nr dX6_pleased_62 rfl rfl ?_
            refine gf6_61 rfl (rfl) dX6_pleased_63 ?_
            refine zV_teq (w := zrv E 74) rfl ?_
            refine zV_iload_n dX6_pleased_66 rfl rfl ?_
            refine zV_teq (w := ziv (c : Int)) (congrArg ziv hc.symm) ?_
            refine zV_ialoadN (i := c) (N := 16) (rfl) (by omega) (by decide) dX6_pleased_67 ?_
            refine zV_teq (w := ziv (v : Int)) (congrArg ziv (by rw [e74, hv])) ?_
            refine zV_ialoadN (i := v) (N := 5) (rfl) (by omega) (by decide) dX6_pleased_68 ?_
            rw [t1 v (by omega)]
            have b2 := oftS_lo (LT h n jn) (v : Int) y.toNat
            refine zR_icmp_le (tgt := 74) dX6_pleased_69 (by decide) (by omega) (by omega) (fun h69 => ?_) (fun h69 => ?_)
            · refine zV_iinc dX6_pleased_74 rfl (Nat.le_of_ble_eq_true rfl) rfl ?_
              refine zV_goto (tgt := 32) dX6_pleased_77 (by decide) ?_
              have cc : (argS (fun j => oftS (LT h n jn) (h 74 j) y.toNat) s).toNat = c := by omega
              refine zV_lveq (lv' := [zrv E 64, ziv y, ziv (argS (fun j => oftS (LT h n jn) (h 74 j) y.toNat) (s + 1)), ziv ((s : Int) + 1)]) (by rw [argS_s, if_neg (fun z => by rcases z with z | z; exact h44 z; rw [cc, hv, hu] at z; omega)]; rfl) ?_
              exact ih (s + 1) (by omega) (by omega)
            · refine zV_iload_n dX6_pleased_72 rfl rfl ?_
              refine zV_istore_n dX6_pleased_73 rfl (Nat.le_of_ble_eq_true rfl) rfl ?_
              refine zV_iinc dX6_pleased_74 rfl (Nat.le_of_ble_eq_true rfl) rfl ?_
              refine zV_goto (tgt := 32) dX6_pleased_77 (by decide) ?_
              have cc : (argS (fun j => oftS (LT h n jn) (h 74 j) y.toNat) s).toNat = c := by omega
              refine zV_lveq (lv' := [zrv E 64, ziv y, ziv (argS (fun j => oftS (LT h n jn) (h 74 j) y.toNat) (s + 1)), ziv ((s : Int) + 1)]) (by rw [argS_s, if_pos (Or.inr (by rw [cc, hv, hu]; omega))]; rfl) ?_
              exact ih (s + 1) (by omega) (by omega)
    exact L32 (jn + 1) 0 (by omega) (by omega)
  · have n14 := ipF h14
    refine zV_aload_nr dX6_pleased_17 rfl rfl ?_
    refine zV_iconst dX6_pleased_18 ?_
    refine zV_callV (As := [ziv 1]) lk6_300 (rfl) rfl rfl (c6_fail 11 0) ⟨by show _ + 1 ≤ 12; omega, by show _ ≤ 4; omega⟩ rfl (Nat.le_of_ble_eq_true rfl) dX6_pleased_19 (fun _ _ z => z.elim) (fun r h9 q => ?_)
    obtain ⟨rfl, hh⟩ := q
    rw [hh]
    clear hh
    exact zV_ireturn dX6_pleased_22 rfl (Nat.zero_le _) (mA_f q0 (by decide) (by rw [if_neg (by omega)]))
theorem zn_zor (x y : Int) : zn (zor x y) = zor x y := by
  unfold zor; exact zn_of (Int32.le_toInt _) (by have := Int32.toInt_lt (Int32.ofInt x ||| Int32.ofInt y); omega)
theorem zor_as (x y z : Int) : zor (zor x y) z = zor x (zor y z) := by
  unfold zor; rw [Int32.ofInt_toInt, Int32.ofInt_toInt, Int32.or_assoc]
theorem zor_zr (x : Int) : zor x 0 = zn x := by
  unfold zor zn; rw [show Int32.ofInt 0 = 0 from rfl, Int32.or_zero]
theorem bitsP_or {p : Nat → Int} {a : Int} (ha : zn a = a) : ∀ n, bitsP p n a = zor a (bitsP p n 0) := by
  intro n
  induction n with
  | zero => show a = zor a 0; rw [zor_zr, ha]
  | succ n ih => show zor (bitsP p n a) (zshl 1 (p n)) = zor a (zor (bitsP p n 0) (zshl 1 (p n))); rw [ih, zor_as]
theorem bitsP_zn {p : Nat → Int} : ∀ n, zn (bitsP p n 0) = bitsP p n 0 := by
  intro n
  cases n with
  | zero => rfl
  | succ n => exact zn_zor _ _
theorem swpS_zn {p : Nat → Nat → Int} {n : Nat} : ∀ k, zn (swpS p n k) = swpS p n k := by
  intro k
  cases k with
  | zero => exact bitsP_zn n
  | succ k => exact zn_zor _ _
/-- what is swept ahead of the s-th look -/
def swpA (p : Nat → Nat → Int) (n : Nat) : Nat → Int
  | 0 => 0
  | k + 1 => swpS p n k
theorem swpA_s (p : Nat → Nat → Int) (n k : Nat) : bitsP (p k) n (swpA p n k) = swpA p n (k + 1) := by
  cases k with
  | zero => rfl
  | succ k => show bitsP (p (k + 1)) n (swpS p n k) = zor (swpS p n k) (bitsP (p (k + 1)) n 0); exact bitsP_or (swpS_zn k) n

set_option maxRecDepth 100000 in
theorem c6_swept {E : zE} {h : zH} {n jn : Nat} {y : Int} (hy : -2147483648 ≤ y ∧ y ≤ 2147483647) (hm : mInv h n jn) : zCal E mX6_swept 12 4 [zrv E 64, ziv y] h (mA h (if 0 ≤ y ∧ y ≤ 60 then 0 else 1) (swpS (fun k => (RM h n jn k).1) n y.toNat)) (fun _ _ => False) := by
  refine zCal_of (by decide) (Nat.le_of_ble_eq_true rfl) (fun a => ?_)
  show zV _ 0 0 [zrv E 64, ziv y, .null, .null, .null] [] _
  refine zV_aload_nr dX6_swept_0 rfl rfl ?_
  refine zV_iconst dX6_swept_1 ?_
  refine pf6_157 rfl (rfl) dX6_swept_2 ?_
  obtain ⟨h0, hh0, q0, z0, i0, e0, e4, r0, g0⟩ := st0 hm
  rw [hh0]
  refine zV_iload_n dX6_swept_5 rfl rfl ?_
  refine zV_i2l dX6_swept_6 (by omega) ?_
  refine zV_lconst dX6_swept_7 ?_
  refine zV_ldc2 (v := 60) kl6_419 dX6_swept_8 ?_
  refine zV_callS (As := [zlv y, zlv ((0 : Nat) : Int), zlv 60]) lk6_160 (c6_isIn 11 0 (by omega) (by omega) (by omega)) ⟨by show _ + 1 ≤ 12; omega, by show _ ≤ 4; omega⟩ rfl (Nat.le_of_ble_eq_true rfl) dX6_swept_11 (fun _ _ z => z.elim) (fun r h9 q => ?_)
  obtain ⟨rfl, hh⟩ := q
  rw [hh]
  clear hh
  refine zR_if_ne (tgt := 23) dX6_swept_14 (by decide) (by split <;> omega) (fun h14 => ?_) (fun h14 => ?_)
  · have y14 := ipT h14
    refine zV_iconst dX6_swept_23 ?_
    refine zV_istore_n dX6_swept_24 rfl (Nat.le_of_ble_eq_true rfl) rfl ?_
    refine zV_aload_nr dX6_swept_25 rfl rfl ?_
    refine zV_aload_nr dX6_swept_26 rfl rfl ?_
    refine gf6_103 rfl (rfl) dX6_swept_27 ?_
    refine zV_teq (w := zrv E 87) rfl ?_
    refine zV_iconst dX6_swept_30 ?_
    refine zV_callV (As := [zrv E 87, ziv ((0 : Nat) : Int)]) lk6_372 (rfl) rfl rfl (c6_pack (c := 87) (N := 27) (f := 0) 11 0 zsh87 (by decide) scr87 (by decide)) ⟨by show _ + 1 ≤ 12; omega, by show _ ≤ 4; omega⟩ rfl (Nat.le_of_ble_eq_true rfl) dX6_swept_31 (fun _ _ z => z.elim) (fun r h1 q => ?_)
    obtain ⟨rfl, pk⟩ := q
    obtain ⟨i1, rr1, ru0, e80, e64, e81, e74, e68⟩ := pk_inv i0 pk
    refine zV_iconst dX6_swept_34 ?_
    refine zV_istore_n dX6_swept_35 rfl (Nat.le_of_ble_eq_true rfl) rfl ?_
    have L36 : ∀ (m : Nat) (s : Nat) (h2 : zH), (62 ≤ s + m) → ((s : Int) ≤ y + 1) → (mrun h1 n jn (s - 1) h2) → zV (E, mX6_swept, 12, 4, (mA h (if 0 ≤ y ∧ y ≤ 60 then 0 else 1) (swpS (fun k => (RM h n jn k).1) n y.toNat)), (fun _ _ => False), a) 0 36 [zrv E 64, ziv y, ziv (swpA (fun k => (RM h n jn k).1) n s), ziv (s : Int), .null] [] h2 := by
      intro m
      induction m with
      | zero => intro s h2 hm_ hs ru; exfalso; omega
      | succ m ih =>
        intro s h2 hm_ hs ru
        refine zV_iload_n dX6_swept_36 rfl rfl ?_
        refine zV_iload_n dX6_swept_37 rfl rfl ?_
        refine zR_icmp_gt (tgt := 87) dX6_swept_38 (by decide) (by omega) (by omega) (fun h38 => ?_) (fun h38 => ?_)
        · refine zV_aload_nr dX6_swept_87 rfl rfl ?_
          refine zV_aload_nr dX6_swept_88 rfl rfl ?_
          refine gf6_103 rfl (rfl) dX6_swept_89 ?_
          refine zV_teq (w := zrv E 87) rfl ?_
          refine zV_iconst dX6_swept_92 ?_
          refine zV_callV (As := [zrv E 87, ziv ((0 : Nat) : Int)]) lk6_376 (rfl) rfl rfl (c6_unpack (c := 87) (N := 27) (f := 0) 11 0 zsh87 (by decide) scr87 (by decide)) ⟨by show _ + 1 ≤ 12; omega, by show _ ≤ 4; omega⟩ rfl (Nat.le_of_ble_eq_true rfl) dX6_swept_93 (fun _ _ z => z.elim) (fun r h4 q => ?_)
          obtain ⟨rfl, up⟩ := q
          have mq4 := mq_trans q0 (mq_run (Or.inl rfl) pk ru.1 up)
          have z4 := (mq_run4 (Or.inl rfl) pk ru.1 up).trans z0
          refine zV_iload_n dX6_swept_96 rfl rfl ?_
          exact zV_ireturn dX6_swept_97 rfl (Nat.zero_le _) (mA_ok mq4 z4 (by rw [if_pos (by omega)]) (by rw [show s = y.toNat + 1 by omega]; rfl))
        · refine zV_iload_n dX6_swept_41 rfl rfl ?_
          have J49 : ∀ (h3 : zH), (mrun h1 n jn s h3) → zV (E, mX6_swept, 12, 4, (mA h (if 0 ≤ y ∧ y ≤ 60 then 0 else 1) (swpS (fun k => (RM h n jn k).1) n y.toNat)), (fun _ _ => False), a) 0 49 [zrv E 64, ziv y, ziv (swpA (fun k => (RM h n jn k).1) n s), ziv (s : Int), .null] [] h3 := by
            intro h3 ru3
            have n8 := i0.1.1.1
            have a3 := ru3.2.1
            rw [rr1, r0] at a3
            refine zV_iconst dX6_swept_49 ?_
            refine zV_istore dX6_swept_50 (Nat.le_of_ble_eq_true rfl) rfl ?_
            have L52 : ∀ (m5 : Nat) (l : Nat), (n + 1 ≤ l + m5) → (l ≤ n) → zV (E, mX6_swept, 12, 4, (mA h (if 0 ≤ y ∧ y ≤ 60 then 0 else 1) (swpS (fun k => (RM h n jn k).1) n y.toNat)), (fun _ _ => False), a) 0 52 [zrv E 64, ziv y, ziv (bitsP ((fun k => (RM h n jn k).1) s) l (swpA (fun k => (RM h n jn k).1) n s)), ziv (s : Int), ziv (l : Int)] [] h3 := by
              intro m5
              induction m5 with
              | zero => intro l hm_ hl; exfalso; omega
              | succ m5 ih5 =>
                intro l hm_ hl
                refine zV_iload dX6_swept_52 rfl ?_
                refine zV_aload_nr dX6_swept_54 rfl rfl ?_
                refine gf6_42 rfl (rfl) dX6_swept_55 ?_
                refine zV_teq (w := zrv E 68) rfl ?_
                refine zV_iconst dX6_swept_58 ?_
                refine zV_ialoadN (i := 0) (N := 10) (rfl) (by decide) (by decide) dX6_swept_59 ?_
                refine zV_teq (w := ziv (n : Int)) (congrArg ziv (ru3.2.2.2.2.2.1.2.2.1.symm)) ?_
                refine zR_icmp_ge (tgt := 81) dX6_swept_60 (by decide) (by omega) (by omega) (fun h60 => ?_) (fun h60 => ?_)
                · refine zV_iinc dX6_swept_81 rfl (Nat.le_of_ble_eq_true rfl) rfl ?_
                  refine zV_goto (tgt := 36) dX6_swept_84 (by decide) ?_
                  refine zV_drop 4 ?_
                  refine zV_lveq (lv' := [zrv E 64, ziv y, ziv (swpA (fun k => (RM h n jn k).1) n (s + 1)), ziv ((s : Int) + 1), .null]) (by rw [← swpA_s, show l = n by omega]; rfl) ?_
                  exact ih (s + 1) h3 (by omega) (by omega) ru3
                · refine zV_iload_n dX6_swept_63 rfl rfl ?_
                  refine zV_iconst dX6_swept_64 ?_
                  refine zV_aload_nr dX6_swept_65 rfl rfl ?_
                  refine gf6_82 rfl (rfl) dX6_swept_66 ?_
                  refine zV_teq (w := zrv E 80) rfl ?_
                  refine zV_iload dX6_swept_69 rfl ?_
                  refine zV_ialoadN (i := l) (N := 8) (rfl) (by omega) (by decide) dX6_swept_71 ?_
                  rw [a3 l (by omega)]
                  refine zV_ishl dX6_swept_72 ?_
                  refine zV_ior dX6_swept_73 ?_
                  refine zV_istore_n dX6_swept_74 rfl (Nat.le_of_ble_eq_true rfl) rfl ?_
                  refine zV_iinc dX6_swept_75 rfl (Nat.le_of_ble_eq_true rfl) rfl ?_
                  refine zV_goto (tgt := 52) dX6_swept_78 (by decide) ?_
                  exact ih5 (l + 1) (by omega) (by omega)
            exact L52 (n + 1) 0 (by omega) (by omega)
          refine zR_if_le (tgt := 49) dX6_swept_42 (by decide) (by omega) (fun h42 => ?_) (fun h42 => ?_)
          · exact J49 h2 (by rw [show s - 1 = s by omega] at ru; exact ru)
          · refine zV_aload_nr dX6_swept_45 rfl rfl ?_
            refine zV_callV (As := []) lk6_369 (rfl) rfl rfl (c6_aCase (n := n) (jn := jn) 11 0 (by decide) ru.2.2.2.2.2 ru.2.2.2.2.1) ⟨by show _ + 1 ≤ 12; omega, by show _ ≤ 4; omega⟩ rfl (Nat.le_of_ble_eq_true rfl) dX6_swept_46 (fun _ _ z => z.elim) (fun r h3 q => ?_)
            obtain ⟨rfl, q⟩ := q
            have ru3 : mrun h1 n jn s h3 := by
              have := mrun_s i1.1 (by have := i1.2.2; omega) ru q
              rw [show s - 1 + 1 = s by omega] at this
              exact this
            exact J49 h3 ru3
    exact L36 62 0 h1 (by omega) (by omega) ru0
  · have n14 := ipF h14
    refine zV_aload_nr dX6_swept_17 rfl rfl ?_
    refine zV_iconst dX6_swept_18 ?_
    refine zV_callV (As := [ziv 1]) lk6_300 (rfl) rfl rfl (c6_fail 11 0) ⟨by show _ + 1 ≤ 12; omega, by show _ ≤ 4; omega⟩ rfl (Nat.le_of_ble_eq_true rfl) dX6_swept_19 (fun _ _ z => z.elim) (fun r h9 q => ?_)
    obtain ⟨rfl, hh⟩ := q
    rw [hh]
    clear hh
    exact zV_ireturn dX6_swept_22 rfl (Nat.zero_le _) (mA_f q0 (by decide) (by rw [if_neg (by omega)]))
theorem mq_w {h h0 h1 : zH} {n jn : Nat} (hm : mInv h n jn) (q0 : mq h h0) (i0 : mInv h0 n jn) (r0 : ∀ k, RM h0 n jn k = RM h n jn k) (f1 : ∀ c2 : Nat, c2 ≠ 89 → h1 c2 = h0 c2) : mInv h1 n jn ∧ (∀ k, RM h1 n jn k = RM h n jn k) ∧ mq h h1 := by
  have fw : mFw h0 h1 := ⟨fun c2 p => by unfold kpc at p; exact f1 c2 (by omega), fun j p => by rw [f1 64 (by decide)]⟩
  obtain ⟨ct, gm⟩ := mFw_ct i0.1 fw
  have mq1 : mq h0 h1 := ⟨fun c2 hc => f1 c2 (by omega), fun c2 hc => by rw [f1 c2 (by omega)]; exact agn_rfl _ _, fun j hj => by rw [f1 64 (by decide)]⟩
  exact ⟨⟨ct, (mq_inv mq1 i0.1 i0.2.1).2.1, by rw [f1 64 (by decide)]; exact i0.2.2⟩, fun k => by rw [← r0]; unfold RM; rw [gm, f1 64 (by decide), f1 80 (by decide)], mq_trans q0 mq1⟩
theorem zV_gen {C : zC} {n pc : Nat} {lv st : List Value} {h : zH} {A B D F : Prop} (k : A → B → D → F → zV C n pc lv st h) (a : A) (b : B) (d : D) (f : F) : zV C n pc lv st h := k a b d f
theorem sumM_lo {h : zH} {n jn j : Nat} (hm : mInv h n jn) (hj : seated (h 81) jn j) (m : Nat) : 0 ≤ sumS (fun k => (RM h n jn k).2.2.2) j m ∧ sumS (fun k => (RM h n jn k).2.2.2) j m ≤ 99 * m := by
  induction m with
  | zero => simp [sumS]
  | succ m ih => have := RM_sip hm hj (k := m + 1) (by omega); unfold sumS; omega

set_option maxRecDepth 100000 in
theorem c6_thirstiest {E : zE} {h : zH} {n jn : Nat} {y : Int} (hy : -2147483648 ≤ y ∧ y ≤ 2147483647) (hpm : permM (h 81) jn) (hm : mInv h n jn) : zCal E mX6_thirstiest 12 4 [zrv E 64, ziv y] h (mA h (if 1 ≤ y ∧ y ≤ 60 then 0 else 1) (argS (fun j => sumS (fun k => (RM h n jn k).2.2.2) j y.toNat) jn)) (fun _ _ => False) := by
  refine zCal_of (by decide) (Nat.le_of_ble_eq_true rfl) (fun a => ?_)
  show zV _ 0 0 [zrv E 64, ziv y, .null, .null] [] _
  refine zV_aload_nr dX6_thirstiest_0 rfl rfl ?_
  refine zV_iconst dX6_thirstiest_1 ?_
  refine pf6_157 rfl (rfl) dX6_thirstiest_2 ?_
  obtain ⟨h0, hh0, q0, z0, i0, e0, e4, r0, g0⟩ := st0 hm
  rw [hh0]
  refine zV_iload_n dX6_thirstiest_5 rfl rfl ?_
  refine zV_i2l dX6_thirstiest_6 (by omega) ?_
  refine zV_lconst dX6_thirstiest_7 ?_
  refine zV_ldc2 (v := 60) kl6_419 dX6_thirstiest_8 ?_
  refine zV_callS (As := [zlv y, zlv ((1 : Nat) : Int), zlv 60]) lk6_160 (c6_isIn 11 0 (by omega) (by omega) (by omega)) ⟨by show _ + 1 ≤ 12; omega, by show _ ≤ 4; omega⟩ rfl (Nat.le_of_ble_eq_true rfl) dX6_thirstiest_11 (fun _ _ z => z.elim) (fun r h9 q => ?_)
  obtain ⟨rfl, hh⟩ := q
  rw [hh]
  clear hh
  refine zR_if_ne (tgt := 23) dX6_thirstiest_14 (by decide) (by split <;> omega) (fun h14 => ?_) (fun h14 => ?_)
  · have y14 := ipT h14
    refine zV_iconst dX6_thirstiest_23 ?_
    refine zV_istore_n dX6_thirstiest_24 rfl (Nat.le_of_ble_eq_true rfl) rfl ?_
    have L25 : ∀ (m : Nat) (s : Nat) (h1 : zH), (9 ≤ s + m) → (s ≤ 8) → (∀ c2 : Nat, c2 ≠ 89 → h1 c2 = h0 c2) → (∀ i, i < s → h1 89 i = 0) → zV (E, mX6_thirstiest, 12, 4, (mA h (if 1 ≤ y ∧ y ≤ 60 then 0 else 1) (argS (fun j => sumS (fun k => (RM h n jn k).2.2.2) j y.toNat) jn)), (fun _ _ => False), a) 0 25 [zrv E 64, ziv y, ziv (s : Int), .null] [] h1 := by
      intro m
      induction m with
      | zero => intro s h1 hm_ hs f1 z1; exfalso; omega
      | succ m ih =>
        intro s h1 hm_ hs f1 z1
        refine zV_iload_n dX6_thirstiest_25 rfl rfl ?_
        refine zV_bipush dX6_thirstiest_26 (by decide) ?_
        refine zR_icmp_ge (tgt := 44) dX6_thirstiest_28 (by decide) (by omega) (by omega) (fun h28 => ?_) (fun h28 => ?_)
        · obtain ⟨i9, r9, w9⟩ := mq_w hm q0 i0 r0 f1
          have i81 : h1 81 = h 81 := (f1 81 (by decide)).trans (e0 81 (by decide))
          have j8 := hm.1.1.2.1
          have z19 : h1 64 4 = 0 := by rw [f1 64 (by decide)]; exact z0
          clear q0 i0 r0 f1
          refine zV_gen (fun q0 i0 r0 z0 => ?_) w9 i9 r9 z19
          refine zV_aload_nr dX6_thirstiest_44 rfl rfl ?_
          refine zV_aload_nr dX6_thirstiest_45 rfl rfl ?_
          refine gf6_103 rfl (rfl) dX6_thirstiest_46 ?_
          refine zV_teq (w := zrv E 87) rfl ?_
          refine zV_iconst dX6_thirstiest_49 ?_
          refine zV_callV (As := [zrv E 87, ziv ((0 : Nat) : Int)]) lk6_372 (rfl) rfl rfl (c6_pack (c := 87) (N := 27) (f := 0) 11 0 zsh87 (by decide) scr87 (by decide)) ⟨by show _ + 1 ≤ 12; omega, by show _ ≤ 4; omega⟩ rfl (Nat.le_of_ble_eq_true rfl) dX6_thirstiest_50 (fun _ _ z => z.elim) (fun r h1 q => ?_)
          obtain ⟨rfl, pk⟩ := q
          obtain ⟨i1, rr1, ru0, e80, e64, e81, e74, e68⟩ := pk_inv i0 pk
          refine zV_iconst dX6_thirstiest_53 ?_
          refine zV_istore_n dX6_thirstiest_54 rfl (Nat.le_of_ble_eq_true rfl) rfl ?_
          have L55 : ∀ (m3 : Nat) (s : Nat) (h2 : zH), (61 ≤ s + m3) → ((s : Int) ≤ y) → (mrun h1 n jn s h2) → (agn jn (h2 89) (fun j => sumS (fun k => (RM h n jn k).2.2.2) j s)) → zV (E, mX6_thirstiest, 12, 4, (mA h (if 1 ≤ y ∧ y ≤ 60 then 0 else 1) (argS (fun j => sumS (fun k => (RM h n jn k).2.2.2) j y.toNat) jn)), (fun _ _ => False), a) 0 55 [zrv E 64, ziv y, ziv (s : Int), .null] [] h2 := by
            intro m3
            induction m3 with
            | zero => intro s h2 hm_ hs ru ti; exfalso; omega
            | succ m3 ih3 =>
              intro s h2 hm_ hs ru ti
              refine zV_iload_n dX6_thirstiest_55 rfl rfl ?_
              refine zV_iload_n dX6_thirstiest_56 rfl rfl ?_
              refine zR_icmp_ge (tgt := 103) dX6_thirstiest_57 (by decide) (by omega) (by omega) (fun h57 => ?_) (fun h57 => ?_)
              · refine zV_aload_nr dX6_thirstiest_103 rfl rfl ?_
                refine zV_aload_nr dX6_thirstiest_104 rfl rfl ?_
                refine gf6_103 rfl (rfl) dX6_thirstiest_105 ?_
                refine zV_teq (w := zrv E 87) rfl ?_
                refine zV_iconst dX6_thirstiest_108 ?_
                refine zV_callV (As := [zrv E 87, ziv ((0 : Nat) : Int)]) lk6_376 (rfl) rfl rfl (c6_unpack (c := 87) (N := 27) (f := 0) 11 0 zsh87 (by decide) scr87 (by decide)) ⟨by show _ + 1 ≤ 12; omega, by show _ ≤ 4; omega⟩ rfl (Nat.le_of_ble_eq_true rfl) dX6_thirstiest_109 (fun _ _ z => z.elim) (fun r h4 q => ?_)
                obtain ⟨rfl, up⟩ := q
                have mq4 := mq_trans q0 (mq_run (Or.inl rfl) pk ru.1 up)
                have z4 := (mq_run4 (Or.inl rfl) pk ru.1 up).trans z0
                have t9 : agn jn (h4 89) (fun j => sumS (fun k => (RM h n jn k).2.2.2) j y.toNat) := by rw [up.1 89 (by decide) (by decide) (by decide) (by decide), show y.toNat = s by omega]; exact ti
                have e68b : h4 68 = h 68 := mq4.1 68 (by omega)
                refine zV_iconst dX6_thirstiest_112 ?_
                refine zV_istore_n dX6_thirstiest_113 rfl (Nat.le_of_ble_eq_true rfl) rfl ?_
                refine zV_iconst dX6_thirstiest_114 ?_
                refine zV_istore_n dX6_thirstiest_115 rfl (Nat.le_of_ble_eq_true rfl) rfl ?_
                have L116 : ∀ (m6 : Nat) (s : Nat), (jn + 1 ≤ s + m6) → (s ≤ jn) → zV (E, mX6_thirstiest, 12, 4, (mA h (if 1 ≤ y ∧ y ≤ 60 then 0 else 1) (argS (fun j => sumS (fun k => (RM h n jn k).2.2.2) j y.toNat) jn)), (fun _ _ => False), a) 0 116 [zrv E 64, ziv y, ziv (argS (fun j => sumS (fun k => (RM h n jn k).2.2.2) j y.toNat) s), ziv (s : Int)] [] h4 := by
                  intro m6
                  induction m6 with
                  | zero => intro s hm_ hs; exfalso; omega
                  | succ m6 ih6 =>
                    intro s hm_ hs
                    have al := argS_lo (fun j => sumS (fun k => (RM h n jn k).2.2.2) j y.toNat) s
                    refine zV_iload_n dX6_thirstiest_116 rfl rfl ?_
                    refine zV_aload_nr dX6_thirstiest_117 rfl rfl ?_
                    refine gf6_42 rfl (rfl) dX6_thirstiest_118 ?_
                    refine zV_teq (w := zrv E 68) rfl ?_
                    refine zV_iconst dX6_thirstiest_121 ?_
                    refine zV_ialoadN (i := 1) (N := 10) (rfl) (by decide) (by decide) dX6_thirstiest_122 ?_
                    refine zV_teq (w := ziv (jn : Int)) (congrArg ziv (by first | exact ru5.2.2.2.2.2.1.2.2.2.symm | (rw [e68b]; exact hm.1.1.2.2.2.symm))) ?_
                    refine zR_icmp_ge (tgt := 154) dX6_thirstiest_123 (by decide) (by omega) (by omega) (fun h123 => ?_) (fun h123 => ?_)
                    · refine zV_iload_n dX6_thirstiest_154 rfl rfl ?_
                      exact zV_ireturn dX6_thirstiest_155 rfl (Nat.zero_le _) (mA_ok mq4 z4 (by rw [if_pos (by omega)]) (by rw [show jn = s by omega]))
                    · refine zV_iload_n dX6_thirstiest_126 rfl rfl ?_
                      refine zV_iconst dX6_thirstiest_127 ?_
                      refine zR_icmp_eq (tgt := 146) dX6_thirstiest_128 (by decide) (by omega) (by omega) (fun h128 => ?_) (fun h128 => ?_)
                      · refine zV_iload_n dX6_thirstiest_146 rfl rfl ?_
                        refine zV_istore_n dX6_thirstiest_147 rfl (Nat.le_of_ble_eq_true rfl) rfl ?_
                        refine zV_iinc dX6_thirstiest_148 rfl (Nat.le_of_ble_eq_true rfl) rfl ?_
                        refine zV_goto (tgt := 116) dX6_thirstiest_151 (by decide) ?_
                        refine zV_lveq (lv' := [zrv E 64, ziv y, ziv (argS (fun j => sumS (fun k => (RM h n jn k).2.2.2) j y.toNat) (s + 1)), ziv ((s : Int) + 1)]) (by rw [argS_s, if_pos (Or.inl h128)]; rfl) ?_
                        exact ih6 (s + 1) (by omega) (by omega)
                      · obtain ⟨c, hc⟩ : ∃ c : Nat, argS (fun j => sumS (fun k => (RM h n jn k).2.2.2) j y.toNat) s = (c : Int) := ⟨(argS (fun j => sumS (fun k => (RM h n jn k).2.2.2) j y.toNat) s).toNat, by omega⟩
                        have w1 := sumM_lo hm (hpm.2 s (by omega)) y.toNat
                        have w2 := sumM_lo hm (hpm.2 c (by omega)) y.toNat
                        refine zV_aload_nr dX6_thirstiest_131 rfl rfl ?_
                        refine gf6_109 rfl (rfl) dX6_thirstiest_132 ?_
                        refine zV_teq (w := zrv E 89) rfl ?_
                        refine zV_iload_n dX6_thirstiest_135 rfl rfl ?_
                        refine zV_ialoadN (i := s) (N := 8) (rfl) (by omega) (by decide) dX6_thirstiest_136 ?_
                        rw [show h4 89 s = sumS (fun k => (RM h n jn k).2.2.2) s y.toNat from t9 s (by omega)]
                        refine zV_aload_nr dX6_thirstiest_137 rfl rfl ?_
                        refine gf6_109 rfl (rfl) dX6_thirstiest_138 ?_
                        refine zV_teq (w := zrv E 89) rfl ?_
                        refine zV_iload_n dX6_thirstiest_141 rfl rfl ?_
                        refine zV_teq (w := ziv (c : Int)) (congrArg ziv hc.symm) ?_
                        refine zV_ialoadN (i := c) (N := 8) (rfl) (by omega) (by decide) dX6_thirstiest_142 ?_
                        rw [show h4 89 c = sumS (fun k => (RM h n jn k).2.2.2) c y.toNat from t9 c (by omega)]
                        refine zR_icmp_le (tgt := 148) dX6_thirstiest_143 (by decide) (by omega) (by omega) (fun h143 => ?_) (fun h143 => ?_)
                        · refine zV_iinc dX6_thirstiest_148 rfl (Nat.le_of_ble_eq_true rfl) rfl ?_
                          refine zV_goto (tgt := 116) dX6_thirstiest_151 (by decide) ?_
                          have cc : (argS (fun j => sumS (fun k => (RM h n jn k).2.2.2) j y.toNat) s).toNat = c := by omega
                          refine zV_lveq (lv' := [zrv E 64, ziv y, ziv (argS (fun j => sumS (fun k => (RM h n jn k).2.2.2) j y.toNat) (s + 1)), ziv ((s : Int) + 1)]) (by rw [argS_s, if_neg (fun z => by rcases z with z | z; exact h128 z; rw [cc] at z; omega)]; rfl) ?_
                          exact ih6 (s + 1) (by omega) (by omega)
                        · refine zV_iload_n dX6_thirstiest_146 rfl rfl ?_
                          refine zV_istore_n dX6_thirstiest_147 rfl (Nat.le_of_ble_eq_true rfl) rfl ?_
                          refine zV_iinc dX6_thirstiest_148 rfl (Nat.le_of_ble_eq_true rfl) rfl ?_
                          refine zV_goto (tgt := 116) dX6_thirstiest_151 (by decide) ?_
                          have cc : (argS (fun j => sumS (fun k => (RM h n jn k).2.2.2) j y.toNat) s).toNat = c := by omega
                          refine zV_lveq (lv' := [zrv E 64, ziv y, ziv (argS (fun j => sumS (fun k => (RM h n jn k).2.2.2) j y.toNat) (s + 1)), ziv ((s : Int) + 1)]) (by rw [argS_s, if_pos (Or.inr (by rw [cc]; omega))]; rfl) ?_
                          exact ih6 (s + 1) (by omega) (by omega)
                exact L116 (jn + 1) 0 (by omega) (by omega)
              · refine zV_aload_nr dX6_thirstiest_60 rfl rfl ?_
                refine zV_callV (As := []) lk6_369 (rfl) rfl rfl (c6_aCase (n := n) (jn := jn) 11 0 (by decide) ru.2.2.2.2.2 ru.2.2.2.2.1) ⟨by show _ + 1 ≤ 12; omega, by show _ ≤ 4; omega⟩ rfl (Nat.le_of_ble_eq_true rfl) dX6_thirstiest_61 (fun _ _ z => z.elim) (fun r h3 q => ?_)
                obtain ⟨rfl, q⟩ := q
                have ru3 := mrun_s i1.1 (by have := i1.2.2; omega) ru q
                refine zV_iconst dX6_thirstiest_64 ?_
                refine zV_istore_n dX6_thirstiest_65 rfl (Nat.le_of_ble_eq_true rfl) rfl ?_
                have L66 : ∀ (m5 : Nat) (l : Nat) (h5 : zH), (jn + 1 ≤ l + m5) → (l ≤ jn) → (mrun h1 n jn (s + 1) h5) → (∀ j, j < jn → h5 89 j = if j < l then sumS (fun k => (RM h n jn k).2.2.2) j (s + 1) else sumS (fun k => (RM h n jn k).2.2.2) j s) → zV (E, mX6_thirstiest, 12, 4, (mA h (if 1 ≤ y ∧ y ≤ 60 then 0 else 1) (argS (fun j => sumS (fun k => (RM h n jn k).2.2.2) j y.toNat) jn)), (fun _ _ => False), a) 0 66 [zrv E 64, ziv y, ziv (s : Int), ziv (l : Int)] [] h5 := by
                  intro m5
                  induction m5 with
                  | zero => intro l h5 hm_ hl ru5 z5; exfalso; omega
                  | succ m5 ih5 =>
                    intro l h5 hm_ hl ru5 z5
                    have sp5 := (ru5.2.2.1 (by omega)).2.2 (perm_congr (by rw [e81, i81]) hpm)
                    rw [rr1, r0] at sp5
                    refine zV_iload_n dX6_thirstiest_66 rfl rfl ?_
                    refine zV_aload_nr dX6_thirstiest_67 rfl rfl ?_
                    refine gf6_42 rfl (rfl) dX6_thirstiest_68 ?_
                    refine zV_teq (w := zrv E 68) rfl ?_
                    refine zV_iconst dX6_thirstiest_71 ?_
                    refine zV_ialoadN (i := 1) (N := 10) (rfl) (by decide) (by decide) dX6_thirstiest_72 ?_
                    refine zV_teq (w := ziv (jn : Int)) (congrArg ziv (by first | exact ru5.2.2.2.2.2.1.2.2.2.symm | (rw [e68b]; exact hm.1.1.2.2.2.symm))) ?_
                    refine zR_icmp_ge (tgt := 97) dX6_thirstiest_73 (by decide) (by omega) (by omega) (fun h73 => ?_) (fun h73 => ?_)
                    · refine zV_iinc dX6_thirstiest_97 rfl (Nat.le_of_ble_eq_true rfl) rfl ?_
                      refine zV_goto (tgt := 55) dX6_thirstiest_100 (by decide) ?_
                      refine zV_drop 3 ?_
                      exact ih3 (s + 1) h5 (by omega) (by omega) ru5 (fun j hj => by rw [z5 j hj, if_pos (by omega)])
                    · refine zV_aload_nr dX6_thirstiest_76 rfl rfl ?_
                      refine gf6_109 rfl (rfl) dX6_thirstiest_77 ?_
                      refine zV_teq (w := zrv E 89) rfl ?_
                      refine zV_iload_n dX6_thirstiest_80 rfl rfl ?_
                      refine zV_dup2 dX6_thirstiest_81 rfl rfl ?_
                      refine zV_ialoadN (i := l) (N := 8) (rfl) (by omega) (by decide) dX6_thirstiest_82 ?_
                      rw [z5 l (by omega), if_neg (Nat.lt_irrefl l)]
                      refine zV_aload_nr dX6_thirstiest_83 rfl rfl ?_
                      refine gf6_100 rfl (rfl) dX6_thirstiest_84 ?_
                      refine zV_teq (w := zrv E 86) rfl ?_
                      refine zV_iload_n dX6_thirstiest_87 rfl rfl ?_
                      refine zV_ialoadN (i := l) (N := 8) (rfl) (by omega) (by decide) dX6_thirstiest_88 ?_
                      rw [sp5 l (by omega)]
                      refine zV_iadd dX6_thirstiest_89 ?_
                      refine zV_iastoreN (i := l) (N := 8) (rfl) (by omega) (by decide) dX6_thirstiest_90 ?_
                      refine zV_iinc dX6_thirstiest_91 rfl (Nat.le_of_ble_eq_true rfl) rfl ?_
                      refine zV_goto (tgt := 66) dX6_thirstiest_94 (by decide) ?_
                      exact ih5 (l + 1) _ (by omega) (by omega) (mrun_w ru5 (fun c2 a b c d => zup_fn c) (fun j a b => by rw [zup_fn (by decide)])) (fun j hj => by
                        rw [zup_at]
                        by_cases e : j = l
                        · rw [if_pos e, if_pos (by omega), e]; rfl
                        · rw [if_neg e, z5 j hj]
                          by_cases e2 : j < l
                          · rw [if_pos e2, if_pos (by omega)]
                          · rw [if_neg e2, if_neg (by omega)])
                exact L66 (jn + 1) 0 h3 (by omega) (by omega) ru3 (fun j hj => by rw [q.1.1 89 (by decide) (by decide) (by decide) (by decide) (by decide), ti j hj, if_neg (Nat.not_lt_zero j)])
          exact L55 61 0 h1 (by omega) (by omega) ru0 (fun j hj => by rw [pk.1 89 (by decide)]; exact z1 j (by omega))
        · refine zV_aload_nr dX6_thirstiest_31 rfl rfl ?_
          refine gf6_109 rfl (rfl) dX6_thirstiest_32 ?_
          refine zV_teq (w := zrv E 89) rfl ?_
          refine zV_iload_n dX6_thirstiest_35 rfl rfl ?_
          refine zV_iconst dX6_thirstiest_36 ?_
          refine zV_iastoreN (i := s) (N := 8) (rfl) (by omega) (by decide) dX6_thirstiest_37 ?_
          refine zV_iinc dX6_thirstiest_38 rfl (Nat.le_of_ble_eq_true rfl) rfl ?_
          refine zV_goto (tgt := 25) dX6_thirstiest_41 (by decide) ?_
          exact ih (s + 1) _ (by omega) (by omega) (fun c2 e => by rw [zup_fn e]; exact f1 c2 e) (fun i hi => by rw [zup_at]; split; rfl; exact z1 i (by omega))
    exact L25 9 0 h0 (by omega) (by omega) (fun _ _ => rfl) (fun i hi => absurd hi (Nat.not_lt_zero i))
  · have n14 := ipF h14
    refine zV_aload_nr dX6_thirstiest_17 rfl rfl ?_
    refine zV_iconst dX6_thirstiest_18 ?_
    refine zV_callV (As := [ziv 1]) lk6_300 (rfl) rfl rfl (c6_fail 11 0) ⟨by show _ + 1 ≤ 12; omega, by show _ ≤ 4; omega⟩ rfl (Nat.le_of_ble_eq_true rfl) dX6_thirstiest_19 (fun _ _ z => z.elim) (fun r h9 q => ?_)
    obtain ⟨rfl, hh⟩ := q
    rw [hh]
    clear hh
    exact zV_ireturn dX6_thirstiest_22 rfl (Nat.zero_le _) (mA_f q0 (by decide) (by rw [if_neg (by omega)]))
