set_option maxRecDepth 100000 in
theorem c2_push {E : zE} {h : zH} {x y : Int} (d k : Nat) (hx : 0 ≤ x ∧ x ≤ 12) (hy : 0 ≤ y ∧ y ≤ 99) : zCal E mX2_push d k [ziv x, ziv y] h (fun r h' => r = some (ziv (pushS x y)) ∧ h' = h) (fun _ _ => False) := by
  refine zCal_of (by decide) (Nat.le_of_ble_eq_true rfl) (fun a => ?_)
  show zV _ 0 0 [ziv x, ziv y] [] _
  refine zV_iload_n dX2_push_0 rfl rfl ?_
  refine zV_bipush dX2_push_1 (by decide) ?_
  refine zV_isub dX2_push_3 ?_
  refine zV_iload_n dX2_push_4 rfl rfl ?_
  refine zV_bipush dX2_push_5 (by decide) ?_
  refine zV_idiv dX2_push_7 (by decide) ?_
  refine zV_imul dX2_push_8 ?_
  exact zV_ireturn dX2_push_9 rfl (Nat.zero_le _) ⟨by unfold pushS; rw [zdiv_eq (by omega) (by decide), Int.tdiv_eq_ediv_of_nonneg hy.1], rfl⟩
set_option maxRecDepth 100000 in
theorem c2_stirred {E : zE} {h : zH} {x y w : Int} (d k : Nat) (hd : 1 ≤ d) (hx : 0 ≤ x ∧ x ≤ 11) (hy : -54 ≤ y ∧ y ≤ 54) (hw : 1 ≤ w ∧ w ≤ 9) : zCal E mX2_stirred d k [ziv x, ziv y, ziv w] h (fun r h' => r = some (ziv (stirS x y w)) ∧ h' = h) (fun _ _ => False) := by
  refine zCal_of (by decide) (Nat.le_of_ble_eq_true rfl) (fun a => ?_)
  show zV _ 0 0 [ziv x, ziv y, ziv w, .null] [] _
  refine zV_iload_n dX2_stirred_0 rfl rfl ?_
  refine zV_iconst dX2_stirred_1 ?_
  refine zR_icmp_ge (tgt := 9) dX2_stirred_2 (by decide) (by omega) (by omega) (fun h2 => ?_) (fun h2 => ?_)
  · refine zV_iload_n dX2_stirred_9 rfl rfl ?_
    refine zV_iload_n dX2_stirred_10 rfl rfl ?_
    refine zV_idiv dX2_stirred_11 (by rw [zn_of (by omega) (by omega)]; omega) ?_
    rw [zdiv_eq (by omega) (by omega)]
    refine zV_istore_n dX2_stirred_12 rfl (Nat.le_of_ble_eq_true rfl) rfl ?_
    refine zV_iload_n dX2_stirred_13 rfl rfl ?_
    refine zV_iload_n dX2_stirred_14 rfl rfl ?_
    refine zV_iadd dX2_stirred_15 ?_
    refine zV_bipush dX2_stirred_16 (by decide) ?_
    have hq : (y.tdiv w).natAbs ≤ y.natAbs := by rw [Int.natAbs_tdiv]; exact Nat.div_le_self _ _
    refine zV_callS (As := [ziv (x + y.tdiv w), ziv 12]) lk2_84 (cJ_floorMod (d - 1) 0 (by omega) (by decide)) ⟨by show _ + 1 ≤ d; omega, by show _ ≤ k; omega⟩ rfl (Nat.le_of_ble_eq_true rfl) dX2_stirred_18 (fun _ _ z => z.elim) (fun r h' q => ?_)
    obtain ⟨rfl, hh⟩ := q
    rw [hh]
    exact zV_ireturn dX2_stirred_21 rfl (Nat.zero_le _) ⟨rfl, rfl⟩
  · exact absurd hw.1 h2
set_option maxRecDepth 100000 in
theorem c2_stirBy {E : zE} {h : zH} {c t n : Nat} {x : Int} (d k : Nat) (hd : 2 ≤ d) (hc : isCup c) (ht : isCourt t) (hn : n ≤ 8) (hl : h t 0 = (n : Int)) (hp : ∀ l, l < n → 0 ≤ h (c + 1) l ∧ h (c + 1) l < 12) (hw : ∀ l, l < n → 1 ≤ h (t + 2) l ∧ h (t + 2) l ≤ 9) (hx : 0 ≤ x ∧ x ≤ 12) (hv : 0 ≤ h c 8 ∧ h c 8 ≤ 99) : zCal E mX2_stirBy d k [zrv E c, ziv x, zrv E t] h (fun r h' => r = none ∧ h' = zst h (c + 1) (stirP (h (c + 1)) (h (t + 2)) (pushS x (h c 8)) n)) (fun _ _ => False) := by
  refine zCal_of (by decide) (Nat.le_of_ble_eq_true rfl) (fun a => ?_)
  show zV _ 0 0 [zrv E c, ziv x, zrv E t, .null, .null] [] _
  have hc9 : c = 32 ∨ c = 43 ∨ c = 53 := hc
  have ht9 : t = 2 ∨ t = 16 := ht
  have hpu := pushS_r hx hv
  refine zV_iload_n dX2_stirBy_0 rfl rfl ?_
  refine zV_aload_nr dX2_stirBy_1 rfl rfl ?_
  refine gf2_53 rfl (cup_0 hc) dX2_stirBy_2 ?_
  refine zV_callS (As := [ziv x, ziv (h c 8)]) lk2_102 (c2_push (d - 1) 0 hx hv) ⟨by show _ + 1 ≤ d; omega, by show _ ≤ k; omega⟩ rfl (Nat.le_of_ble_eq_true rfl) dX2_stirBy_5 (fun _ _ z => z.elim) (fun r h' q => ?_)
  obtain ⟨rfl, hh⟩ := q
  rw [hh]
  refine zV_istore_n dX2_stirBy_8 rfl (Nat.le_of_ble_eq_true rfl) rfl ?_
  refine zV_iconst dX2_stirBy_9 ?_
  refine zV_istore dX2_stirBy_10 (Nat.le_of_ble_eq_true rfl) rfl ?_
  have L12 : ∀ (m : Nat) (s : Nat), (n + 1 ≤ s + m) → (s ≤ n) → zV (E, mX2_stirBy, d, k, (fun r h' => r = none ∧ h' = zst h (c + 1) (stirP (h (c + 1)) (h (t + 2)) (pushS x (h c 8)) n)), (fun _ _ => False), a) 0 12 [zrv E c, ziv x, zrv E t, ziv (pushS x (h c 8)), ziv (s : Int)] [] (zst h (c + 1) (stirP (h (c + 1)) (h (t + 2)) (pushS x (h c 8)) s)) := by
    intro m
    induction m with
    | zero => intro s hm_ hsn; exfalso; omega
    | succ m ih =>
      intro s hm_ hsn
      refine zV_iload dX2_stirBy_12 rfl ?_
      refine zV_aload_nr dX2_stirBy_14 rfl rfl ?_
      refine gf2_71 rfl (court_0 ht) dX2_stirBy_15 ?_
      rw [zst_ne (show t ≠ c + 1 by omega), hl]
      refine zR_icmp_ge (tgt := 56) dX2_stirBy_18 (by decide) (by omega) (by omega) (fun h18 => ?_) (fun h18 => ?_)
      · exact zV_vreturn dX2_stirBy_56 rfl (Nat.zero_le _) ⟨rfl, by rw [show n = s by omega]⟩
      · refine zV_iload_n dX2_stirBy_21 rfl rfl ?_
        refine zR_if_eq (tgt := 56) dX2_stirBy_22 (by decide) (by omega) (fun h22 => ?_) (fun h22 => ?_)
        · exact zV_vreturn dX2_stirBy_56 rfl (Nat.zero_le _) ⟨rfl, by
            congr 1
            funext l
            unfold stirP
            rw [h22]
            by_cases e : l < s
            · rw [if_pos e, if_pos (by omega)]
            · rw [if_neg e]; by_cases e2 : l < n
              · rw [if_pos e2, stirS_0 (hp l e2).1 (hp l e2).2]
              · rw [if_neg e2]⟩
        · refine zV_aload_nr dX2_stirBy_25 rfl rfl ?_
          refine gf2_9 rfl (cup_0 hc) dX2_stirBy_26 ?_
          refine zV_iload dX2_stirBy_29 rfl ?_
          refine zV_aload_nr dX2_stirBy_31 rfl rfl ?_
          refine gf2_9 rfl (cup_0 hc) dX2_stirBy_32 ?_
          refine zV_iload dX2_stirBy_35 rfl ?_
          refine zV_ialoadN (i := s) (N := 8) (cup_1 hc) (by omega) (by decide) dX2_stirBy_37 ?_
          rw [zst_same, show stirP (h (c + 1)) (h (t + 2)) (pushS x (h c 8)) s s = h (c + 1) s by unfold stirP; rw [if_neg (by omega)]]
          refine zV_iload_n dX2_stirBy_38 rfl rfl ?_
          refine zV_aload_nr dX2_stirBy_39 rfl rfl ?_
          refine gf2_105 rfl (court_0 ht) dX2_stirBy_40 ?_
          refine zV_iload dX2_stirBy_43 rfl ?_
          refine zV_ialoadN (i := s) (N := 8) (court_2 ht) (by omega) (by decide) dX2_stirBy_45 ?_
          rw [zst_ne (show t + 2 ≠ c + 1 by omega)]
          refine zV_callS (As := [ziv (h (c + 1) s), ziv (pushS x (h c 8)), ziv (h (t + 2) s)]) lk2_108 (c2_stirred (d - 1) 0 (by omega) (by have := hp s (by omega); omega) hpu (hw s (by omega))) ⟨by show _ + 1 ≤ d; omega, by show _ ≤ k; omega⟩ rfl (Nat.le_of_ble_eq_true rfl) dX2_stirBy_46 (fun _ _ z => z.elim) (fun r h' q => ?_)
          obtain ⟨rfl, hh⟩ := q
          rw [hh]
          refine zV_iastoreN (i := s) (N := 8) (cup_1 hc) (by omega) (by decide) dX2_stirBy_49 ?_
          refine zV_iinc dX2_stirBy_50 rfl (Nat.le_of_ble_eq_true rfl) rfl ?_
          refine zV_goto (tgt := 12) dX2_stirBy_53 (by decide) ?_
          refine zV_heq (h' := zst h (c + 1) (stirP (h (c + 1)) (h (t + 2)) (pushS x (h c 8)) (s + 1))) ?_ ?_
          · rw [zup_zst]
            congr 1
            funext l
            unfold stirP
            by_cases e : l = s
            · subst e; rw [if_pos rfl, if_pos (by omega)]
            · rw [if_neg e]; by_cases e2 : l < s
              · rw [if_pos e2, if_pos (by omega)]
              · rw [if_neg e2, if_neg (by omega)]
          · exact ih (s + 1) (by omega) (by omega)
  refine zV_heq (h' := zst h (c + 1) (stirP (h (c + 1)) (h (t + 2)) (pushS x (h c 8)) 0)) (by rw [show stirP (h (c + 1)) (h (t + 2)) (pushS x (h c 8)) 0 = h (c + 1) from funext fun l => by unfold stirP; rw [if_neg (by omega)], zst_self]) ?_
  exact L12 (n + 1) 0 (by omega) (by omega)
set_option maxRecDepth 100000 in
theorem c2_blow {E : zE} {h : zH} {c n : Nat} (d k : Nat) (hc : isCup c) (hn : n ≤ 8) (hp : ∀ l, l < n → 0 ≤ h (c + 1) l ∧ h (c + 1) l < 12) : zCal E mX2_blow d k [zrv E c, ziv (n : Int)] h (fun r h' => r = none ∧ h' = zst h (c + 1) (blowP (h (c + 1)) n)) (fun _ _ => False) := by
  refine zCal_of (by decide) (Nat.le_of_ble_eq_true rfl) (fun a => ?_)
  show zV _ 0 0 [zrv E c, ziv (n : Int), .null, .null] [] _
  have hc9 : c = 32 ∨ c = 43 ∨ c = 53 := hc
  refine zV_iconst dX2_blow_0 ?_
  refine zV_istore_n dX2_blow_1 rfl (Nat.le_of_ble_eq_true rfl) rfl ?_
  have L2 : ∀ (m : Nat) (s : Nat), (n + 2 ≤ s + m) → (1 ≤ s) → (s ≤ n ∨ s = 1) → zV (E, mX2_blow, d, k, (fun r h' => r = none ∧ h' = zst h (c + 1) (blowP (h (c + 1)) n)), (fun _ _ => False), a) 0 2 [zrv E c, ziv (n : Int), ziv (s : Int), .null] [] (zst h (c + 1) (blowP (h (c + 1)) s)) := by
    intro m
    induction m with
    | zero => intro s hm_ hs1 hsn; exfalso; omega
    | succ m ih =>
      intro s hm_ hs1 hsn
      refine zV_iload_n dX2_blow_2 rfl rfl ?_
      refine zV_iload_n dX2_blow_3 rfl rfl ?_
      refine zR_icmp_ge (tgt := 61) dX2_blow_4 (by decide) (by omega) (by omega) (fun h4 => ?_) (fun h4 => ?_)
      · exact zV_vreturn dX2_blow_61 rfl (Nat.zero_le _) ⟨rfl, by
          rcases (show n = s ∨ (n = 0 ∧ s = 1) by omega) with e | ⟨e, e2⟩
          · rw [e]
          · rw [e, e2, blowP_1]; rfl⟩
      · refine zV_iconst dX2_blow_7 ?_
        refine zV_istore_n dX2_blow_8 rfl (Nat.le_of_ble_eq_true rfl) rfl ?_
        have L9 : ∀ (m2 : Nat) (j : Nat), (s + 1 ≤ j + m2) → (j ≤ s) → (hitB (blowP (h (c + 1)) s) (blowP (h (c + 1)) s s) j = false) → zV (E, mX2_blow, d, k, (fun r h' => r = none ∧ h' = zst h (c + 1) (blowP (h (c + 1)) n)), (fun _ _ => False), a) 0 9 [zrv E c, ziv (n : Int), ziv (s : Int), ziv (j : Int)] [] (zst h (c + 1) (blowP (h (c + 1)) s)) := by
          intro m2
          induction m2 with
          | zero => intro j hm_ hj hh; exfalso; omega
          | succ m2 ih2 =>
            intro j hm_ hj hh
            refine zV_iload_n dX2_blow_9 rfl rfl ?_
            refine zV_iload_n dX2_blow_10 rfl rfl ?_
            refine zR_icmp_ge (tgt := 55) dX2_blow_11 (by decide) (by omega) (by omega) (fun h11 => ?_) (fun h11 => ?_)
            · refine zV_iinc dX2_blow_55 rfl (Nat.le_of_ble_eq_true rfl) rfl ?_
              refine zV_goto (tgt := 2) dX2_blow_58 (by decide) ?_
              refine zV_drop 3 ?_
              have hT : hitB (blowP (h (c + 1)) s) (blowP (h (c + 1)) s s) s = false := by rw [← hh]; congr 1; omega
              refine zV_heq (h' := zst h (c + 1) (blowP (h (c + 1)) (s + 1))) ?_ ?_
              · rw [blowP_s, if_neg (by rw [hT]; decide)]
              · exact ih (s + 1) (by omega) (by omega) (by omega)
            · refine zV_aload_nr dX2_blow_14 rfl rfl ?_
              refine gf2_9 rfl (cup_0 hc) dX2_blow_15 ?_
              refine zV_iload_n dX2_blow_18 rfl rfl ?_
              refine zV_ialoadN (i := j) (N := 8) (cup_1 hc) (by omega) (by decide) dX2_blow_19 ?_
              rw [zst_same]
              refine zV_aload_nr dX2_blow_20 rfl rfl ?_
              refine gf2_9 rfl (cup_0 hc) dX2_blow_21 ?_
              refine zV_iload_n dX2_blow_24 rfl rfl ?_
              refine zV_ialoadN (i := s) (N := 8) (cup_1 hc) (by omega) (by decide) dX2_blow_25 ?_
              rw [zst_same]
              have hb1 := blowP_lo hp s j (by omega)
              have hb2 := blowP_lo hp s s (by omega)
              refine zR_icmp_ne (tgt := 49) dX2_blow_26 (by decide) (by omega) (by omega) (fun h26 => ?_) (fun h26 => ?_)
              · refine zV_iinc dX2_blow_49 rfl (Nat.le_of_ble_eq_true rfl) rfl ?_
                refine zV_goto (tgt := 9) dX2_blow_52 (by decide) ?_
                exact ih2 (j + 1) (by omega) (by omega) (by rw [hitB_s, hh, decide_eq_false h26]; rfl)
              · refine zV_aload_nr dX2_blow_29 rfl rfl ?_
                refine gf2_9 rfl (cup_0 hc) dX2_blow_30 ?_
                refine zV_iload_n dX2_blow_33 rfl rfl ?_
                refine zV_aload_nr dX2_blow_34 rfl rfl ?_
                refine gf2_9 rfl (cup_0 hc) dX2_blow_35 ?_
                refine zV_iload_n dX2_blow_38 rfl rfl ?_
                refine zV_ialoadN (i := s) (N := 8) (cup_1 hc) (by omega) (by decide) dX2_blow_39 ?_
                rw [zst_same]
                refine zV_iconst dX2_blow_40 ?_
                refine zV_iadd dX2_blow_41 ?_
                refine zV_bipush dX2_blow_42 (by decide) ?_
                refine zV_irem dX2_blow_44 (by decide) ?_
                rw [zrem_eq (by omega) (by decide), Int.tmod_eq_emod_of_nonneg (by omega)]
                refine zV_iastoreN (i := s) (N := 8) (cup_1 hc) (by omega) (by decide) dX2_blow_45 ?_
                refine zV_goto (tgt := 55) dX2_blow_46 (by decide) ?_
                refine zV_iinc dX2_blow_55 rfl (Nat.le_of_ble_eq_true rfl) rfl ?_
                refine zV_goto (tgt := 2) dX2_blow_58 (by decide) ?_
                have hT : hitB (blowP (h (c + 1)) s) (blowP (h (c + 1)) s s) s = true := by
                  have := hitB_mono (q := blowP (h (c + 1)) s) (v := blowP (h (c + 1)) s s) (m := j + 1) (by rw [hitB_s, decide_eq_true h26]; simp) (s - (j + 1))
                  rw [show j + 1 + (s - (j + 1)) = s by omega] at this
                  exact this
                refine zV_drop 3 ?_
                refine zV_heq (h' := zst h (c + 1) (blowP (h (c + 1)) (s + 1))) ?_ ?_
                · rw [zup_zst, blowP_s, if_pos hT]
                · exact ih (s + 1) (by omega) (by omega) (by omega)
        exact L9 (s + 1) 0 (by omega) (by omega) rfl
  refine zV_heq (h' := zst h (c + 1) (blowP (h (c + 1)) 1)) (by rw [blowP_1, zst_self]) ?_
  exact L2 (n + 2) 1 (by omega) (by omega) (by omega)
