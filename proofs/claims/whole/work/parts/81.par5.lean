/-! THE REFERENCE: nots; an expression -/
theorem not_at {T : Nat → Int} {n p q1 s : Nat} {dr : Bool} {ex : Nat → zR} (h1 : ntF T n 6 p = (s, q1)) (h2 : ¬ isW T n q1 wNot = true) : notP T n dr ex p = bnd (testP T n dr ex q1) (fun l b q => .inr (l ++ List.replicate s (-3), b, q)) := by
  unfold notP; rw [h1, if_neg (fun z => h2 z.2)]
theorem test_at {T : Nat → Int} {n q1 : Nat} {dr : Bool} {ex : Nat → zR} {l : List Int} {b : Bool} {q : Nat} (h1 : sumP T n dr ex q1 = .inr (l, b, q)) : testP T n dr ex q1 = if opTst T n q = 0 then .inr (l, b, q) else bnd (sumP T n dr ex (tB T n q)) (fun l2 b2 q2 => .inr (l ++ (l2 ++ [opTst T n q]), b || b2, q2)) := by
  unfold testP; rw [h1]; rfl
theorem opTst_e {T : Nat → Int} {n p : Nat} (h : opTst T n p ≠ 0) (h1 : ¬ isS T n p 60 = true) : opTst T n p = -5 := by
  unfold opTst at h ⊢
  rw [if_neg h1] at h ⊢
  by_cases z : isS T n p 61 = true
  · rw [if_pos z]
  · rw [if_neg z] at h; exact absurd rfl h
theorem rep_s (k : Nat) : List.replicate k (-3 : Int) ++ [-3] = List.replicate (k + 1) (-3) := by rw [List.replicate_succ']

theorem mst_trans {h h1 h2 : zH} (a : mst h h1) (b : mst h1 h2) : mst h h2 := ⟨fun c2 x => (b.1 c2 x).trans (a.1 c2 x), fun j x y z u v => (b.2 j x y z u v).trans (a.2 j x y z u v)⟩

set_option maxRecDepth 100000 in
theorem c6_readNot {E : zE} {h : zH} {T : Nat → Int} {n ru c p : Nat} {ex : Nat → zR} {w : Int} {d k : Nat} (he : ∀ p, p ≤ n → good n p (ex p)) (hp : preM h T n ru c p) (hd : 9 ≤ d) (HP : ∀ (h : zH) (c p : Nat), preM h T n ru c p → zCal E mX6_readSum (d - 1) 0 [zrv E 64, ziv w] h (paM h T n ru c (sumP T n (decide (ru = 0)) ex p)) (fun _ _ => False)) : zCal E mX6_readNot d k [zrv E 64, ziv w] h (paM h T n ru c (notP T n (decide (ru = 0)) ex p)) (fun _ _ => False) := by
  refine zCal_of (by decide) (Nat.le_of_ble_eq_true rfl) (fun a => ?_)
  show zV _ 0 0 [zrv E 64, ziv w, .null, .null] [] _
  have hk := hp.1
  have hn7 := hk.2.1
  have hru := hp.2.2.2.2.1
  have hpn := hp.2.2.1
  have hcp := hp.2.2.2.2.2.2.2.1
  have hb0 := hp.2.2.2.1
  have gs := good_sum (T := T) (dr := (decide (ru = 0))) he
  have JB94 : ∀ (u9 : Nat) (hu9 : u9 ≤ 7) (ke : Int) (q0 : Nat) (h2 : zH), (notP T n (decide (ru = 0)) ex p = .inl (ke, q0)) → (bdM h T n ru ke q0 h2) → zV (E, mX6_readNot, d, k, (paM h T n ru c (notP T n (decide (ru = 0)) ex p)), (fun _ _ => False), a) 0 94 [zrv E 64, ziv w, ziv (u9 : Int), .null] [] h2 := by
    intro u9 hu9 ke q0 h2 hR hB
    obtain ⟨hb, hbd⟩ := bdR hB
    refine zV_iconst dX6_readNot_94 ?_
    refine zV_istore_n dX6_readNot_95 rfl (Nat.le_of_ble_eq_true rfl) rfl ?_
    have L96 : ∀ (m9 : Nat) (k5 : Nat), (u9 + 1 ≤ k5 + m9) → (k5 ≤ u9) → zV (E, mX6_readNot, d, k, (paM h T n ru c (notP T n (decide (ru = 0)) ex p)), (fun _ _ => False), a) 0 96 [zrv E 64, ziv w, ziv (u9 : Int), ziv (k5 : Int)] [] h2 := by
      intro m9
      induction m9 with
      | zero => intro k5 hm_ hk5; exfalso; omega
      | succ m9 ih9 =>
        intro k5 hm_ hk5
        refine zV_iload_n dX6_readNot_96 rfl rfl ?_
        refine zV_iload_n dX6_readNot_97 rfl rfl ?_
        refine zR_icmp_ge (tgt := 113) dX6_readNot_98 (by decide) (by omega) (by omega) (fun h98 => ?_) (fun h98 => ?_)
        · exact zV_vreturn dX6_readNot_113 rfl (Nat.zero_le _) ⟨rfl, by rw [hR]; exact hB⟩
        · refine zV_aload_nr dX6_readNot_101 rfl rfl ?_
          refine zV_bipush dX6_readNot_102 (by decide) ?_
          refine zV_callV (As := [ziv (-28)]) lk6_245 (rfl) rfl rfl (c6_layB (d - 1) 0 hb hbd) ⟨by show _ + 1 ≤ d; omega, by show _ ≤ k; omega⟩ rfl (Nat.le_of_ble_eq_true rfl) dX6_readNot_104 (fun _ _ z => z.elim) (fun r h9 q => ?_)
          obtain ⟨rfl, hh⟩ := q
          rw [hh]
          clear hh
          refine zV_iinc dX6_readNot_107 rfl (Nat.le_of_ble_eq_true rfl) rfl ?_
          refine zV_goto (tgt := 96) dX6_readNot_110 (by decide) ?_
          exact ih9 (k5 + 1) (by omega) (by omega)
    exact L96 (u9 + 1) 0 (by omega) (by omega)
  have JB89 : ∀ (u9 : Nat) (hu9 : u9 ≤ 7) (sv : Int) (ke : Int) (q0 : Nat) (h2 : zH), (notP T n (decide (ru = 0)) ex p = .inl (ke, q0)) → (bdM h T n ru ke q0 h2) → zV (E, mX6_readNot, d, k, (paM h T n ru c (notP T n (decide (ru = 0)) ex p)), (fun _ _ => False), a) 0 89 [zrv E 64, ziv w, ziv (u9 : Int), ziv sv] [] h2 := by
    intro u9 hu9 sv ke q0 h2 hR hB
    obtain ⟨hb, hbd⟩ := bdR hB
    refine zV_aload_nr dX6_readNot_89 rfl rfl ?_
    refine zV_iload_n dX6_readNot_90 rfl rfl ?_
    refine zV_callV (As := [ziv sv]) lk6_245 (rfl) rfl rfl (c6_layB (d - 1) 0 hb hbd) ⟨by show _ + 1 ≤ d; omega, by show _ ≤ k; omega⟩ rfl (Nat.le_of_ble_eq_true rfl) dX6_readNot_91 (fun _ _ z => z.elim) (fun r h9 q => ?_)
    obtain ⟨rfl, hh⟩ := q
    rw [hh]
    clear hh
    refine zV_drop 3 ?_
    exact JB94 u9 hu9 ke q0 h2 hR hB
  have JB45 : ∀ (u9 : Nat) (hu9 : u9 ≤ 7) (ke : Int) (q0 : Nat) (h2 : zH), (notP T n (decide (ru = 0)) ex p = .inl (ke, q0)) → (bdM h T n ru ke q0 h2) → zV (E, mX6_readNot, d, k, (paM h T n ru c (notP T n (decide (ru = 0)) ex p)), (fun _ _ => False), a) 0 45 [zrv E 64, ziv w, ziv (u9 : Int), .null] [] h2 := by
    intro u9 hu9 ke q0 h2 hR hB
    obtain ⟨hb, hbd⟩ := bdR hB
    refine zV_aload_nr dX6_readNot_45 rfl rfl ?_
    refine zV_bipush dX6_readNot_46 (by decide) ?_
    refine zV_callV (As := [ziv 60]) lk6_228 (rfl) rfl rfl (c6_isMarkedB (d - 1) 0 hb hbd) ⟨by show _ + 1 ≤ d; omega, by show _ ≤ k; omega⟩ rfl (Nat.le_of_ble_eq_true rfl) dX6_readNot_48 (fun _ _ z => z.elim) (fun r h9 q => ?_)
    obtain ⟨rfl, hh⟩ := q
    rw [hh]
    clear hh
    refine zR_if_ne (tgt := 63) dX6_readNot_51 (by decide) (by decide) (fun h51 => ?_) (fun h51 => ?_)
    · exact absurd rfl h51
    · refine zV_aload_nr dX6_readNot_54 rfl rfl ?_
      refine zV_bipush dX6_readNot_55 (by decide) ?_
      refine zV_callV (As := [ziv 61]) lk6_228 (rfl) rfl rfl (c6_isMarkedB (d - 1) 0 hb hbd) ⟨by show _ + 1 ≤ d; omega, by show _ ≤ k; omega⟩ rfl (Nat.le_of_ble_eq_true rfl) dX6_readNot_57 (fun _ _ z => z.elim) (fun r h9 q => ?_)
      obtain ⟨rfl, hh⟩ := q
      rw [hh]
      clear hh
      refine zR_if_eq (tgt := 94) dX6_readNot_60 (by decide) (by decide) (fun h60 => ?_) (fun h60 => ?_)
      · exact JB94 u9 hu9 ke q0 h2 hR hB
      · exact absurd rfl h60
  have JB2 : ∀ (u9 : Nat) (hu9 : u9 ≤ 7) (ke : Int) (q0 : Nat) (h2 : zH), (notP T n (decide (ru = 0)) ex p = .inl (ke, q0)) → (bdM h T n ru ke q0 h2) → zV (E, mX6_readNot, d, k, (paM h T n ru c (notP T n (decide (ru = 0)) ex p)), (fun _ _ => False), a) 0 2 [zrv E 64, ziv w, ziv (u9 : Int), .null] [] h2 := by
    intro u9 hu9 ke q0 h2 hR hB
    obtain ⟨hb, hbd⟩ := bdR hB
    refine zV_aload_nr dX6_readNot_2 rfl rfl ?_
    refine zV_ldsw (i := 37) rfl rfl dX6_readNot_3 ?_
    refine zV_callV (As := [.ref (eK E 37)]) lk6_224 (rfl) rfl rfl (c6_isB (i := 37) (d - 1) 0 hb hbd) ⟨by show _ + 1 ≤ d; omega, by show _ ≤ k; omega⟩ rfl (Nat.le_of_ble_eq_true rfl) dX6_readNot_6 (fun _ _ z => z.elim) (fun r h9 q => ?_)
    obtain ⟨rfl, hh⟩ := q
    rw [hh]
    clear hh
    refine zR_if_eq (tgt := 40) dX6_readNot_9 (by decide) (by decide) (fun h9 => ?_) (fun h9 => ?_)
    · refine zV_aload_nr dX6_readNot_40 rfl rfl ?_
      refine zV_iload_n dX6_readNot_41 rfl rfl ?_
      refine zV_callV (As := [ziv w]) lk6_266 (rfl) rfl rfl (c6_readSumB (d - 1) 0 (by omega) hb hbd) ⟨by show _ + 1 ≤ d; omega, by show _ ≤ k; omega⟩ rfl (Nat.le_of_ble_eq_true rfl) dX6_readNot_42 (fun _ _ z => z.elim) (fun r h9 q => ?_)
      obtain ⟨rfl, hh⟩ := q
      rw [hh]
      clear hh
      exact JB45 u9 hu9 ke q0 h2 hR hB
    · exact absurd rfl h9
  have JB23 : ∀ (ke : Int) (q0 : Nat) (h2 : zH), (notP T n (decide (ru = 0)) ex p = .inl (ke, q0)) → (bdM h T n ru ke q0 h2) → zV (E, mX6_readNot, d, k, (paM h T n ru c (notP T n (decide (ru = 0)) ex p)), (fun _ _ => False), a) 0 23 [zrv E 64, ziv w, ziv ((6 : Nat) : Int), .null] [] h2 := by
    intro ke q0 h2 hR hB
    obtain ⟨hb, hbd⟩ := bdR hB
    refine zV_iinc dX6_readNot_23 rfl (Nat.le_of_ble_eq_true rfl) rfl ?_
    refine zV_aload_nr dX6_readNot_26 rfl rfl ?_
    refine gf6_210 rfl rfl dX6_readNot_27 ?_
    refine zR_if_ne (tgt := 2) dX6_readNot_30 (by decide) (by omega) (fun h30 => ?_) (fun h30 => ?_)
    · exact JB2 7 (by decide) ke q0 h2 hR hB
    · exact absurd h30 hb
  refine zV_iconst dX6_readNot_0 ?_
  refine zV_istore_n dX6_readNot_1 rfl (Nat.le_of_ble_eq_true rfl) rfl ?_
  have L2 : ∀ (m : Nat) (s q1 : Nat) (h1 : zH), (8 ≤ s + m) → (s ≤ 6) → (mst h h1) → (mtok h1 T n q1) → (p + s ≤ q1 ∧ q1 ≤ n) → (ntF T n 6 p = ((ntF T n (6 - s) q1).1 + s, (ntF T n (6 - s) q1).2)) → zV (E, mX6_readNot, d, k, (paM h T n ru c (notP T n (decide (ru = 0)) ex p)), (fun _ _ => False), a) 0 2 [zrv E 64, ziv w, ziv (s : Int), .null] [] h1 := by
    intro m
    induction m with
    | zero => intro s q1 h1 hm_ hs st1 tk1 hq hN; exfalso; omega
    | succ m ih =>
      intro s q1 h1 hm_ hs st1 tk1 hq hN
      obtain ⟨hE1, hp1⟩ := em_1 hp st1 tk1 (by omega) hq.2
      have tl := tB_lo (T := T) hq.2
      have ta := tA_lo (T := T) hq.2
      refine zV_aload_nr dX6_readNot_2 rfl rfl ?_
      refine zV_ldsw (i := 37) rfl rfl dX6_readNot_3 ?_
      refine zV_callV (As := [.ref (eK E 37)]) lk6_224 (rfl) rfl rfl (c6_is (T := T) (n := n) (p := q1) (i := 37) (b := wNot) (d - 1) 0 (by omega) hp1.1 hp1.2.1 hp1.2.2.1 (by rw [hp1.2.2.2.1]; decide) rfl) ⟨by show _ + 1 ≤ d; omega, by show _ ≤ k; omega⟩ rfl (Nat.le_of_ble_eq_true rfl) dX6_readNot_6 (fun _ _ z => z.elim) (fun r h9 q => ?_)
      obtain ⟨rfl, hh⟩ := q
      rw [hh]
      clear hh
      rw [if_and hp1.2.2.2.1]
      refine zR_if_eq (tgt := 40) dX6_readNot_9 (by decide) (by split <;> omega) (fun h9 => ?_) (fun h9 => ?_)
      · have n9 := ipF h9
        have hN1 : ntF T n 6 p = (s, q1) := by
          rw [hN]
          cases e6 : 6 - s with
          | zero => exact Prod.ext (Nat.zero_add s) rfl
          | succ k9 => rw [ntF_s, if_neg n9]; exact Prod.ext (Nat.zero_add s) rfl
        refine zV_aload_nr dX6_readNot_40 rfl rfl ?_
        refine zV_iload_n dX6_readNot_41 rfl rfl ?_
        refine zV_callV (As := [ziv w]) lk6_266 (rfl) rfl rfl (HP h1 c q1 hp1) ⟨by show _ + 1 ≤ d; omega, by show _ ≤ k; omega⟩ rfl (Nat.le_of_ble_eq_true rfl) dX6_readNot_42 (fun _ _ z => z.elim) (fun r h2 q => ?_)
        obtain ⟨rfl, hv9⟩ := paM_v q
        rcases hv9 with ⟨ke, q0, hR0, hB0⟩ | ⟨l2, b2, q2, hR2, hE2b⟩
        · exact JB45 s (by omega) ke q0 h2 (by rw [not_at hN1 n9]; unfold testP; rw [hR0]; rfl) (bd_cat hE1.1 hB0)
        have g2 := gs q1 hq.2
        rw [hR2] at g2
        have g21 : q1 + l2.length ≤ q2 := g2.1
        have g22 : q2 ≤ n := g2.2.2
        have hE2 : emM h T n ru c l2 q2 h2 := em_cat hE1 hE2b
        have hp2 := pre_em hp hE2 (by omega) g22
        have tl2 := tB_lo (T := T) g22
        have ta2 := tA_lo (T := T) g22
        have hRt := (not_at (dr := (decide (ru = 0))) (ex := ex) hN1 n9).trans (congrArg (fun z => bnd z _) (test_at hR2))
        refine zV_aload_nr dX6_readNot_45 rfl rfl ?_
        refine zV_bipush dX6_readNot_46 (by decide) ?_
        refine zV_callV (As := [ziv 60]) lk6_228 (rfl) rfl rfl (c6_isMarked (T := T) (n := n) (p := q2) (d - 1) 0 hp2.1 hp2.2.1 hp2.2.2.1 (by rw [hp2.2.2.2.1]; decide) (by decide) (by decide)) ⟨by show _ + 1 ≤ d; omega, by show _ ≤ k; omega⟩ rfl (Nat.le_of_ble_eq_true rfl) dX6_readNot_48 (fun _ _ z => z.elim) (fun r h9 q => ?_)
        obtain ⟨rfl, hh⟩ := q
        rw [hh]
        clear hh
        rw [if_and hp2.2.2.2.1]
        have J94 : ∀ (l3 : List Int) (b3 : Bool) (q3 : Nat) (h3 : zH), (emM h T n ru c l3 q3 h3) → (notP T n (decide (ru = 0)) ex p = .inr (l3 ++ List.replicate s (-3), b3, q3)) → (c + l3.length + s ≤ q3 ∧ q3 ≤ n) → zV (E, mX6_readNot, d, k, (paM h T n ru c (notP T n (decide (ru = 0)) ex p)), (fun _ _ => False), a) 0 94 [zrv E 64, ziv w, ziv (s : Int), .null] [] h3 := by
          intro l3 b3 q3 h3 hE3 hR3 hq3
          refine zV_iconst dX6_readNot_94 ?_
          refine zV_istore_n dX6_readNot_95 rfl (Nat.le_of_ble_eq_true rfl) rfl ?_
          have L96 : ∀ (m4 : Nat) (k5 : Nat) (h5 : zH), (s + 1 ≤ k5 + m4) → (k5 ≤ s) → (emM h T n ru c (l3 ++ List.replicate k5 (-3)) q3 h5) → zV (E, mX6_readNot, d, k, (paM h T n ru c (notP T n (decide (ru = 0)) ex p)), (fun _ _ => False), a) 0 96 [zrv E 64, ziv w, ziv (s : Int), ziv (k5 : Int)] [] h5 := by
            intro m4
            induction m4 with
            | zero => intro k5 h5 hm_ hk5 hE5; exfalso; omega
            | succ m4 ih4 =>
              intro k5 h5 hm_ hk5 hE5
              refine zV_iload_n dX6_readNot_96 rfl rfl ?_
              refine zV_iload_n dX6_readNot_97 rfl rfl ?_
              refine zR_icmp_ge (tgt := 113) dX6_readNot_98 (by decide) (by omega) (by omega) (fun h98 => ?_) (fun h98 => ?_)
              · exact zV_vreturn dX6_readNot_113 rfl (Nat.zero_le _) ⟨rfl, by rw [hR3, show s = k5 by omega]; exact hE5⟩
              · refine zV_aload_nr dX6_readNot_101 rfl rfl ?_
                refine zV_bipush dX6_readNot_102 (by decide) ?_
                refine zV_callV (As := [ziv (-28)]) lk6_245 (rfl) rfl rfl (c6_layG (ru := ru) (c := c + (l3 ++ List.replicate k5 (-3)).length) (d - 1) 0 hru hE5.2.1 (pre_fr hp hE5.1).2.1 hE5.2.2.1 (by rw [List.length_append, List.length_replicate]; omega)) ⟨by show _ + 1 ≤ d; omega, by show _ ≤ k; omega⟩ rfl (Nat.le_of_ble_eq_true rfl) dX6_readNot_104 (fun _ _ z => z.elim) (fun r h6 q => ?_)
                obtain ⟨rfl, hh⟩ := q
                rw [hh]
                clear hh
                refine zV_iinc dX6_readNot_107 rfl (Nat.le_of_ble_eq_true rfl) rfl ?_
                refine zV_goto (tgt := 96) dX6_readNot_110 (by decide) ?_
                refine ih4 (k5 + 1) _ (by omega) (by omega) ?_
                have := em_lay (v := -3) hru hE5
                rw [List.append_assoc, rep_s] at this
                exact this
          exact L96 (s + 1) 0 h3 (by omega) (by omega) (by show emM h T n ru c (l3 ++ []) q3 h3; rw [List.append_nil]; exact hE3)
        have J63 : (opTst T n q2 ≠ 0) → zV (E, mX6_readNot, d, k, (paM h T n ru c (notP T n (decide (ru = 0)) ex p)), (fun _ _ => False), a) 0 63 [zrv E 64, ziv w, ziv (s : Int), .null] [] h2 := by
          intro  hop
          have tkn := op_k.2.2.2.2 q2 hop
          have tlt := tl2.2.2 tkn
          refine zV_aload_nr dX6_readNot_63 rfl rfl ?_
          refine zV_bipush dX6_readNot_64 (by decide) ?_
          refine zV_callV (As := [ziv 60]) lk6_228 (rfl) rfl rfl (c6_isMarked (T := T) (n := n) (p := q2) (d - 1) 0 hp2.1 hp2.2.1 hp2.2.2.1 (by rw [hp2.2.2.2.1]; decide) (by decide) (by decide)) ⟨by show _ + 1 ≤ d; omega, by show _ ≤ k; omega⟩ rfl (Nat.le_of_ble_eq_true rfl) dX6_readNot_66 (fun _ _ z => z.elim) (fun r h9 q => ?_)
          obtain ⟨rfl, hh⟩ := q
          rw [hh]
          clear hh
          rw [if_and hp2.2.2.2.1]
          have J79 : ∀ (sv : Int), (sv = enc (opTst T n q2)) → zV (E, mX6_readNot, d, k, (paM h T n ru c (notP T n (decide (ru = 0)) ex p)), (fun _ _ => False), a) 0 79 [zrv E 64, ziv w, ziv (s : Int), .null] [ziv sv] h2 := by
            intro sv hsv
            refine zV_istore_n dX6_readNot_79 rfl (Nat.le_of_ble_eq_true rfl) rfl ?_
            refine zV_aload_nr dX6_readNot_80 rfl rfl ?_
            refine zV_callV (As := []) lk6_235 (rfl) rfl rfl (c6_stepOn (T := T) (n := n) (p := tB T n q2) (d - 1) 0 (by omega) hp2.1 hp2.2.1.2.2.1 tl2.2.1) ⟨by show _ + 1 ≤ d; omega, by show _ ≤ k; omega⟩ rfl (Nat.le_of_ble_eq_true rfl) dX6_readNot_81 (fun _ _ z => z.elim) (fun r h3 q => ?_)
            obtain ⟨rfl, st3, tk3⟩ := q
            have hE3 := em_adv hru hE2 st3 tk3
            have hp3 := pre_em hp hE3 (by omega) tl2.2.1
            refine zV_aload_nr dX6_readNot_84 rfl rfl ?_
            refine zV_iload_n dX6_readNot_85 rfl rfl ?_
            refine zV_callV (As := [ziv w]) lk6_266 (rfl) rfl rfl (HP h3 (c + l2.length) (tB T n q2) hp3) ⟨by show _ + 1 ≤ d; omega, by show _ ≤ k; omega⟩ rfl (Nat.le_of_ble_eq_true rfl) dX6_readNot_86 (fun _ _ z => z.elim) (fun r h4 q => ?_)
            obtain ⟨rfl, hv9⟩ := paM_v q
            rcases hv9 with ⟨ke, q0, hR0, hB0⟩ | ⟨l4, b4, q4, hR4, hE4b⟩
            · exact JB89 s (by omega) _ ke q0 h4 (by rw [hRt, if_neg hop, hR0]; rfl) (bd_cat hE3.1 hB0)
            have g4 := gs (tB T n q2) tl2.2.1
            rw [hR4] at g4
            have g41 : tB T n q2 + l4.length ≤ q4 := g4.1
            have g42 : q4 ≤ n := g4.2.2
            have g43 : tB T n q2 < q4 := g4.2.1
            have hE4 : emM h T n ru c (l2 ++ l4) q4 h4 := em_cat hE3 hE4b
            have ll4 : (l2 ++ l4).length = l2.length + l4.length := List.length_append
            have hp4 := pre_em hp hE4 (by omega) g42
            refine zV_aload_nr dX6_readNot_89 rfl rfl ?_
            refine zV_iload_n dX6_readNot_90 rfl rfl ?_
            refine zV_callV (As := [ziv sv]) lk6_245 (rfl) rfl rfl (c6_layG (c := (c + (l2 ++ l4).length)) (d - 1) 0 hru hp4.2.2.2.1 hp4.2.2.2.2.2.1 hp4.2.2.2.2.2.2.1 (by omega)) ⟨by show _ + 1 ≤ d; omega, by show _ ≤ k; omega⟩ rfl (Nat.le_of_ble_eq_true rfl) dX6_readNot_91 (fun _ _ z => z.elim) (fun r h5 q => ?_)
            obtain ⟨rfl, hh⟩ := q
            rw [hh]
            clear hh
            refine zV_drop 3 ?_
            refine J94 (l2 ++ (l4 ++ [opTst T n q2])) (b2 || b4) q4 _ ?_ (by rw [hRt, if_neg hop, hR4]; rfl) (by simp only [List.length_append, List.length_cons, List.length_nil]; omega)
            have := em_lay (v := opTst T n q2) hru hE4
            rw [List.append_assoc] at this
            rw [hsv]
            exact this
          refine zR_if_eq (tgt := 77) dX6_readNot_69 (by decide) (by split <;> omega) (fun h69 => ?_) (fun h69 => ?_)
          · have n69 := ipF h69
            refine zV_bipush dX6_readNot_77 (by decide) ?_
            exact J79 _ (by rw [opTst_e hop n69]; rfl)
          · have y69 := ipT h69
            refine zV_bipush dX6_readNot_72 (by decide) ?_
            refine zV_goto (tgt := 79) dX6_readNot_74 (by decide) ?_
            exact J79 _ (by unfold opTst; rw [if_pos y69]; rfl)
        refine zR_if_ne (tgt := 63) dX6_readNot_51 (by decide) (by split <;> omega) (fun h51 => ?_) (fun h51 => ?_)
        · have y51 := ipT h51
          exact J63 (by unfold opTst; rw [if_pos y51]; decide)
        · have n51 := ipF h51
          refine zV_aload_nr dX6_readNot_54 rfl rfl ?_
          refine zV_bipush dX6_readNot_55 (by decide) ?_
          refine zV_callV (As := [ziv 61]) lk6_228 (rfl) rfl rfl (c6_isMarked (T := T) (n := n) (p := q2) (d - 1) 0 hp2.1 hp2.2.1 hp2.2.2.1 (by rw [hp2.2.2.2.1]; decide) (by decide) (by decide)) ⟨by show _ + 1 ≤ d; omega, by show _ ≤ k; omega⟩ rfl (Nat.le_of_ble_eq_true rfl) dX6_readNot_57 (fun _ _ z => z.elim) (fun r h9 q => ?_)
          obtain ⟨rfl, hh⟩ := q
          rw [hh]
          clear hh
          rw [if_and hp2.2.2.2.1]
          refine zR_if_eq (tgt := 94) dX6_readNot_60 (by decide) (by split <;> omega) (fun h60 => ?_) (fun h60 => ?_)
          · have n60 := ipF h60
            exact J94 l2 b2 q2 h2 hE2 (by rw [hRt, if_pos (by unfold opTst; rw [if_neg n51, if_neg n60])]; rfl) (by omega)
          · have y60 := ipT h60
            exact J63 (by unfold opTst; rw [if_neg n51, if_pos y60]; decide)
      · have y9 := ipT h9
        refine zV_iload_n dX6_readNot_12 rfl rfl ?_
        refine zV_bipush dX6_readNot_13 (by decide) ?_
        refine zR_icmp_ne (tgt := 23) dX6_readNot_15 (by decide) (by omega) (by decide) (fun h15 => ?_) (fun h15 => ?_)
        · refine zV_iinc dX6_readNot_23 rfl (Nat.le_of_ble_eq_true rfl) rfl ?_
          refine zV_aload_nr dX6_readNot_26 rfl rfl ?_
          refine gf6_210 rfl rfl dX6_readNot_27 ?_
          refine zR_if_ne (tgt := 2) dX6_readNot_30 (by decide) (by rw [hp1.2.2.2.1]; decide) (fun h30 => ?_) (fun h30 => ?_)
          · exact absurd hp1.2.2.2.1 h30
          · refine zV_aload_nr dX6_readNot_33 rfl rfl ?_
            refine zV_callV (As := []) lk6_235 (rfl) rfl rfl (c6_stepOn (T := T) (n := n) (p := tB T n q1) (d - 1) 0 (by omega) hp1.1 hp1.2.1.2.2.1 tl.2.1) ⟨by show _ + 1 ≤ d; omega, by show _ ≤ k; omega⟩ rfl (Nat.le_of_ble_eq_true rfl) dX6_readNot_34 (fun _ _ z => z.elim) (fun r h2 q => ?_)
            obtain ⟨rfl, st2, tk2⟩ := q
            refine zV_goto (tgt := 2) dX6_readNot_37 (by decide) ?_
            have tlt := tl.2.2 (by rw [(isW_k y9).1]; decide)
            exact ih (s + 1) (tB T n q1) h2 (by omega) (by omega) (mst_trans st1 st2) tk2 ⟨by omega, tl.2.1⟩ (by rw [hN, show 6 - s = (6 - (s + 1)) + 1 by omega, ntF_s, if_pos y9]; exact Prod.ext (by show _ + 1 + s = _ + (s + 1); omega) rfl)
        · refine zV_aload_nr dX6_readNot_18 rfl rfl ?_
          refine zV_iconst dX6_readNot_19 ?_
          refine zV_callV (As := [ziv 2]) lk6_231 (rfl) rfl rfl (c6_wrong (d - 1) 0 (by rw [hp1.2.2.2.1]; decide)) ⟨by show _ + 1 ≤ d; omega, by show _ ≤ k; omega⟩ rfl (Nat.le_of_ble_eq_true rfl) dX6_readNot_20 (fun _ _ z => z.elim) (fun r h2 q => ?_)
          obtain ⟨rfl, hh⟩ := q
          rw [if_pos hp1.2.2.2.1] at hh
          rw [hh]
          have e6 : 6 = s := by omega
          subst e6
          exact JB23 2 q1 _ (by
            unfold notP
            rw [hN]
            exact if_pos ⟨rfl, y9⟩) (bd_wrg hru hE1.1 tk1 (by decide))
  exact L2 8 0 p h (by omega) (by omega) (mst_rfl h) hp.2.1 ⟨by omega, hpn⟩ rfl
theorem c6_readExpr {E : zE} {T : Nat → Int} {n ru : Nat} : ∀ (j d k : Nat) (h : zH) (c p w : Nat), w + j = 6 → 6 * j + 14 ≤ d → preM h T n ru c p → zCal E mX6_readExpression d k [zrv E 64, ziv (w : Int)] h (paM h T n ru c (exprP T n (decide (ru = 0)) j p)) (fun _ _ => False) := by
  intro j
  induction j with
  | zero => intro d k h c p w hw hd hp; exact c6_readExpression0 hp (by omega) (by omega)
  | succ j ih =>
    intro d k h c p w hw hd hp
    have he : ∀ p, p ≤ n → good n p (exprP T n (decide (ru = 0)) j p) := fun p hp => good_expr (T := T) (n := n) (dr := decide (ru = 0)) j p hp
    have a5 : ∀ (h : zH) (c p : Nat), preM h T n ru c p → zCal E mX6_readPart (d - 1 - 1 - 1 - 1 - 1) 0 [zrv E 64, ziv (w : Int)] h (paM h T n ru c (partP T n (decide (ru = 0)) (exprP T n (decide (ru = 0)) j) p)) (fun _ _ => False) := fun h2 c2 p2 hp2 => c6_readPart he hp2 (by omega) (fun h3 c3 p3 hp3 => by
      have := ih (d - 1 - 1 - 1 - 1 - 1 - 1) 0 h3 c3 p3 (w + 1) (by omega) (by omega) hp3
      exact this)
    have a4 : ∀ (h : zH) (c p : Nat), preM h T n ru c p → zCal E mX6_readProduct (d - 1 - 1 - 1 - 1) 0 [zrv E 64, ziv (w : Int)] h (paM h T n ru c (prodP T n (decide (ru = 0)) (exprP T n (decide (ru = 0)) j) p)) (fun _ _ => False) := fun h2 c2 p2 hp2 => c6_readProduct he hp2 (by omega) a5
    have a3 : ∀ (h : zH) (c p : Nat), preM h T n ru c p → zCal E mX6_readSum (d - 1 - 1 - 1) 0 [zrv E 64, ziv (w : Int)] h (paM h T n ru c (sumP T n (decide (ru = 0)) (exprP T n (decide (ru = 0)) j) p)) (fun _ _ => False) := fun h2 c2 p2 hp2 => c6_readSum he hp2 (by omega) a4
    have a2 : ∀ (h : zH) (c p : Nat), preM h T n ru c p → zCal E mX6_readNot (d - 1 - 1) 0 [zrv E 64, ziv (w : Int)] h (paM h T n ru c (notP T n (decide (ru = 0)) (exprP T n (decide (ru = 0)) j) p)) (fun _ _ => False) := fun h2 c2 p2 hp2 => c6_readNot he hp2 (by omega) a3
    have a1 : ∀ (h : zH) (c p : Nat), preM h T n ru c p → zCal E mX6_readAnd (d - 1) 0 [zrv E 64, ziv (w : Int)] h (paM h T n ru c (andP T n (decide (ru = 0)) (exprP T n (decide (ru = 0)) j) p)) (fun _ _ => False) := fun h2 c2 p2 hp2 => c6_readAnd he hp2 (by omega) a2
    exact c6_readExpression1 he hp (by omega) (by omega) a1

