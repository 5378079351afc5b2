/-! THE REFERENCE: parts, tests, ands, ors -/
theorem enc_nn {x : Int} (h : 0 ≤ x) : enc x = x := by unfold enc; rw [if_pos h]
theorem rn_v {h : zH} {T : Nat → Int} {n p : Nat} {lo hi : Int} {r : Option Value} {h' : zH} (hq : match numP T n lo hi p with
  | .inr (a, q) => r = some (ziv a) ∧ mst h h' ∧ mtok h' T n q
  | .inl (k, _) => r = some (ziv 0) ∧ h' = wrg h k) : (∃ k, numP T n lo hi p = .inl (k, p) ∧ (k = 1 ∨ k = 2) ∧ r = some (ziv 0) ∧ h' = wrg h k) ∨ (numP T n lo hi p = .inr (tV T n p, tB T n p) ∧ (lo ≤ tV T n p ∧ tV T n p ≤ hi) ∧ (tK T n p = 2 ∧ tB T n p - tA T n p ≤ 4) ∧ r = some (ziv (tV T n p)) ∧ mst h h' ∧ mtok h' T n (tB T n p)) := by
  unfold numP at hq ⊢
  by_cases e1 : tK T n p = 2
  · by_cases e2 : tB T n p - tA T n p ≤ 4 ∧ lo ≤ tV T n p ∧ tV T n p ≤ hi
    · rw [if_pos e1, if_pos e2] at hq ⊢; exact Or.inr ⟨rfl, e2.2, ⟨e1, e2.1⟩, hq⟩
    · rw [if_pos e1, if_neg e2] at hq ⊢; exact Or.inl ⟨2, rfl, Or.inr rfl, hq⟩
  · rw [if_neg e1] at hq ⊢; exact Or.inl ⟨1, rfl, Or.inl rfl, hq⟩
def vN (ru : Nat) : Nat := if ru = 0 then 7 else 5
def vW (j : Nat) : List Int := zstb.getD (30 + j) []
theorem vsh {ru : Nat} (h : ru = 0 ∨ ru = 1) : zsh[66 + ru]? = some (.inr (3, vN ru)) ∧ vN ru ≤ 7 := by rcases h with rfl | rfl <;> exact ⟨rfl, by decide⟩
theorem vws : ∀ j, j < 7 → zstb[30 + j]? = some (vW j) := by decide
theorem v_hi {h : zH} {ru : Nat} (hru : ru = 0 ∨ ru = 1) (hs : strI h) : ∀ j, j < vN ru → h (66 + ru) j = ((30 + j : Nat) : Int) ∧ zstb[30 + j]? = some (vW j) := by
  rcases hru with rfl | rfl
  · exact fun j hj => ⟨hs.2.1 j hj, vws j hj⟩
  · exact fun j hj => ⟨hs.2.2 j hj, vws j (by have : j < 5 := hj; omega)⟩
theorem vb7 : ∀ b0 b1 b2 b3 b4 b5 b6 : Bool, (if b0 = true then (-10 : Int) else if b1 = true then -11 else if b2 = true then -12 else if b3 = true then -13 else if b4 = true then -14 else if b5 = true then -15 else if b6 = true then -16 else 0) = if (if b0 = true then ((0 : Nat) : Int) else if b1 = true then ((1 : Nat) : Int) else if b2 = true then ((2 : Nat) : Int) else if b3 = true then ((3 : Nat) : Int) else if b4 = true then ((4 : Nat) : Int) else if b5 = true then ((5 : Nat) : Int) else if b6 = true then ((6 : Nat) : Int) else -1) = -1 then 0 else -10 - (if b0 = true then ((0 : Nat) : Int) else if b1 = true then ((1 : Nat) : Int) else if b2 = true then ((2 : Nat) : Int) else if b3 = true then ((3 : Nat) : Int) else if b4 = true then ((4 : Nat) : Int) else if b5 = true then ((5 : Nat) : Int) else if b6 = true then ((6 : Nat) : Int) else -1) := by decide
theorem vb5 : ∀ b0 b1 b2 b3 b4 : Bool, (if b0 = true then (-10 : Int) else if b1 = true then -11 else if b2 = true then -12 else if b3 = true then -13 else if b4 = true then -14 else 0) = if (if b0 = true then ((0 : Nat) : Int) else if b1 = true then ((1 : Nat) : Int) else if b2 = true then ((2 : Nat) : Int) else if b3 = true then ((3 : Nat) : Int) else if b4 = true then ((4 : Nat) : Int) else -1) = -1 then 0 else -10 - (if b0 = true then ((0 : Nat) : Int) else if b1 = true then ((1 : Nat) : Int) else if b2 = true then ((2 : Nat) : Int) else if b3 = true then ((3 : Nat) : Int) else if b4 = true then ((4 : Nat) : Int) else -1) := by decide
theorem val_w {T : Nat → Int} {n p ru : Nat} (hru : ru = 0 ∨ ru = 1) : valN T n (decide (ru = 0)) p = if fstB (fun j => isW T n p (vW j)) 0 (vN ru) = -1 then 0 else -10 - fstB (fun j => isW T n p (vW j)) 0 (vN ru) := by
  have e0 : vW 0 = wLevel := rfl
  have e1 : vW 1 = wMost := rfl
  have e2 : vW 2 = wWhere := rfl
  have e3 : vW 3 = wOdd := rfl
  have e4 : vW 4 = wCase := rfl
  have e5 : vW 5 = wThirst := rfl
  have e6 : vW 6 = wSeat := rfl
  rcases hru with rfl | rfl
  · show valN T n true p = if fstB (fun j => isW T n p (vW j)) 0 7 = -1 then 0 else -10 - fstB (fun j => isW T n p (vW j)) 0 7
    simp only [fstB, valN, e0, e1, e2, e3, e4, e5, e6, Nat.zero_add, Nat.reduceAdd, true_and]
    exact vb7 _ _ _ _ _ _ _
  · show valN T n false p = if fstB (fun j => isW T n p (vW j)) 0 5 = -1 then 0 else -10 - fstB (fun j => isW T n p (vW j)) 0 5
    simp only [fstB, valN, e0, e1, e2, e3, e4, Nat.zero_add, Nat.reduceAdd, Bool.false_eq_true, false_and, if_false]
    exact vb5 _ _ _ _ _
theorem fst_and {P : Prop} [Decidable P] {f : Nat → Bool} (hP : P) (m s : Nat) : fstB (fun j => decide P && f j) s m = fstB f s m := by rw [decide_eq_true hP]; rfl
theorem part_1 {T : Nat → Int} {n p : Nat} {dr : Bool} {ex : Nat → zR} (h1 : ¬ isS T n p 40 = true) (h2 : ¬ tK T n p = 1) (h3 : ¬ tK T n p = 2) : partP T n dr ex p = .inl (1, p) := by unfold partP; rw [if_neg h1, if_neg h2, if_neg h3]
theorem notS {T : Nat → Int} {n p : Nat} {c : Int} {k : Int} (h : tK T n p = k) (hk : k ≠ 3) : ¬ isS T n p c = true := fun z => hk (h.symm.trans (isS_k z))
theorem or_bad {T : Nat → Int} {n p : Nat} {dr : Bool} {ex : Nat → zR} (h1 : ¬ isS T n p 40 = true) (h2 : ¬ tK T n p = 1) (h3 : ¬ tK T n p = 2) : orP T n dr ex p = .inl (1, p) := by
  have a1 : prodP T n dr ex p = .inl (1, p) := by unfold prodP; rw [part_1 h1 h2 h3]; rfl
  have a2 : sumP T n dr ex p = .inl (1, p) := by unfold sumP; rw [a1]; rfl
  have a3 : testP T n dr ex p = .inl (1, p) := by unfold testP; rw [a2]; rfl
  have a4 : ntF T n 6 p = (0, p) := by rw [ntF_s, if_neg (fun z => h2 (isW_k z).1)]
  have a5 : notP T n dr ex p = .inl (1, p) := by
    unfold notP
    rw [a4, if_neg (fun z => absurd (show (0 : Nat) = 6 from z.1) (by decide))]
    show bnd (testP T n dr ex p) _ = _
    rw [a3]; rfl
  have a6 : andP T n dr ex p = .inl (1, p) := by unfold andP; rw [a5]; rfl
  unfold orP; rw [a6]; rfl
theorem em_1 {h h1 : zH} {T : Nat → Int} {n ru c p q : Nat} (hp : preM h T n ru c p) (hs : mst h h1) (ht : mtok h1 T n q) (hq : c ≤ q) (hn : q ≤ n) : emM h T n ru c [] q h1 ∧ preM h1 T n ru c q := by
  have e := em_adv hp.2.2.2.2.1 (em_0 hp) hs ht
  exact ⟨e, pre_em hp e hq hn⟩

theorem tV_nn {T : Nat → Int} {n p : Nat} (h : tK T n p = 2) : 0 ≤ tV T n p := by
  unfold tK at h
  unfold tV
  split at h
  · exact absurd h (by decide)
  · rename_i a1
    split at h
    · exact absurd h (by decide)
    · rename_i a2
      split at h
      · rename_i a3
        rw [if_neg a1, if_neg a2, if_pos a3]
        have h2 : ∀ a k p v, 0 ≤ v → 0 ≤ (dgF T n a k p v).2 := by
          intro a k
          induction k with
          | zero => intro p v hv; exact hv
          | succ k ih =>
            intro p v hv
            rw [dgF_s]
            split
            · rename_i e
              have : 48 ≤ T p ∧ T p ≤ 57 := of_decide_eq_true e.2
              exact ih _ _ (by split <;> omega)
            · exact hv
        exact h2 _ _ _ _ (by decide)
      · exact absurd h (by decide)

set_option maxRecDepth 100000 in
theorem c6_readPart {E : zE} {h : zH} {T : Nat → Int} {n ru c p : Nat} {ex : Nat → zR} {w : Int} {d k : Nat} (he : ∀ p, p ≤ n → good n p (ex p)) (hp : preM h T n ru c p) (hd : 9 ≤ d) (HP : ∀ (h : zH) (c p : Nat), preM h T n ru c p → zCal E mX6_readExpression (d - 1) 0 [zrv E 64, ziv (w + 1)] h (paM h T n ru c (ex p)) (fun _ _ => False)) : zCal E mX6_readPart d k [zrv E 64, ziv w] h (paM h T n ru c (partP T n (decide (ru = 0)) ex p)) (fun _ _ => False) := by
  refine zCal_of (by decide) (Nat.le_of_ble_eq_true rfl) (fun a => ?_)
  show zV _ 0 0 [zrv E 64, ziv w, .null] [] _
  have hk := hp.1
  have hn7 := hk.2.1
  have hru := hp.2.2.2.2.1
  have hpn := hp.2.2.1
  have hcp := hp.2.2.2.2.2.2.2.1
  have hb0 := hp.2.2.2.1
  obtain ⟨t1, t2, t3, t4, t5⟩ := id hp.2.1
  have q4 := tQ_lo T n p
  have tl := tB_lo (T := T) hpn
  have ta := tA_lo (T := T) hpn
  have JB25 : ∀ (ke : Int) (q0 : Nat) (h2 : zH), (partP T n (decide (ru = 0)) ex p = .inl (ke, q0)) → (bdM h T n ru ke q0 h2) → zV (E, mX6_readPart, d, k, (paM h T n ru c (partP T n (decide (ru = 0)) ex p)), (fun _ _ => False), a) 0 25 [zrv E 64, ziv w, .null] [ziv 0, zrv E 64] h2 := by
    intro ke q0 h2 hR hB
    obtain ⟨hb, hbd⟩ := bdR hB
    refine zV_callV (As := [ziv 0]) lk6_245 (rfl) rfl rfl (c6_layB (d - 1) 0 hb hbd) ⟨by show _ + 1 ≤ d; omega, by show _ ≤ k; omega⟩ rfl (Nat.le_of_ble_eq_true rfl) dX6_readPart_25 (fun _ _ z => z.elim) (fun r h9 q => ?_)
    obtain ⟨rfl, hh⟩ := q
    rw [hh]
    clear hh
    exact zV_vreturn dX6_readPart_28 rfl (Nat.zero_le _) ⟨rfl, by rw [hR]; exact hB⟩
  have JB56 : ∀ (v : Int) (ke : Int) (q0 : Nat) (h2 : zH), (partP T n (decide (ru = 0)) ex p = .inl (ke, q0)) → (bdM h T n ru ke q0 h2) → zV (E, mX6_readPart, d, k, (paM h T n ru c (partP T n (decide (ru = 0)) ex p)), (fun _ _ => False), a) 0 56 [zrv E 64, ziv w, ziv v] [] h2 := by
    intro v ke q0 h2 hR hB
    obtain ⟨hb, hbd⟩ := bdR hB
    refine zV_aload_nr dX6_readPart_56 rfl rfl ?_
    refine zV_iconst dX6_readPart_57 ?_
    refine zV_iload_n dX6_readPart_58 rfl rfl ?_
    refine zV_isub dX6_readPart_59 ?_
    refine zV_callV (As := [ziv (-1 - v)]) lk6_245 (rfl) rfl rfl (c6_layB (d - 1) 0 hb hbd) ⟨by show _ + 1 ≤ d; omega, by show _ ≤ k; omega⟩ rfl (Nat.le_of_ble_eq_true rfl) dX6_readPart_60 (fun _ _ z => z.elim) (fun r h9 q => ?_)
    obtain ⟨rfl, hh⟩ := q
    rw [hh]
    clear hh
    refine zV_aload_nr dX6_readPart_63 rfl rfl ?_
    refine gf6_210 rfl rfl dX6_readPart_64 ?_
    refine zR_if_ne (tgt := 74) dX6_readPart_67 (by decide) (by omega) (fun h67 => ?_) (fun h67 => ?_)
    · exact zV_vreturn dX6_readPart_74 rfl (Nat.zero_le _) ⟨rfl, by rw [hR]; exact hB⟩
    · exact absurd h67 hb
  have JB88 : ∀ (ke : Int) (q0 : Nat) (h2 : zH), (partP T n (decide (ru = 0)) ex p = .inl (ke, q0)) → (bdM h T n ru ke q0 h2) → zV (E, mX6_readPart, d, k, (paM h T n ru c (partP T n (decide (ru = 0)) ex p)), (fun _ _ => False), a) 0 88 [zrv E 64, ziv w, .null] [] h2 := by
    intro ke q0 h2 hR hB
    obtain ⟨hb, hbd⟩ := bdR hB
    refine zV_aload_nr dX6_readPart_88 rfl rfl ?_
    refine zV_bipush dX6_readPart_89 (by decide) ?_
    refine zV_callV (As := [ziv 41]) lk6_252 (rfl) rfl rfl (c6_markB (d - 1) 0 hb hbd) ⟨by show _ + 1 ≤ d; omega, by show _ ≤ k; omega⟩ rfl (Nat.le_of_ble_eq_true rfl) dX6_readPart_91 (fun _ _ z => z.elim) (fun r h9 q => ?_)
    obtain ⟨rfl, hh⟩ := q
    rw [hh]
    clear hh
    exact zV_vreturn dX6_readPart_94 rfl (Nat.zero_le _) ⟨rfl, by rw [hR]; exact hB⟩
  have JB81 : ∀ (ke : Int) (q0 : Nat) (h2 : zH), (partP T n (decide (ru = 0)) ex p = .inl (ke, q0)) → (bdM h T n ru ke q0 h2) → zV (E, mX6_readPart, d, k, (paM h T n ru c (partP T n (decide (ru = 0)) ex p)), (fun _ _ => False), a) 0 81 [zrv E 64, ziv w, .null] [] h2 := by
    intro ke q0 h2 hR hB
    obtain ⟨hb, hbd⟩ := bdR hB
    refine zV_aload_nr dX6_readPart_81 rfl rfl ?_
    refine zV_iload_n dX6_readPart_82 rfl rfl ?_
    refine zV_iconst dX6_readPart_83 ?_
    refine zV_iadd dX6_readPart_84 ?_
    refine zV_callV (As := [ziv (w + 1)]) lk6_255 (rfl) rfl rfl (c6_readExpressionB (d - 1) 0 hb hbd) ⟨by show _ + 1 ≤ d; omega, by show _ ≤ k; omega⟩ rfl (Nat.le_of_ble_eq_true rfl) dX6_readPart_85 (fun _ _ z => z.elim) (fun r h9 q => ?_)
    obtain ⟨rfl, hh⟩ := q
    rw [hh]
    clear hh
    refine zV_aload_nr dX6_readPart_88 rfl rfl ?_
    refine zV_bipush dX6_readPart_89 (by decide) ?_
    refine zV_callV (As := [ziv 41]) lk6_252 (rfl) rfl rfl (c6_markB (d - 1) 0 hb hbd) ⟨by show _ + 1 ≤ d; omega, by show _ ≤ k; omega⟩ rfl (Nat.le_of_ble_eq_true rfl) dX6_readPart_91 (fun _ _ z => z.elim) (fun r h9 q => ?_)
    obtain ⟨rfl, hh⟩ := q
    rw [hh]
    clear hh
    exact zV_vreturn dX6_readPart_94 rfl (Nat.zero_le _) ⟨rfl, by rw [hR]; exact hB⟩
  refine zV_aload_nr dX6_readPart_0 rfl rfl ?_
  refine gf6_210 rfl rfl dX6_readPart_1 ?_
  refine zR_if_eq (tgt := 8) dX6_readPart_4 (by decide) (by omega) (fun h4 => ?_) (fun h4 => ?_)
  · refine zV_aload_nr dX6_readPart_8 rfl rfl ?_
    refine gf6_184 rfl rfl dX6_readPart_9 ?_
    rw [t4]
    refine zV_iconst dX6_readPart_12 ?_
    refine zR_icmp_ne (tgt := 29) dX6_readPart_13 (by decide) (by omega) (by decide) (fun h13 => ?_) (fun h13 => ?_)
    · have k22 : ¬ tK T n p = 2 := fun z => h13 (tQ_2.mpr z)
      refine zV_aload_nr dX6_readPart_29 rfl rfl ?_
      refine gf6_184 rfl rfl dX6_readPart_30 ?_
      rw [t4]
      refine zV_iconst dX6_readPart_33 ?_
      refine zR_icmp_ne (tgt := 75) dX6_readPart_34 (by decide) (by omega) (by decide) (fun h34 => ?_) (fun h34 => ?_)
      · have k11 : ¬ tK T n p = 1 := fun z => h34 (tQ_1.mpr z)
        refine zV_aload_nr dX6_readPart_75 rfl rfl ?_
        refine zV_bipush dX6_readPart_76 (by decide) ?_
        refine zV_callV (As := [ziv 40]) lk6_252 (rfl) rfl rfl (c6_mark (T := T) (n := n) (p := p) (d - 1) 0 (by omega) hk hp.2.1 hpn hb0 (by decide) (by decide)) ⟨by show _ + 1 ≤ d; omega, by show _ ≤ k; omega⟩ rfl (Nat.le_of_ble_eq_true rfl) dX6_readPart_78 (fun _ _ z => z.elim) (fun r h2 q => ?_)
        obtain ⟨rfl, hm9⟩ := q
        by_cases n40 : ¬ isS T n p 40 = true
        · exact JB81 1 p h2 (part_1 n40 k11 k22) (by rw [if_neg n40] at hm9; rw [hm9]; exact bd_wrg hru (mfr_rfl h ru) hp.2.1 (by decide))
        have y40 := Decidable.not_not.mp n40
        rw [if_pos y40] at hm9
        have tlt := tl.2.2 (by rw [isS_k y40]; decide)
        obtain ⟨hE1, hp2⟩ := em_1 hp hm9.1 hm9.2 (by omega) tl.2.1
        refine zV_aload_nr dX6_readPart_81 rfl rfl ?_
        refine zV_iload_n dX6_readPart_82 rfl rfl ?_
        refine zV_iconst dX6_readPart_83 ?_
        refine zV_iadd dX6_readPart_84 ?_
        refine zV_callV (As := [ziv (w + 1)]) lk6_255 (rfl) rfl rfl (HP h2 c (tB T n p) hp2) ⟨by show _ + 1 ≤ d; omega, by show _ ≤ k; omega⟩ rfl (Nat.le_of_ble_eq_true rfl) dX6_readPart_85 (fun _ _ z => z.elim) (fun r h3 q => ?_)
        obtain ⟨rfl, hv9⟩ := paM_v q
        rcases hv9 with ⟨ke, q0, hR0, hB0⟩ | ⟨l2, b2, q2, hR2, hE2b⟩
        · exact JB88 ke q0 h3 (by unfold partP; rw [if_pos y40, hR0]; rfl) (bd_cat hE1.1 hB0)
        have g2 := he (tB T n p) tl.2.1
        rw [hR2] at g2
        have g21 : tB T n p + l2.length ≤ q2 := g2.1
        have g22 : q2 ≤ n := g2.2.2
        have hE3 : emM h T n ru c l2 q2 h3 := em_cat hE1 hE2b
        have hp3 := pre_em hp hE3 (by omega) g22
        refine zV_aload_nr dX6_readPart_88 rfl rfl ?_
        refine zV_bipush dX6_readPart_89 (by decide) ?_
        refine zV_callV (As := [ziv 41]) lk6_252 (rfl) rfl rfl (c6_mark (T := T) (n := n) (p := q2) (d - 1) 0 (by omega) hp3.1 hp3.2.1 g22 hp3.2.2.2.1 (by decide) (by decide)) ⟨by show _ + 1 ≤ d; omega, by show _ ≤ k; omega⟩ rfl (Nat.le_of_ble_eq_true rfl) dX6_readPart_91 (fun _ _ z => z.elim) (fun r h4 q => ?_)
        obtain ⟨rfl, hm4⟩ := q
        exact zV_vreturn dX6_readPart_94 rfl (Nat.zero_le _) ⟨rfl, by
            by_cases y41 : isS T n q2 41 = true
            · rw [if_pos y41] at hm4
              have eR : partP T n (decide (ru = 0)) ex p = .inr (l2, b2, tB T n q2) := by unfold partP; rw [if_pos y40, hR2]; show (if isS T n q2 41 = true then _ else _) = _; rw [if_pos y41]
              rw [eR]
              exact em_adv hru hE3 hm4.1 hm4.2
            · rw [if_neg y41] at hm4
              have eR : partP T n (decide (ru = 0)) ex p = .inl (1, q2) := by unfold partP; rw [if_pos y40, hR2]; show (if isS T n q2 41 = true then _ else _) = _; rw [if_neg y41]
              rw [eR, hm4]
              exact bd_wrg hru hE3.1 hp3.2.1 (by decide)⟩
      · have k11 := tQ_1.mp h34
        obtain ⟨vv, hvv⟩ : ∃ vv, vv = fstB (fun j => isW T n p (vW j)) 0 (vN ru) := ⟨_, rfl⟩
        have vval := val_w (T := T) (n := n) (p := p) hru
        rw [← hvv] at vval
        have vnn := fstB_nn (fun j => isW T n p (vW j)) (vN ru) 0
        rw [← hvv] at vnn
        have v7 := (vsh hru).2
        have vr : -1 ≤ vv ∧ vv ≤ 7 := by rcases vnn with e | ⟨p9, e, e2⟩ <;> omega
        refine zV_aload_nr dX6_readPart_37 rfl rfl ?_
        refine zV_aload_nr dX6_readPart_38 rfl rfl ?_
        refine gf6_39 (t := (66 + ru)) (hp.2.2.2.2.2.2.2.2.1) rfl (rfl) dX6_readPart_39 ?_
        refine zV_callV (As := [zrv E (66 + ru)]) lk6_248 (rfl) rfl rfl (c6_which (T := T) (n := n) (p := p) (c := 66 + ru) (N := vN ru) (i0 := 30) (W := vW) (d - 1) 0 (by omega) (vsh hru).1 (vsh hru).2 hk hp.2.1 hpn (by rw [hb0]; decide) (v_hi hru hp.2.2.2.2.2.2.2.2.2)) ⟨by show _ + 1 ≤ d; omega, by show _ ≤ k; omega⟩ rfl (Nat.le_of_ble_eq_true rfl) dX6_readPart_42 (fun _ _ z => z.elim) (fun r h9 q => ?_)
        obtain ⟨rfl, hh⟩ := q
        rw [hh]
        clear hh
        refine zV_teq (w := ziv vv) (congrArg ziv (by rw [fst_and hb0, hvv])) ?_
        refine zV_istore_n dX6_readPart_45 rfl (Nat.le_of_ble_eq_true rfl) rfl ?_
        refine zV_iload_n dX6_readPart_46 rfl rfl ?_
        refine zV_iconst dX6_readPart_47 ?_
        refine zR_icmp_ne (tgt := 56) dX6_readPart_48 (by decide) (by clear vnn; omega) (by decide) (fun h48 => ?_) (fun h48 => ?_)
        · obtain ⟨pv, hpv, hpv2⟩ : ∃ pv : Nat, vv = (pv : Int) ∧ pv < 0 + vN ru := by rcases vnn with e | e; exact absurd e h48; exact e
          rw [if_neg h48] at vval
          refine zV_aload_nr dX6_readPart_56 rfl rfl ?_
          refine zV_iconst dX6_readPart_57 ?_
          refine zV_iload_n dX6_readPart_58 rfl rfl ?_
          refine zV_isub dX6_readPart_59 ?_
          refine zV_callV (As := [ziv (-1 - vv)]) lk6_245 (rfl) rfl rfl (c6_layG (ru := ru) (c := c) (d - 1) 0 hru hb0 hp.2.2.2.2.2.1 hp.2.2.2.2.2.2.1 (by have := tl.2.2 (by rw [k11]; decide); omega)) ⟨by show _ + 1 ≤ d; omega, by show _ ≤ k; omega⟩ rfl (Nat.le_of_ble_eq_true rfl) dX6_readPart_60 (fun _ _ z => z.elim) (fun r h4 q => ?_)
          obtain ⟨rfl, hh⟩ := q
          have hE1 := em_lay (v := valN T n (decide (ru = 0)) p) hru (em_0 hp)
          rw [show enc (valN T n (decide (ru = 0)) p) = -1 - vv by rw [vval]; unfold enc; rw [if_neg (by omega), if_pos (by omega)]; omega] at hE1
          have hE1 : emM h T n ru c [valN T n (decide (ru = 0)) p] p h4 := by rw [hh]; exact hE1
          have z24 := hE1.2.1
          refine zV_aload_nr dX6_readPart_63 rfl rfl ?_
          refine gf6_210 rfl rfl dX6_readPart_64 ?_
          refine zR_if_ne (tgt := 74) dX6_readPart_67 (by decide) (by rw [z24]; decide) (fun h67 => ?_) (fun h67 => ?_)
          · exact absurd z24 h67
          · refine zV_aload_nr dX6_readPart_70 rfl rfl ?_
            refine zV_callV (As := []) lk6_235 (rfl) rfl rfl (c6_stepOn (T := T) (n := n) (p := tB T n p) (d - 1) 0 (by omega) (pre_fr hp hE1.1).1 hE1.2.2.2.2.2.2.2.1 tl.2.1) ⟨by show _ + 1 ≤ d; omega, by show _ ≤ k; omega⟩ rfl (Nat.le_of_ble_eq_true rfl) dX6_readPart_71 (fun _ _ z => z.elim) (fun r h5 q => ?_)
            obtain ⟨rfl, st5, tk5⟩ := q
            have hE5 := em_adv hru hE1 st5 tk5
            exact zV_vreturn dX6_readPart_74 rfl (Nat.zero_le _) ⟨rfl, by
                have eR : partP T n (decide (ru = 0)) ex p = .inr ([valN T n (decide (ru = 0)) p], decide (-13 ≤ valN T n (decide (ru = 0)) p ∧ valN T n (decide (ru = 0)) p ≤ -11), tB T n p) := by unfold partP; rw [if_neg (notS k11 (by decide)), if_pos k11, if_neg (by rw [vval]; omega)]
                rw [eR]
                exact hE5⟩
        · refine zV_aload_nr dX6_readPart_51 rfl rfl ?_
          refine zV_iconst dX6_readPart_52 ?_
          refine zV_callV (As := [ziv 3]) lk6_231 (rfl) rfl rfl (c6_wrong (d - 1) 0 (by rw [hb0]; decide)) ⟨by show _ + 1 ≤ d; omega, by show _ ≤ k; omega⟩ rfl (Nat.le_of_ble_eq_true rfl) dX6_readPart_53 (fun _ _ z => z.elim) (fun r h2 q => ?_)
          obtain ⟨rfl, hh⟩ := q
          rw [if_pos hb0] at hh
          rw [hh]
          exact JB56 _ 3 p _ (by unfold partP; rw [if_neg (notS k11 (by decide)), if_pos k11, if_pos (by rw [vval, if_pos h48])]) (bd_wrg hru (mfr_rfl h ru) hp.2.1 (by decide))
    · have k22 := tQ_2.mp h13
      refine zV_aload_nr dX6_readPart_16 rfl rfl ?_
      refine zV_aload_nr dX6_readPart_17 rfl rfl ?_
      refine zV_iconst dX6_readPart_18 ?_
      refine zV_sipush dX6_readPart_19 (by decide) ?_
      refine zV_callV (As := [ziv 0, ziv 9999]) lk6_242 (rfl) rfl rfl (c6_readNumber (T := T) (n := n) (p := p) (d - 1) 0 (by omega) hk hp.2.1 hpn hb0 (by decide) (by decide)) ⟨by show _ + 1 ≤ d; omega, by show _ ≤ k; omega⟩ rfl (Nat.le_of_ble_eq_true rfl) dX6_readPart_22 (fun _ _ z => z.elim) (fun r h2 q => ?_)
      rcases rn_v q with ⟨kf, e1, e2, rfl, hh⟩ | ⟨e1, e2, e3, rfl, st2, tk2⟩
      · rw [hh]
        have k2e : kf = 2 ∧ 4 < tB T n p - tA T n p := by
          unfold numP at e1
          rw [if_pos k22] at e1
          split at e1
          · cases e1
          · rename_i z
            have v9 : tB T n p - tA T n p ≤ 4 → tV T n p ≤ 9999 := fun y => tV_4 hk.2.2.2 y
            have vp := tV_nn (T := T) (n := n) (p := p) k22
            cases e1; exact ⟨rfl, by omega⟩
        exact JB25 kf p _ (by unfold partP; rw [if_neg (notS k22 (by decide)), if_neg (by rw [k22]; decide), if_pos k22, if_pos k2e.2, k2e.1]) (bd_wrg hru (mfr_rfl h ru) hp.2.1 (by omega))
      refine zV_callV (As := [ziv (tV T n p)]) lk6_245 (rfl) rfl rfl (c6_layG (ru := ru) (c := c) (d - 1) 0 hru (by rw [st2.2 24 (by decide) (by decide) (by decide) (by decide) (by decide)]; exact hb0) (by rw [st2.2 27 (by decide) (by decide) (by decide) (by decide) (by decide)]; exact hp.2.2.2.2.2.1) (by rw [st2.1 68 (by decide)]; exact hp.2.2.2.2.2.2.1) (by have := tl.2.2 (by rw [k22]; decide); omega)) ⟨by show _ + 1 ≤ d; omega, by show _ ≤ k; omega⟩ rfl (Nat.le_of_ble_eq_true rfl) dX6_readPart_25 (fun _ _ z => z.elim) (fun r h4 q => ?_)
      obtain ⟨rfl, hh⟩ := q
      rw [hh]
      clear hh
      exact zV_vreturn dX6_readPart_28 rfl (Nat.zero_le _) ⟨rfl, by
          have hE1 := em_lay (v := tV T n p) hru (em_0 hp)
          have hE2 := em_lay (v := tV T n p) hru (em_adv hru (em_0 hp) st2 tk2)
          rw [enc_nn (tV_nn k22)] at hE2
          have eR : partP T n (decide (ru = 0)) ex p = .inr ([tV T n p], false, tB T n p) := by unfold partP; rw [if_neg (notS k22 (by decide)), if_neg (by rw [k22]; decide), if_pos k22, if_neg (by omega)]
          rw [eR]
          exact hE2⟩
  · exact absurd hb0 h4
set_option maxRecDepth 100000 in
theorem c6_readAnd {E : zE} {h : zH} {T : Nat → Int} {n ru c p : Nat} {ex : Nat → zR} {w : Int} {d k : Nat} (he : ∀ p, p ≤ n → good n p (ex p)) (hp : preM h T n ru c p) (hd : 9 ≤ d) (HP : ∀ (h : zH) (c p : Nat), preM h T n ru c p → zCal E mX6_readNot (d - 1) 0 [zrv E 64, ziv w] h (paM h T n ru c (notP T n (decide (ru = 0)) ex p)) (fun _ _ => False)) : zCal E mX6_readAnd d k [zrv E 64, ziv w] h (paM h T n ru c (andP T n (decide (ru = 0)) ex p)) (fun _ _ => False) := by
  refine zCal_of (by decide) (Nat.le_of_ble_eq_true rfl) (fun a => ?_)
  show zV _ 0 0 [zrv E 64, ziv w] [] _
  have hk := hp.1
  have hn7 := hk.2.1
  have hru := hp.2.2.2.2.1
  have hpn := hp.2.2.1
  have hcp := hp.2.2.2.2.2.2.2.1
  have hb0 := hp.2.2.2.1
  have gs := good_not (T := T) (dr := (decide (ru = 0))) he
  have JB5 : ∀ (ke : Int) (q0 : Nat) (h2 : zH), (andP T n (decide (ru = 0)) ex p = .inl (ke, q0)) → (bdM h T n ru ke q0 h2) → zV (E, mX6_readAnd, d, k, (paM h T n ru c (andP T n (decide (ru = 0)) ex p)), (fun _ _ => False), a) 0 5 [zrv E 64, ziv w] [] h2 := by
    intro ke q0 h2 hR hB
    obtain ⟨hb, hbd⟩ := bdR hB
    refine zV_aload_nr dX6_readAnd_5 rfl rfl ?_
    refine zV_ldsw (i := 38) rfl rfl dX6_readAnd_6 ?_
    refine zV_callV (As := [.ref (eK E 38)]) lk6_224 (rfl) rfl rfl (c6_isB (i := 38) (d - 1) 0 hb hbd) ⟨by show _ + 1 ≤ d; omega, by show _ ≤ k; omega⟩ rfl (Nat.le_of_ble_eq_true rfl) dX6_readAnd_9 (fun _ _ z => z.elim) (fun r h9 q => ?_)
    obtain ⟨rfl, hh⟩ := q
    rw [hh]
    clear hh
    refine zR_if_eq (tgt := 33) dX6_readAnd_12 (by decide) (by decide) (fun h12 => ?_) (fun h12 => ?_)
    · exact zV_vreturn dX6_readAnd_33 rfl (Nat.zero_le _) ⟨rfl, by rw [hR]; exact hB⟩
    · exact absurd rfl h12
  have JBL : ∀ (ke : Int) (q0 : Nat) (h2 : zH), (andP T n (decide (ru = 0)) ex p = .inl (ke, q0)) → (bdM h T n ru ke q0 h2) → zV (E, mX6_readAnd, d, k, (paM h T n ru c (andP T n (decide (ru = 0)) ex p)), (fun _ _ => False), a) 0 24 [zrv E 64, ziv w] [] h2 := by
    intro ke q0 h2 hR hB
    obtain ⟨hb, hbd⟩ := bdR hB
    refine zV_aload_nr dX6_readAnd_24 rfl rfl ?_
    refine zV_bipush dX6_readAnd_25 (by decide) ?_
    refine zV_callV (As := [ziv (-26)]) lk6_245 (rfl) rfl rfl (c6_layB (d - 1) 0 hb hbd) ⟨by show _ + 1 ≤ d; omega, by show _ ≤ k; omega⟩ rfl (Nat.le_of_ble_eq_true rfl) dX6_readAnd_27 (fun _ _ z => z.elim) (fun r h9 q => ?_)
    obtain ⟨rfl, hh⟩ := q
    rw [hh]
    clear hh
    refine zV_goto (tgt := 5) dX6_readAnd_30 (by decide) ?_
    exact JB5 ke q0 h2 hR hB
  refine zV_aload_nr dX6_readAnd_0 rfl rfl ?_
  refine zV_iload_n dX6_readAnd_1 rfl rfl ?_
  refine zV_callV (As := [ziv w]) lk6_269 (rfl) rfl rfl (HP h c p hp) ⟨by show _ + 1 ≤ d; omega, by show _ ≤ k; omega⟩ rfl (Nat.le_of_ble_eq_true rfl) dX6_readAnd_2 (fun _ _ z => z.elim) (fun r h1 q => ?_)
  obtain ⟨rfl, hv9⟩ := paM_v q
  rcases hv9 with ⟨ke, q0, hR0, hB0⟩ | ⟨l2, b2, q2, hR2, hE2b⟩
  · exact JB5 ke q0 h1 (by unfold andP; rw [hR0]; rfl) hB0
  have L5 : ∀ (m : Nat) (i : Nat) (l : List Int) (b : Bool) (q1 : Nat) (h1 : zH), (n + 1 ≤ i + m) → (emM h T n ru c l q1 h1) → (i ≤ q1 ∧ q1 ≤ n) → (p + l.length ≤ q1 ∧ p < q1) → (andP T n (decide (ru = 0)) ex p = loopP T n (opAnd T n) (notP T n (decide (ru = 0)) ex) (n + 1 - i) l b q1) → zV (E, mX6_readAnd, d, k, (paM h T n ru c (andP T n (decide (ru = 0)) ex p)), (fun _ _ => False), a) 0 5 [zrv E 64, ziv w] [] h1 := by
    intro m
    induction m with
    | zero => intro i l b q1 h1 hm_ hE hi9 hl9 hR; exfalso; (by_cases e9 : i = n + 1 <;> omega)
    | succ m ih =>
      intro i l b q1 h1 hm_ hE hi9 hl9 hR
      have hp1 := pre_em hp hE (by omega) hi9.2
      have tl := tB_lo (T := T) hi9.2
      have ta := tA_lo (T := T) hi9.2
      have hR1 : opAnd T n q1 = 0 → andP T n (decide (ru = 0)) ex p = .inr (l, b, q1) := fun z => by rw [hR, show n + 1 - i = (n - i) + 1 by omega, loopP_s, if_pos z]
      refine zV_aload_nr dX6_readAnd_5 rfl rfl ?_
      refine zV_ldsw (i := 38) rfl rfl dX6_readAnd_6 ?_
      refine zV_callV (As := [.ref (eK E 38)]) lk6_224 (rfl) rfl rfl (c6_is (T := T) (n := n) (p := q1) (i := 38) (b := wAnd) (d - 1) 0 (by omega) hp1.1 hp1.2.1 hp1.2.2.1 (by rw [hp1.2.2.2.1]; decide) rfl) ⟨by show _ + 1 ≤ d; omega, by show _ ≤ k; omega⟩ rfl (Nat.le_of_ble_eq_true rfl) dX6_readAnd_9 (fun _ _ z => z.elim) (fun r h9 q => ?_)
      obtain ⟨rfl, hh⟩ := q
      rw [hh]
      clear hh
      rw [if_and hp1.2.2.2.1]
      refine zR_if_eq (tgt := 33) dX6_readAnd_12 (by decide) (by split <;> omega) (fun h12 => ?_) (fun h12 => ?_)
      · have n12 := ipF h12
        exact zV_vreturn dX6_readAnd_33 rfl (Nat.zero_le _) ⟨rfl, by rw [hR1 (by unfold opAnd; rw [if_neg n12])]; exact hE⟩
      · have y12 := ipT h12
        have hopv : opAnd T n q1 = -2 := by unfold opAnd; rw [if_pos y12]
        have hop : opAnd T n q1 ≠ 0 := by rw [hopv]; decide
        have tkn := op_k.2.2.1 q1 hop
        have tlt := tl.2.2 tkn
        refine zV_aload_nr dX6_readAnd_15 rfl rfl ?_
        refine zV_callV (As := []) lk6_235 (rfl) rfl rfl (c6_stepOn (T := T) (n := n) (p := tB T n q1) (d - 1) 0 (by omega) hp1.1 hp1.2.1.2.2.1 tl.2.1) ⟨by show _ + 1 ≤ d; omega, by show _ ≤ k; omega⟩ rfl (Nat.le_of_ble_eq_true rfl) dX6_readAnd_16 (fun _ _ z => z.elim) (fun r h2 q => ?_)
        obtain ⟨rfl, st2, tk2⟩ := q
        have hE2 := em_adv hru hE st2 tk2
        have hp2 := pre_em hp hE2 (by omega) tl.2.1
        refine zV_aload_nr dX6_readAnd_19 rfl rfl ?_
        refine zV_iload_n dX6_readAnd_20 rfl rfl ?_
        refine zV_callV (As := [ziv w]) lk6_269 (rfl) rfl rfl (HP h2 (c + l.length) (tB T n q1) hp2) ⟨by show _ + 1 ≤ d; omega, by show _ ≤ k; omega⟩ rfl (Nat.le_of_ble_eq_true rfl) dX6_readAnd_21 (fun _ _ z => z.elim) (fun r h3 q => ?_)
        obtain ⟨rfl, hv9⟩ := paM_v q
        rcases hv9 with ⟨ke, q0, hR0, hB0⟩ | ⟨l2, b2, q2, hR2, hE2b⟩
        · exact JBL ke q0 h3 (by rw [hR, show n + 1 - i = (n - i) + 1 by omega, loopP_s, if_neg hop, hR0]; rfl) (bd_cat hE2.1 hB0)
        have g2 := gs (tB T n q1) tl.2.1
        rw [hR2] at g2
        have g21 : tB T n q1 + l2.length ≤ q2 := g2.1
        have g22 : q2 ≤ n := g2.2.2
        have g23 : tB T n q1 < q2 := g2.2.1
        have ll : (l ++ l2).length = l.length + l2.length := List.length_append
        have hE3 := em_cat hE2 hE2b
        have hp3 := pre_em hp hE3 (by omega) g22
        refine zV_aload_nr dX6_readAnd_24 rfl rfl ?_
        refine zV_bipush dX6_readAnd_25 (by decide) ?_
        refine zV_callV (As := [ziv (-26)]) lk6_245 (rfl) rfl rfl (c6_layG (c := (c + (l ++ l2).length)) (d - 1) 0 hru hp3.2.2.2.1 hp3.2.2.2.2.2.1 hp3.2.2.2.2.2.2.1 (by omega)) ⟨by show _ + 1 ≤ d; omega, by show _ ≤ k; omega⟩ rfl (Nat.le_of_ble_eq_true rfl) dX6_readAnd_27 (fun _ _ z => z.elim) (fun r h4 q => ?_)
        obtain ⟨rfl, hh⟩ := q
        rw [hh]
        clear hh
        refine zV_goto (tgt := 5) dX6_readAnd_30 (by decide) ?_
        refine ih (i + 1) (l ++ (l2 ++ [opAnd T n q1])) (b || b2) q2 _ (by omega) ?_ ⟨by omega, g22⟩ ⟨by simp only [List.length_append, List.length_cons, List.length_nil]; omega, by omega⟩ (by rw [hR, show n + 1 - i = (n + 1 - (i + 1)) + 1 by omega, loopP_s, if_neg hop, hR2]; rfl)
        have := em_lay (v := opAnd T n q1) hru hE3
        rw [List.append_assoc] at this
        rw [show enc (opAnd T n q1) = -26 by rw [hopv]; rfl] at this
        exact this
  have g0 := gs p hpn
  rw [hR2] at g0
  exact L5 (n + 2) 0 l2 b2 q2 h1 (by omega) hE2b ⟨by omega, g0.2.2⟩ ⟨g0.1, g0.2.1⟩ (by unfold andP; rw [hR2]; rfl)
set_option maxRecDepth 100000 in
theorem c6_readExpression1 {E : zE} {h : zH} {T : Nat → Int} {n ru c p : Nat} {ex : Nat → zR} {w : Int} {d k : Nat} (he : ∀ p, p ≤ n → good n p (ex p)) (hp : preM h T n ru c p) (hw : 0 ≤ w ∧ w < 6) (hd : 9 ≤ d) (HP : ∀ (h : zH) (c p : Nat), preM h T n ru c p → zCal E mX6_readAnd (d - 1) 0 [zrv E 64, ziv w] h (paM h T n ru c (andP T n (decide (ru = 0)) ex p)) (fun _ _ => False)) : zCal E mX6_readExpression d k [zrv E 64, ziv w] h (paM h T n ru c (orP T n (decide (ru = 0)) ex p)) (fun _ _ => False) := by
  refine zCal_of (by decide) (Nat.le_of_ble_eq_true rfl) (fun a => ?_)
  show zV _ 0 0 [zrv E 64, ziv w, .null] [] _
  have hk := hp.1
  have hn7 := hk.2.1
  have hru := hp.2.2.2.2.1
  have hpn := hp.2.2.1
  have hcp := hp.2.2.2.2.2.2.2.1
  have hb0 := hp.2.2.2.1
  obtain ⟨t1, t2, t3, t4, t5⟩ := id hp.2.1
  have q4 := tQ_lo T n p
  have gs := good_and (T := T) (dr := (decide (ru = 0))) he
  have JB67 : ∀ (ke : Int) (q0 : Nat) (h2 : zH), (orP T n (decide (ru = 0)) ex p = .inl (ke, q0)) → (bdM h T n ru ke q0 h2) → zV (E, mX6_readExpression, d, k, (paM h T n ru c (orP T n (decide (ru = 0)) ex p)), (fun _ _ => False), a) 0 67 [zrv E 64, ziv w, .null] [] h2 := by
    intro ke q0 h2 hR hB
    obtain ⟨hb, hbd⟩ := bdR hB
    refine zV_aload_nr dX6_readExpression_67 rfl rfl ?_
    refine zV_ldsw (i := 39) rfl rfl dX6_readExpression_68 ?_
    refine zV_callV (As := [.ref (eK E 39)]) lk6_224 (rfl) rfl rfl (c6_isB (i := 39) (d - 1) 0 hb hbd) ⟨by show _ + 1 ≤ d; omega, by show _ ≤ k; omega⟩ rfl (Nat.le_of_ble_eq_true rfl) dX6_readExpression_71 (fun _ _ z => z.elim) (fun r h9 q => ?_)
    obtain ⟨rfl, hh⟩ := q
    rw [hh]
    clear hh
    refine zR_if_eq (tgt := 95) dX6_readExpression_74 (by decide) (by decide) (fun h74 => ?_) (fun h74 => ?_)
    · exact zV_vreturn dX6_readExpression_95 rfl (Nat.zero_le _) ⟨rfl, by rw [hR]; exact hB⟩
    · exact absurd rfl h74
  have JB62 : ∀ (ke : Int) (q0 : Nat) (h2 : zH), (orP T n (decide (ru = 0)) ex p = .inl (ke, q0)) → (bdM h T n ru ke q0 h2) → zV (E, mX6_readExpression, d, k, (paM h T n ru c (orP T n (decide (ru = 0)) ex p)), (fun _ _ => False), a) 0 62 [zrv E 64, ziv w, .null] [] h2 := by
    intro ke q0 h2 hR hB
    obtain ⟨hb, hbd⟩ := bdR hB
    refine zV_aload_nr dX6_readExpression_62 rfl rfl ?_
    refine zV_iload_n dX6_readExpression_63 rfl rfl ?_
    refine zV_callV (As := [ziv w]) lk6_274 (rfl) rfl rfl (c6_readAndB (d - 1) 0 (by omega) hb hbd) ⟨by show _ + 1 ≤ d; omega, by show _ ≤ k; omega⟩ rfl (Nat.le_of_ble_eq_true rfl) dX6_readExpression_64 (fun _ _ z => z.elim) (fun r h9 q => ?_)
    obtain ⟨rfl, hh⟩ := q
    rw [hh]
    clear hh
    exact JB67 ke q0 h2 hR hB
  have JBL : ∀ (ke : Int) (q0 : Nat) (h2 : zH), (orP T n (decide (ru = 0)) ex p = .inl (ke, q0)) → (bdM h T n ru ke q0 h2) → zV (E, mX6_readExpression, d, k, (paM h T n ru c (orP T n (decide (ru = 0)) ex p)), (fun _ _ => False), a) 0 86 [zrv E 64, ziv w, .null] [] h2 := by
    intro ke q0 h2 hR hB
    obtain ⟨hb, hbd⟩ := bdR hB
    refine zV_aload_nr dX6_readExpression_86 rfl rfl ?_
    refine zV_bipush dX6_readExpression_87 (by decide) ?_
    refine zV_callV (As := [ziv (-27)]) lk6_245 (rfl) rfl rfl (c6_layB (d - 1) 0 hb hbd) ⟨by show _ + 1 ≤ d; omega, by show _ ≤ k; omega⟩ rfl (Nat.le_of_ble_eq_true rfl) dX6_readExpression_89 (fun _ _ z => z.elim) (fun r h9 q => ?_)
    obtain ⟨rfl, hh⟩ := q
    rw [hh]
    clear hh
    refine zV_goto (tgt := 67) dX6_readExpression_92 (by decide) ?_
    exact JB67 ke q0 h2 hR hB
  refine zV_aload_nr dX6_readExpression_0 rfl rfl ?_
  refine gf6_210 rfl rfl dX6_readExpression_1 ?_
  refine zR_if_eq (tgt := 8) dX6_readExpression_4 (by decide) (by omega) (fun h4 => ?_) (fun h4 => ?_)
  · refine zV_aload_nr dX6_readExpression_8 rfl rfl ?_
    refine gf6_184 rfl rfl dX6_readExpression_9 ?_
    rw [t4]
    refine zV_iconst dX6_readExpression_12 ?_
    have J38 : ∀ (mw : Int), (mw = if (tK T n p = 2 ∨ tK T n p = 1 ∨ isS T n p 40 = true) then 1 else 0) → zV (E, mX6_readExpression, d, k, (paM h T n ru c (orP T n (decide (ru = 0)) ex p)), (fun _ _ => False), a) 0 38 [zrv E 64, ziv w, .null] [ziv mw] h := by
      intro mw hm9
      refine zV_istore_n dX6_readExpression_38 rfl (Nat.le_of_ble_eq_true rfl) rfl ?_
      refine zV_iload_n dX6_readExpression_39 rfl rfl ?_
      refine zR_if_ne (tgt := 51) dX6_readExpression_40 (by decide) (by rw [hm9]; split <;> omega) (fun h40 => ?_) (fun h40 => ?_)
      · have ym := wC hm9 h40
        refine zV_iload_n dX6_readExpression_51 rfl rfl ?_
        refine zV_bipush dX6_readExpression_52 (by decide) ?_
        refine zR_icmp_ne (tgt := 62) dX6_readExpression_54 (by decide) (by omega) (by decide) (fun h54 => ?_) (fun h54 => ?_)
        · refine zV_aload_nr dX6_readExpression_62 rfl rfl ?_
          refine zV_iload_n dX6_readExpression_63 rfl rfl ?_
          refine zV_callV (As := [ziv w]) lk6_274 (rfl) rfl rfl (HP h c p hp) ⟨by show _ + 1 ≤ d; omega, by show _ ≤ k; omega⟩ rfl (Nat.le_of_ble_eq_true rfl) dX6_readExpression_64 (fun _ _ z => z.elim) (fun r h1 q => ?_)
          obtain ⟨rfl, hv9⟩ := paM_v q
          rcases hv9 with ⟨ke, q0, hR0, hB0⟩ | ⟨l2, b2, q2, hR2, hE2b⟩
          · refine zV_drop 2 ?_
            exact JB67 ke q0 h1 (by unfold orP; rw [hR0]; rfl) hB0
          have L67 : ∀ (m : Nat) (i : Nat) (l : List Int) (b : Bool) (q1 : Nat) (h1 : zH), (n + 1 ≤ i + m) → (emM h T n ru c l q1 h1) → (i ≤ q1 ∧ q1 ≤ n) → (p + l.length ≤ q1 ∧ p < q1) → (orP T n (decide (ru = 0)) ex p = loopP T n (opOr T n) (andP T n (decide (ru = 0)) ex) (n + 1 - i) l b q1) → zV (E, mX6_readExpression, d, k, (paM h T n ru c (orP T n (decide (ru = 0)) ex p)), (fun _ _ => False), a) 0 67 [zrv E 64, ziv w, .null] [] h1 := by
            intro m
            induction m with
            | zero => intro i l b q1 h1 hm_ hE hi9 hl9 hR; exfalso; (by_cases e9 : i = n + 1 <;> omega)
            | succ m ih =>
              intro i l b q1 h1 hm_ hE hi9 hl9 hR
              have hp1 := pre_em hp hE (by omega) hi9.2
              have tl := tB_lo (T := T) hi9.2
              have ta := tA_lo (T := T) hi9.2
              have hR1 : opOr T n q1 = 0 → orP T n (decide (ru = 0)) ex p = .inr (l, b, q1) := fun z => by rw [hR, show n + 1 - i = (n - i) + 1 by omega, loopP_s, if_pos z]
              refine zV_aload_nr dX6_readExpression_67 rfl rfl ?_
              refine zV_ldsw (i := 39) rfl rfl dX6_readExpression_68 ?_
              refine zV_callV (As := [.ref (eK E 39)]) lk6_224 (rfl) rfl rfl (c6_is (T := T) (n := n) (p := q1) (i := 39) (b := wOr) (d - 1) 0 (by omega) hp1.1 hp1.2.1 hp1.2.2.1 (by rw [hp1.2.2.2.1]; decide) rfl) ⟨by show _ + 1 ≤ d; omega, by show _ ≤ k; omega⟩ rfl (Nat.le_of_ble_eq_true rfl) dX6_readExpression_71 (fun _ _ z => z.elim) (fun r h9 q => ?_)
              obtain ⟨rfl, hh⟩ := q
              rw [hh]
              clear hh
              rw [if_and hp1.2.2.2.1]
              refine zR_if_eq (tgt := 95) dX6_readExpression_74 (by decide) (by split <;> omega) (fun h74 => ?_) (fun h74 => ?_)
              · have n74 := ipF h74
                exact zV_vreturn dX6_readExpression_95 rfl (Nat.zero_le _) ⟨rfl, by rw [hR1 (by unfold opOr; rw [if_neg n74])]; exact hE⟩
              · have y74 := ipT h74
                have hopv : opOr T n q1 = -1 := by unfold opOr; rw [if_pos y74]
                have hop : opOr T n q1 ≠ 0 := by rw [hopv]; decide
                have tkn := op_k.2.2.2.1 q1 hop
                have tlt := tl.2.2 tkn
                refine zV_aload_nr dX6_readExpression_77 rfl rfl ?_
                refine zV_callV (As := []) lk6_235 (rfl) rfl rfl (c6_stepOn (T := T) (n := n) (p := tB T n q1) (d - 1) 0 (by omega) hp1.1 hp1.2.1.2.2.1 tl.2.1) ⟨by show _ + 1 ≤ d; omega, by show _ ≤ k; omega⟩ rfl (Nat.le_of_ble_eq_true rfl) dX6_readExpression_78 (fun _ _ z => z.elim) (fun r h2 q => ?_)
                obtain ⟨rfl, st2, tk2⟩ := q
                have hE2 := em_adv hru hE st2 tk2
                have hp2 := pre_em hp hE2 (by omega) tl.2.1
                refine zV_aload_nr dX6_readExpression_81 rfl rfl ?_
                refine zV_iload_n dX6_readExpression_82 rfl rfl ?_
                refine zV_callV (As := [ziv w]) lk6_274 (rfl) rfl rfl (HP h2 (c + l.length) (tB T n q1) hp2) ⟨by show _ + 1 ≤ d; omega, by show _ ≤ k; omega⟩ rfl (Nat.le_of_ble_eq_true rfl) dX6_readExpression_83 (fun _ _ z => z.elim) (fun r h3 q => ?_)
                obtain ⟨rfl, hv9⟩ := paM_v q
                rcases hv9 with ⟨ke, q0, hR0, hB0⟩ | ⟨l2, b2, q2, hR2, hE2b⟩
                · exact JBL ke q0 h3 (by rw [hR, show n + 1 - i = (n - i) + 1 by omega, loopP_s, if_neg hop, hR0]; rfl) (bd_cat hE2.1 hB0)
                have g2 := gs (tB T n q1) tl.2.1
                rw [hR2] at g2
                have g21 : tB T n q1 + l2.length ≤ q2 := g2.1
                have g22 : q2 ≤ n := g2.2.2
                have g23 : tB T n q1 < q2 := g2.2.1
                have ll : (l ++ l2).length = l.length + l2.length := List.length_append
                have hE3 := em_cat hE2 hE2b
                have hp3 := pre_em hp hE3 (by omega) g22
                refine zV_aload_nr dX6_readExpression_86 rfl rfl ?_
                refine zV_bipush dX6_readExpression_87 (by decide) ?_
                refine zV_callV (As := [ziv (-27)]) lk6_245 (rfl) rfl rfl (c6_layG (c := (c + (l ++ l2).length)) (d - 1) 0 hru hp3.2.2.2.1 hp3.2.2.2.2.2.1 hp3.2.2.2.2.2.2.1 (by omega)) ⟨by show _ + 1 ≤ d; omega, by show _ ≤ k; omega⟩ rfl (Nat.le_of_ble_eq_true rfl) dX6_readExpression_89 (fun _ _ z => z.elim) (fun r h4 q => ?_)
                obtain ⟨rfl, hh⟩ := q
                rw [hh]
                clear hh
                refine zV_goto (tgt := 67) dX6_readExpression_92 (by decide) ?_
                refine ih (i + 1) (l ++ (l2 ++ [opOr T n q1])) (b || b2) q2 _ (by omega) ?_ ⟨by omega, g22⟩ ⟨by simp only [List.length_append, List.length_cons, List.length_nil]; omega, by omega⟩ (by rw [hR, show n + 1 - i = (n + 1 - (i + 1)) + 1 by omega, loopP_s, if_neg hop, hR2]; rfl)
                have := em_lay (v := opOr T n q1) hru hE3
                rw [List.append_assoc] at this
                rw [show enc (opOr T n q1) = -27 by rw [hopv]; rfl] at this
                exact this
          have g0 := gs p hpn
          rw [hR2] at g0
          refine zV_drop 2 ?_
          exact L67 (n + 2) 0 l2 b2 q2 h1 (by omega) hE2b ⟨by omega, g0.2.2⟩ ⟨g0.1, g0.2.1⟩ (by unfold orP; rw [hR2]; rfl)
        · exact absurd h54 (by omega)
      · have nm := wN hm9 h40
        refine zV_aload_nr dX6_readExpression_43 rfl rfl ?_
        refine zV_iconst dX6_readExpression_44 ?_
        refine zV_callV (As := [ziv 1]) lk6_231 (rfl) rfl rfl (c6_wrong (d - 1) 0 (by rw [hb0]; decide)) ⟨by show _ + 1 ≤ d; omega, by show _ ≤ k; omega⟩ rfl (Nat.le_of_ble_eq_true rfl) dX6_readExpression_45 (fun _ _ z => z.elim) (fun r h2 q => ?_)
        obtain ⟨rfl, hh⟩ := q
        rw [if_pos hb0] at hh
        rw [hh]
        refine zV_goto (tgt := 62) dX6_readExpression_48 (by decide) ?_
        refine zV_drop 2 ?_
        exact JB62 1 p _ (or_bad (fun z => nm (Or.inr (Or.inr z))) (fun z => nm (Or.inr (Or.inl z))) (fun z => nm (Or.inl z))) (bd_wrg hru (mfr_rfl h ru) hp.2.1 (by decide))
    refine zR_icmp_eq (tgt := 33) dX6_readExpression_13 (by decide) (by omega) (by decide) (fun h13 => ?_) (fun h13 => ?_)
    · have k2 := tQ_2.mp h13
      refine zV_iconst dX6_readExpression_33 ?_
      refine zV_goto (tgt := 38) dX6_readExpression_34 (by decide) ?_
      exact J38 1 (by rw [if_pos (Or.inl k2)])
    · have k2 : ¬ tK T n p = 2 := fun z => h13 (tQ_2.mpr z)
      refine zV_aload_nr dX6_readExpression_16 rfl rfl ?_
      refine gf6_184 rfl rfl dX6_readExpression_17 ?_
      rw [t4]
      refine zV_iconst dX6_readExpression_20 ?_
      refine zR_icmp_eq (tgt := 33) dX6_readExpression_21 (by decide) (by omega) (by decide) (fun h21 => ?_) (fun h21 => ?_)
      · have k1 := tQ_1.mp h21
        refine zV_iconst dX6_readExpression_33 ?_
        refine zV_goto (tgt := 38) dX6_readExpression_34 (by decide) ?_
        exact J38 1 (by rw [if_pos (Or.inr (Or.inl k1))])
      · have k1 : ¬ tK T n p = 1 := fun z => h21 (tQ_1.mpr z)
        refine zV_aload_nr dX6_readExpression_24 rfl rfl ?_
        refine zV_bipush dX6_readExpression_25 (by decide) ?_
        refine zV_callV (As := [ziv 40]) lk6_228 (rfl) rfl rfl (c6_isMarked (T := T) (n := n) (p := p) (d - 1) 0 hp.1 hp.2.1 hp.2.2.1 (by rw [hp.2.2.2.1]; decide) (by decide) (by decide)) ⟨by show _ + 1 ≤ d; omega, by show _ ≤ k; omega⟩ rfl (Nat.le_of_ble_eq_true rfl) dX6_readExpression_27 (fun _ _ z => z.elim) (fun r h9 q => ?_)
        obtain ⟨rfl, hh⟩ := q
        rw [hh]
        clear hh
        rw [if_and hp.2.2.2.1]
        refine zR_if_eq (tgt := 37) dX6_readExpression_30 (by decide) (by split <;> omega) (fun h30 => ?_) (fun h30 => ?_)
        · have n30 := ipF h30
          refine zV_iconst dX6_readExpression_37 ?_
          exact J38 0 (by rw [if_neg (fun z => by rcases z with z | z | z; exact k2 z; exact k1 z; exact n30 z)])
        · have y30 := ipT h30
          refine zV_iconst dX6_readExpression_33 ?_
          refine zV_goto (tgt := 38) dX6_readExpression_34 (by decide) ?_
          exact J38 1 (by rw [if_pos (Or.inr (Or.inr y30))])
  · exact absurd hb0 h4
set_option maxRecDepth 100000 in
theorem c6_readExpression0 {E : zE} {h : zH} {T : Nat → Int} {n ru c p : Nat} {w : Int} {d k : Nat} (hp : preM h T n ru c p) (hw : w = 6) (hd : 9 ≤ d)  : zCal E mX6_readExpression d k [zrv E 64, ziv w] h (paM h T n ru c (exprP T n (decide (ru = 0)) 0 p)) (fun _ _ => False) := by
  refine zCal_of (by decide) (Nat.le_of_ble_eq_true rfl) (fun a => ?_)
  show zV _ 0 0 [zrv E 64, ziv w, .null] [] _
  have hk := hp.1
  have hn7 := hk.2.1
  have hru := hp.2.2.2.2.1
  have hpn := hp.2.2.1
  have hcp := hp.2.2.2.2.2.2.2.1
  have hb0 := hp.2.2.2.1
  obtain ⟨t1, t2, t3, t4, t5⟩ := id hp.2.1
  have q4 := tQ_lo T n p
  have JB67 : ∀ (ke : Int) (q0 : Nat) (h2 : zH), (exprP T n (decide (ru = 0)) 0 p = .inl (ke, q0)) → (bdM h T n ru ke q0 h2) → zV (E, mX6_readExpression, d, k, (paM h T n ru c (exprP T n (decide (ru = 0)) 0 p)), (fun _ _ => False), a) 0 67 [zrv E 64, ziv w, .null] [] h2 := by
    intro ke q0 h2 hR hB
    obtain ⟨hb, hbd⟩ := bdR hB
    refine zV_aload_nr dX6_readExpression_67 rfl rfl ?_
    refine zV_ldsw (i := 39) rfl rfl dX6_readExpression_68 ?_
    refine zV_callV (As := [.ref (eK E 39)]) lk6_224 (rfl) rfl rfl (c6_isB (i := 39) (d - 1) 0 hb hbd) ⟨by show _ + 1 ≤ d; omega, by show _ ≤ k; omega⟩ rfl (Nat.le_of_ble_eq_true rfl) dX6_readExpression_71 (fun _ _ z => z.elim) (fun r h9 q => ?_)
    obtain ⟨rfl, hh⟩ := q
    rw [hh]
    clear hh
    refine zR_if_eq (tgt := 95) dX6_readExpression_74 (by decide) (by decide) (fun h74 => ?_) (fun h74 => ?_)
    · exact zV_vreturn dX6_readExpression_95 rfl (Nat.zero_le _) ⟨rfl, by rw [hR]; exact hB⟩
    · exact absurd rfl h74
  have JB62 : ∀ (ke : Int) (q0 : Nat) (h2 : zH), (exprP T n (decide (ru = 0)) 0 p = .inl (ke, q0)) → (bdM h T n ru ke q0 h2) → zV (E, mX6_readExpression, d, k, (paM h T n ru c (exprP T n (decide (ru = 0)) 0 p)), (fun _ _ => False), a) 0 62 [zrv E 64, ziv w, .null] [] h2 := by
    intro ke q0 h2 hR hB
    obtain ⟨hb, hbd⟩ := bdR hB
    refine zV_aload_nr dX6_readExpression_62 rfl rfl ?_
    refine zV_iload_n dX6_readExpression_63 rfl rfl ?_
    refine zV_callV (As := [ziv w]) lk6_274 (rfl) rfl rfl (c6_readAndB (d - 1) 0 (by omega) hb hbd) ⟨by show _ + 1 ≤ d; omega, by show _ ≤ k; omega⟩ rfl (Nat.le_of_ble_eq_true rfl) dX6_readExpression_64 (fun _ _ z => z.elim) (fun r h9 q => ?_)
    obtain ⟨rfl, hh⟩ := q
    rw [hh]
    clear hh
    exact JB67 ke q0 h2 hR hB
  refine zV_aload_nr dX6_readExpression_0 rfl rfl ?_
  refine gf6_210 rfl rfl dX6_readExpression_1 ?_
  refine zR_if_eq (tgt := 8) dX6_readExpression_4 (by decide) (by omega) (fun h4 => ?_) (fun h4 => ?_)
  · refine zV_aload_nr dX6_readExpression_8 rfl rfl ?_
    refine gf6_184 rfl rfl dX6_readExpression_9 ?_
    rw [t4]
    refine zV_iconst dX6_readExpression_12 ?_
    have J38 : ∀ (mw : Int), (mw = if (tK T n p = 2 ∨ tK T n p = 1 ∨ isS T n p 40 = true) then 1 else 0) → zV (E, mX6_readExpression, d, k, (paM h T n ru c (exprP T n (decide (ru = 0)) 0 p)), (fun _ _ => False), a) 0 38 [zrv E 64, ziv w, .null] [ziv mw] h := by
      intro mw hm9
      refine zV_istore_n dX6_readExpression_38 rfl (Nat.le_of_ble_eq_true rfl) rfl ?_
      refine zV_iload_n dX6_readExpression_39 rfl rfl ?_
      refine zR_if_ne (tgt := 51) dX6_readExpression_40 (by decide) (by rw [hm9]; split <;> omega) (fun h40 => ?_) (fun h40 => ?_)
      · have ym := wC hm9 h40
        refine zV_iload_n dX6_readExpression_51 rfl rfl ?_
        refine zV_bipush dX6_readExpression_52 (by decide) ?_
        refine zR_icmp_ne (tgt := 62) dX6_readExpression_54 (by decide) (by omega) (by decide) (fun h54 => ?_) (fun h54 => ?_)
        · exact absurd hw h54
        · refine zV_aload_nr dX6_readExpression_57 rfl rfl ?_
          refine zV_iconst dX6_readExpression_58 ?_
          refine zV_callV (As := [ziv 2]) lk6_231 (rfl) rfl rfl (c6_wrong (d - 1) 0 (by rw [hb0]; decide)) ⟨by show _ + 1 ≤ d; omega, by show _ ≤ k; omega⟩ rfl (Nat.le_of_ble_eq_true rfl) dX6_readExpression_59 (fun _ _ z => z.elim) (fun r h2 q => ?_)
          obtain ⟨rfl, hh⟩ := q
          rw [if_pos hb0] at hh
          rw [hh]
          refine zV_drop 2 ?_
          exact JB62 2 p _ (by show Sum.inl _ = _; rw [if_pos ym]) (bd_wrg hru (mfr_rfl h ru) hp.2.1 (by decide))
      · have nm := wN hm9 h40
        refine zV_aload_nr dX6_readExpression_43 rfl rfl ?_
        refine zV_iconst dX6_readExpression_44 ?_
        refine zV_callV (As := [ziv 1]) lk6_231 (rfl) rfl rfl (c6_wrong (d - 1) 0 (by rw [hb0]; decide)) ⟨by show _ + 1 ≤ d; omega, by show _ ≤ k; omega⟩ rfl (Nat.le_of_ble_eq_true rfl) dX6_readExpression_45 (fun _ _ z => z.elim) (fun r h2 q => ?_)
        obtain ⟨rfl, hh⟩ := q
        rw [if_pos hb0] at hh
        rw [hh]
        refine zV_goto (tgt := 62) dX6_readExpression_48 (by decide) ?_
        refine zV_drop 2 ?_
        exact JB62 1 p _ (by show Sum.inl _ = _; rw [if_neg nm]) (bd_wrg hru (mfr_rfl h ru) hp.2.1 (by decide))
    refine zR_icmp_eq (tgt := 33) dX6_readExpression_13 (by decide) (by omega) (by decide) (fun h13 => ?_) (fun h13 => ?_)
    · have k2 := tQ_2.mp h13
      refine zV_iconst dX6_readExpression_33 ?_
      refine zV_goto (tgt := 38) dX6_readExpression_34 (by decide) ?_
      exact J38 1 (by rw [if_pos (Or.inl k2)])
    · have k2 : ¬ tK T n p = 2 := fun z => h13 (tQ_2.mpr z)
      refine zV_aload_nr dX6_readExpression_16 rfl rfl ?_
      refine gf6_184 rfl rfl dX6_readExpression_17 ?_
      rw [t4]
      refine zV_iconst dX6_readExpression_20 ?_
      refine zR_icmp_eq (tgt := 33) dX6_readExpression_21 (by decide) (by omega) (by decide) (fun h21 => ?_) (fun h21 => ?_)
      · have k1 := tQ_1.mp h21
        refine zV_iconst dX6_readExpression_33 ?_
        refine zV_goto (tgt := 38) dX6_readExpression_34 (by decide) ?_
        exact J38 1 (by rw [if_pos (Or.inr (Or.inl k1))])
      · have k1 : ¬ tK T n p = 1 := fun z => h21 (tQ_1.mpr z)
        refine zV_aload_nr dX6_readExpression_24 rfl rfl ?_
        refine zV_bipush dX6_readExpression_25 (by decide) ?_
        refine zV_callV (As := [ziv 40]) lk6_228 (rfl) rfl rfl (c6_isMarked (T := T) (n := n) (p := p) (d - 1) 0 hp.1 hp.2.1 hp.2.2.1 (by rw [hp.2.2.2.1]; decide) (by decide) (by decide)) ⟨by show _ + 1 ≤ d; omega, by show _ ≤ k; omega⟩ rfl (Nat.le_of_ble_eq_true rfl) dX6_readExpression_27 (fun _ _ z => z.elim) (fun r h9 q => ?_)
        obtain ⟨rfl, hh⟩ := q
        rw [hh]
        clear hh
        rw [if_and hp.2.2.2.1]
        refine zR_if_eq (tgt := 37) dX6_readExpression_30 (by decide) (by split <;> omega) (fun h30 => ?_) (fun h30 => ?_)
        · have n30 := ipF h30
          refine zV_iconst dX6_readExpression_37 ?_
          exact J38 0 (by rw [if_neg (fun z => by rcases z with z | z | z; exact k2 z; exact k1 z; exact n30 z)])
        · have y30 := ipT h30
          refine zV_iconst dX6_readExpression_33 ?_
          refine zV_goto (tgt := 38) dX6_readExpression_34 (by decide) ?_
          exact J38 1 (by rw [if_pos (Or.inr (Or.inr y30))])
  · exact absurd hb0 h4
