/-- who has most, of the first m; of like ones the least -/
def argS (f : Nat → Int) : Nat → Int
  | 0 => -1
  | m + 1 => if argS f m = -1 ∨ f (argS f m).toNat < f m then (m : Int) else argS f m
theorem argS_s (f : Nat → Int) (m : Nat) : argS f (m + 1) = if argS f m = -1 ∨ f (argS f m).toNat < f m then (m : Int) else argS f m := rfl
theorem argS_lo (f : Nat → Int) (m : Nat) : argS f m = -1 ∨ (0 ≤ argS f m ∧ argS f m < m) := by
  induction m with
  | zero => exact Or.inl rfl
  | succ m ih => rw [argS_s]; split <;> omega
theorem argS_congr {f g : Nat → Int} : ∀ m, agn m f g → argS f m = argS g m := by
  intro m
  induction m with
  | zero => intro _; rfl
  | succ m ih =>
    intro h
    have e := ih (agn_le (by omega) h)
    rw [argS_s, argS_s, e, h m (by omega)]
    rcases argS_lo g m with hl | hl
    · rw [hl]; simp
    · rw [h (argS g m).toNat (by omega)]
def sumS (f : Nat → Nat → Int) (j : Nat) : Nat → Int
  | 0 => 0
  | m + 1 => sumS f j m + f (m + 1) j
theorem seatsN_sip {n jn : Nat} {g : zG} {ca : Int} {x : (Nat → Int) × Int × (Nat → Int)} (hx : 0 ≤ x.2.1 ∧ x.2.1 ≤ 99) : ∀ m, (0 ≤ (seatsG n jn g ca x m).2.1 ∧ (seatsG n jn g ca x m).2.1 ≤ 99) ∧ ∀ j : Nat, (∃ s, s < m ∧ (g.1 s).toNat = j) → 0 ≤ (seatsG n jn g ca x m).2.2 j ∧ (seatsG n jn g ca x m).2.2 j ≤ 99 := by
  intro m
  induction m with
  | zero => exact ⟨hx, fun j ⟨s, h, _⟩ => absurd h (by omega)⟩
  | succ m ih =>
    obtain ⟨i1, i2⟩ := ih
    show (0 ≤ (seatStep n jn g.1 g.2.1 g.2.2.1 g.2.2.2.2.1 g.2.2.2.2.2.1 g.2.2.2.2.2.2.1 g.2.2.2.2.2.2.2.1 ca m (seatsG n jn g ca x m)).2.1 ∧ (seatStep n jn g.1 g.2.1 g.2.2.1 g.2.2.2.2.1 g.2.2.2.2.2.1 g.2.2.2.2.2.2.1 g.2.2.2.2.2.2.2.1 ca m (seatsG n jn g ca x m)).2.1 ≤ 99) ∧ ∀ j : Nat, _ → 0 ≤ (seatStep n jn g.1 g.2.1 g.2.2.1 g.2.2.2.2.1 g.2.2.2.2.2.1 g.2.2.2.2.2.2.1 g.2.2.2.2.2.2.2.1 ca m (seatsG n jn g ca x m)).2.2 j ∧ (seatStep n jn g.1 g.2.1 g.2.2.1 g.2.2.2.2.1 g.2.2.2.2.2.1 g.2.2.2.2.2.2.1 g.2.2.2.2.2.2.2.1 ca m (seatsG n jn g ca x m)).2.2 j ≤ 99
    generalize seatsG n jn g ca x m = y at *
    unfold seatStep
    dsimp only
    refine ⟨by split <;> omega, fun j ⟨s, h1, h2⟩ => ?_⟩
    by_cases e : j = (g.1 m).toNat
    · rw [if_pos e]; split <;> omega
    · rw [if_neg e]
      refine i2 j ⟨s, ?_, h2⟩
      by_cases e2 : s = m
      · subst e2; exact absurd h2.symm e
      · omega
theorem nowR_sip {h : zH} {t n jn k j : Nat} (hi : tInv h t n jn) (hj : seated (h 36) jn j) (hk : 1 ≤ k) : 0 ≤ (nowR h t n jn k).2.2.2 j ∧ (nowR h t n jn k).2.2.2 j ≤ 99 := by
  obtain ⟨k, rfl⟩ : ∃ z, k = z + 1 := ⟨k - 1, by omega⟩
  obtain ⟨s, s1, s2⟩ := hj
  exact (seatsN_sip (g := gOf h 32 t) (x := (_, h 32 5, _)) hi.2.2.1.2.2.2.2.2.1 jn).2 j ⟨s, s1, by show (h 36 s).toNat = j; rw [s2]; simp⟩
theorem sumS_lo {h : zH} {t n jn j : Nat} (hi : tInv h t n jn) (hj : seated (h 36) jn j) (m : Nat) : 0 ≤ sumS (fun k => (nowR h t n jn k).2.2.2) j m ∧ sumS (fun k => (nowR h t n jn k).2.2.2) j m ≤ 99 * m := by
  induction m with
  | zero => simp [sumS]
  | succ m ih => have := nowR_sip hi hj (k := m + 1) (by omega); unfold sumS; omega
theorem tInv_put {h h2 : zH} {t n jn : Nat} (hi : tInv h t n jn) (e : ∀ c2 : Nat, c2 < 53 → h2 c2 = h c2) : tInv h2 t n jn ∧ gOf h2 32 t = gOf h 32 t ∧ xOf h2 32 = xOf h 32 := by
  obtain ⟨i0, i1, i2, i3, i4⟩ := hi
  have ht9 : t = 2 ∨ t = 16 := i1.1
  have ct : ∀ o, o ≤ 11 → h2 (t + o) = h (t + o) := fun o ho => e _ (by omega)
  obtain ⟨c1, c2, c3, c4, c5, c6, c7⟩ := i2
  refine ⟨⟨by rw [e 0 (by omega)]; exact i0, courtOK_congr ct i1, ⟨c1, by rw [e (32 + 1) (by omega)]; exact c2, by rw [e (32 + 2) (by omega)]; exact c3, by rw [e (32 + 3) (by omega)]; exact c4, by rw [e (32 + 4) (by omega)]; exact c5, by rw [e 32 (by omega)]; exact c6, by rw [e 32 (by omega)]; exact c7⟩, fun j j1 j2 => by rw [e 28 (by omega)]; exact i3 j j1 j2, by rw [e 32 (by omega)]; exact i4⟩, ?_, ?_⟩
  · unfold gOf
    rw [e (32 + 4) (by omega), e (32 + 3) (by omega), e (32 + 2) (by omega), e 32 (by omega), ct 2 (by omega), ct 6 (by omega), ct 10 (by omega), ruleV_congr (ct 7 (by omega)) (ct 8 (by omega)) (ct 9 (by omega)), ruleV_congr (ct 7 (by omega)) (ct 8 (by omega)) (ct 9 (by omega))]
  · unfold xOf
    rw [e (32 + 1) (by omega), e 32 (by omega), e (32 + 5) (by omega)]
theorem tri_0' {h h0 h1 : zH} {t n jn : Nat} (hi : tInv h t n jn) (e : ∀ c2 : Nat, c2 < 53 → h0 c2 = h c2) (e2 : ∀ c2 : Nat, 63 < c2 → h0 c2 = h c2) (hc : copied h0 32 53 h1) : tri h t n jn (gOf h 32 t) (xOf h 32) 0 h1 := by
  obtain ⟨p1, p2, p3⟩ := tInv_put hi e
  have := tri_0 p1 hc
  rw [p2, p3] at this
  obtain ⟨a0, a1, a2, a3, a4, a5, a6⟩ := this
  rw [e 32 (by omega)] at a4
  refine ⟨fun c2 hh => ?_, a1, fun hh => absurd hh (by omega), a3, a4, a5, a6⟩
  rw [a0 c2 hh]
  rcases hh with hh | hh | hh
  · exact e c2 (by omega)
  · exact e c2 (by omega)
  · exact e2 c2 hh

set_option maxRecDepth 100000 in
theorem c5_clearTally {E : zE} {h : zH} (d k : Nat) : zCal E mX5_clearTally d k [zrv E 0] h (fun r h' => r = none ∧ (∀ c2 : Nat, c2 ≠ 59 → h' c2 = h c2) ∧ ∀ i, i < 8 → h' 59 i = 0) (fun _ _ => False) := by
  refine zCal_of (by decide) (Nat.le_of_ble_eq_true rfl) (fun a => ?_)
  show zV _ 0 0 [zrv E 0, .null] [] _
  refine zV_iconst dX5_clearTally_0 ?_
  refine zV_istore_n dX5_clearTally_1 rfl (Nat.le_of_ble_eq_true rfl) rfl ?_
  have L2 : ∀ (m : Nat) (s : Nat) (h1 : zH), (9 ≤ s + m) → (s ≤ 8) → (∀ c2 : Nat, c2 ≠ 59 → h1 c2 = h c2) → (∀ i, i < s → h1 59 i = 0) → zV (E, mX5_clearTally, d, k, (fun r h' => r = none ∧ (∀ c2 : Nat, c2 ≠ 59 → h' c2 = h c2) ∧ ∀ i, i < 8 → h' 59 i = 0), (fun _ _ => False), a) 0 2 [zrv E 0, ziv (s : Int)] [] h1 := by
    intro m
    induction m with
    | zero => intro s h1 hm_ hsn hag hz; exfalso; omega
    | succ m ih =>
      intro s h1 hm_ hsn hag hz
      refine zV_iload_n dX5_clearTally_2 rfl rfl ?_
      refine zV_aload_nr dX5_clearTally_3 rfl rfl ?_
      refine gf5_55 rfl (rfl) dX5_clearTally_4 ?_
      refine zV_teq (w := zrv E 59) rfl ?_
      refine zV_alen (t := 0) (N := 8) (rfl) dX5_clearTally_7 ?_
      refine zR_icmp_ge (tgt := 24) dX5_clearTally_8 (by decide) (by omega) (by omega) (fun h8 => ?_) (fun h8 => ?_)
      · exact zV_vreturn dX5_clearTally_24 rfl (Nat.zero_le _) ⟨rfl, hag, by rw [show (8 : Nat) = s by omega]; exact hz⟩
      · refine zV_aload_nr dX5_clearTally_11 rfl rfl ?_
        refine gf5_55 rfl (rfl) dX5_clearTally_12 ?_
        refine zV_teq (w := zrv E 59) rfl ?_
        refine zV_iload_n dX5_clearTally_15 rfl rfl ?_
        refine zV_iconst dX5_clearTally_16 ?_
        refine zV_iastoreN (i := s) (N := 8) (rfl) (by omega) (by decide) dX5_clearTally_17 ?_
        refine zV_iinc dX5_clearTally_18 rfl (Nat.le_of_ble_eq_true rfl) rfl ?_
        refine zV_goto (tgt := 2) dX5_clearTally_21 (by decide) ?_
        exact ih (s + 1) _ (by omega) (by omega) (fun c2 a => by rw [zup_fn a]; exact hag c2 a) (fun i hi => if e : i = s then (by rw [zup_at, if_pos e]) else (by rw [zup_at, if_neg e]; exact hz i (by omega)))
  exact L2 9 0 h (by omega) (by omega) (fun _ _ => rfl) (fun i hi => absurd hi (by omega))
set_option maxRecDepth 100000 in
theorem c5_mostInTally {E : zE} {h : zH} {mm : Nat} (d k : Nat) (hm : mm ≤ 8) (hr : ∀ i, i < mm → -1000000 ≤ h 59 i ∧ h 59 i ≤ 1000000) : zCal E mX5_mostInTally d k [zrv E 0, ziv (mm : Int)] h (fun r h' => r = some (ziv (argS (h 59) mm)) ∧ h' = h) (fun _ _ => False) := by
  refine zCal_of (by decide) (Nat.le_of_ble_eq_true rfl) (fun a => ?_)
  show zV _ 0 0 [zrv E 0, ziv (mm : Int), .null, .null] [] _
  refine zV_iconst dX5_mostInTally_0 ?_
  refine zV_istore_n dX5_mostInTally_1 rfl (Nat.le_of_ble_eq_true rfl) rfl ?_
  refine zV_iconst dX5_mostInTally_2 ?_
  refine zV_istore_n dX5_mostInTally_3 rfl (Nat.le_of_ble_eq_true rfl) rfl ?_
  have L4 : ∀ (m : Nat) (s : Nat), (mm + 1 ≤ s + m) → (s ≤ mm) → zV (E, mX5_mostInTally, d, k, (fun r h' => r = some (ziv (argS (h 59) mm)) ∧ h' = h), (fun _ _ => False), a) 0 4 [zrv E 0, ziv (mm : Int), ziv (argS (h 59) s), ziv (s : Int)] [] h := by
    intro m
    induction m with
    | zero => intro s hm_ hsn; exfalso; omega
    | succ m ih =>
      intro s hm_ hsn
      have ha := argS_lo (h 59) s
      refine zV_iload_n dX5_mostInTally_4 rfl rfl ?_
      refine zV_iload_n dX5_mostInTally_5 rfl rfl ?_
      refine zR_icmp_ge (tgt := 46) dX5_mostInTally_6 (by decide) (by omega) (by omega) (fun h6 => ?_) (fun h6 => ?_)
      · refine zV_iload_n dX5_mostInTally_46 rfl rfl ?_
        exact zV_ireturn dX5_mostInTally_47 rfl (Nat.zero_le _) ⟨by rw [show mm = s by omega], rfl⟩
      · refine zV_iload_n dX5_mostInTally_9 rfl rfl ?_
        refine zV_aload_nr dX5_mostInTally_10 rfl rfl ?_
        refine gf5_55 rfl (rfl) dX5_mostInTally_11 ?_
        refine zV_teq (w := zrv E 59) rfl ?_
        refine zV_alen (t := 0) (N := 8) (rfl) dX5_mostInTally_14 ?_
        refine zR_icmp_ge (tgt := 46) dX5_mostInTally_15 (by decide) (by omega) (by omega) (fun h15 => ?_) (fun h15 => ?_)
        · exact absurd h15 (by omega)
        · refine zV_iload_n dX5_mostInTally_18 rfl rfl ?_
          refine zV_iconst dX5_mostInTally_19 ?_
          refine zR_icmp_eq (tgt := 38) dX5_mostInTally_20 (by decide) (by omega) (by omega) (fun h20 => ?_) (fun h20 => ?_)
          · refine zV_iload_n dX5_mostInTally_38 rfl rfl ?_
            refine zV_istore_n dX5_mostInTally_39 rfl (Nat.le_of_ble_eq_true rfl) rfl ?_
            refine zV_iinc dX5_mostInTally_40 rfl (Nat.le_of_ble_eq_true rfl) rfl ?_
            refine zV_goto (tgt := 4) dX5_mostInTally_43 (by decide) ?_
            refine zV_lveq (lv' := [zrv E 0, ziv (mm : Int), ziv (argS (h 59) (s + 1)), ziv ((s + 1 : Nat) : Int)]) (by rw [argS_s, if_pos (Or.inl h20)]; rfl) ?_
            exact ih (s + 1) (by omega) (by omega)
          · refine zV_aload_nr dX5_mostInTally_23 rfl rfl ?_
            refine gf5_55 rfl (rfl) dX5_mostInTally_24 ?_
            refine zV_teq (w := zrv E 59) rfl ?_
            refine zV_iload_n dX5_mostInTally_27 rfl rfl ?_
            refine zV_ialoadN (i := s) (N := 8) (rfl) (by omega) (by decide) dX5_mostInTally_28 ?_
            refine zV_aload_nr dX5_mostInTally_29 rfl rfl ?_
            refine gf5_55 rfl (rfl) dX5_mostInTally_30 ?_
            refine zV_teq (w := zrv E 59) rfl ?_
            refine zV_iload_n dX5_mostInTally_33 rfl rfl ?_
            refine zV_iaload (N := 8) (rfl) (by omega) (by decide) dX5_mostInTally_34 ?_
            have b1 := hr s (by omega)
            have b2 := hr (argS (h 59) s).toNat (by omega)
            refine zR_icmp_le (tgt := 40) dX5_mostInTally_35 (by decide) (by omega) (by omega) (fun h35 => ?_) (fun h35 => ?_)
            · refine zV_iinc dX5_mostInTally_40 rfl (Nat.le_of_ble_eq_true rfl) rfl ?_
              refine zV_goto (tgt := 4) dX5_mostInTally_43 (by decide) ?_
              refine zV_lveq (lv' := [zrv E 0, ziv (mm : Int), ziv (argS (h 59) (s + 1)), ziv ((s + 1 : Nat) : Int)]) (by rw [argS_s, if_neg (by omega)]; rfl) ?_
              exact ih (s + 1) (by omega) (by omega)
            · refine zV_iload_n dX5_mostInTally_38 rfl rfl ?_
              refine zV_istore_n dX5_mostInTally_39 rfl (Nat.le_of_ble_eq_true rfl) rfl ?_
              refine zV_iinc dX5_mostInTally_40 rfl (Nat.le_of_ble_eq_true rfl) rfl ?_
              refine zV_goto (tgt := 4) dX5_mostInTally_43 (by decide) ?_
              refine zV_lveq (lv' := [zrv E 0, ziv (mm : Int), ziv (argS (h 59) (s + 1)), ziv ((s + 1 : Nat) : Int)]) (by rw [argS_s, if_pos (Or.inr (by omega))]; rfl) ?_
              exact ih (s + 1) (by omega) (by omega)
  exact L4 (mm + 1) 0 (by omega) (by omega)
set_option maxRecDepth 100000 in
theorem c5_swept {E : zE} {h : zH} {t n jn : Nat} {y : Int} (hy : -2147483648 ≤ y ∧ y ≤ 2147483647) (hi : tInv h t n jn) : zCal E mX5_swept 12 4 [zrv E 0, ziv y] h (fun r h' => (0 ≤ y ∧ y ≤ 60) ∧ r = some (ziv (swpS (fun k => (nowR h t n jn k).1) n y.toNat)) ∧ qry h h') (fun e h' => h' = h ∧ e = IAE ∧ ¬ (0 ≤ y ∧ y ≤ 60)) := by
  refine zCal_of (by decide) (Nat.le_of_ble_eq_true rfl) (fun a => ?_)
  show zV _ 0 0 [zrv E 0, ziv y, .null, .null] [] _
  have ht := hi.2.1.1
  have k0 := hi.1
  have hnum := hi.2.2.2.2
  have hn8 := hi.2.1.2.1
  have hjn8 := hi.2.1.2.2.1
  refine zV_iload_n dX5_swept_0 rfl rfl ?_
  refine zV_iconst dX5_swept_1 ?_
  refine zV_bipush dX5_swept_2 (by decide) ?_
  refine zV_callS (As := [ziv y, ziv 0, ziv 60]) lk5_208 (c5_needWithin (by omega) (by decide) (by decide)) ⟨Nat.le_of_ble_eq_true rfl, Nat.le_of_ble_eq_true rfl⟩ rfl (Nat.le_of_ble_eq_true rfl) dX5_swept_4 (fun e h2 z => ⟨z.2.1, z.1, z.2.2⟩) (fun r h' q => ?_)
  obtain ⟨rfl, hh, ci⟩ := q
  rw [hh]
  obtain ⟨kk, hkk⟩ : ∃ z : Nat, y = (z : Int) := ⟨y.toNat, by omega⟩
  refine zV_aload_nr dX5_swept_7 rfl rfl ?_
  refine zV_callV (As := []) lk5_248 (rfl) rfl rfl (c5_startTrial 11 0 (by decide)) ⟨by show _ + 1 ≤ 12; omega, by show _ ≤ 4; omega⟩ rfl (Nat.le_of_ble_eq_true rfl) dX5_swept_8 (fun _ _ z => z.elim) (fun r h' q => ?_)
  obtain ⟨rfl, q⟩ := q
  have tr := tri_0 hi q
  have k0 : h' 0 3 = (t : Int) := by rw [tr.1 0 (by omega)]; exact hi.1
  have hl2 : h' t 0 = (n : Int) := (tri_ct hi.2.1 tr).2.2.2.1
  refine zV_aload_nr dX5_swept_11 rfl rfl ?_
  refine gf5_51 rfl (rfl) dX5_swept_12 ?_
  refine zV_teq (w := zrv E 53) rfl ?_
  refine zV_aload_nr dX5_swept_15 rfl rfl ?_
  refine gf5_20 (t := t) (k0) rfl (rfl) dX5_swept_16 ?_
  refine gf5_106 rfl (court_0 ht) dX5_swept_19 ?_
  rw [hl2]
  refine zV_callV (As := [ziv (n : Int)]) lk5_280 (rfl) rfl rfl (c2_placesWithLeaves 11 0 (Or.inr (Or.inr rfl)) hn8) ⟨by show _ + 1 ≤ 12; omega, by show _ ≤ 4; omega⟩ rfl (Nat.le_of_ble_eq_true rfl) dX5_swept_22 (fun _ _ z => z.elim) (fun r h' q => ?_)
  obtain ⟨rfl, hh⟩ := q
  rw [hh, bitsP_congr n tr.2.1]
  refine zV_istore_n dX5_swept_25 rfl (Nat.le_of_ble_eq_true rfl) rfl ?_
  refine zV_iconst dX5_swept_26 ?_
  refine zV_istore_n dX5_swept_27 rfl (Nat.le_of_ble_eq_true rfl) rfl ?_
  have L28 : ∀ (m : Nat) (s : Nat) (h1 : zH), (kk + 1 ≤ s + m) → (s ≤ kk) → (tri h t n jn (gOf h 32 t) (xOf h 32) s h1) → zV (E, mX5_swept, 12, 4, (fun r h' => (0 ≤ y ∧ y ≤ 60) ∧ r = some (ziv (swpS (fun k => (nowR h t n jn k).1) n y.toNat)) ∧ qry h h'), (fun e h' => h' = h ∧ e = IAE ∧ ¬ (0 ≤ y ∧ y ≤ 60)), a) 1 28 [zrv E 0, ziv y, ziv (swpS (fun k => (nowR h t n jn k).1) n s), ziv (s : Int)] [] h1 := by
    intro m
    induction m with
    | zero => intro s h1 hm_ hsn tr; exfalso; omega
    | succ m ih =>
      intro s h1 hm_ hsn tr
      have k0 : h1 0 3 = (t : Int) := by rw [tr.1 0 (by omega)]; exact hi.1
      have hct2 := tri_ct hi.2.1 tr
      refine zV_iload_n dX5_swept_28 rfl rfl ?_
      refine zV_iload_n dX5_swept_29 rfl rfl ?_
      refine zR_icmp_ge (tgt := 71) dX5_swept_30 (by decide) (by omega) (by omega) (fun h30 => ?_) (fun h30 => ?_)
      · refine zV_iload_n dX5_swept_71 rfl rfl ?_
        exact zV_ireturn dX5_swept_72 rfl (Nat.le_of_ble_eq_true rfl) ⟨ci, by rw [show y.toNat = s by omega], qry_tri tr⟩
      · refine zV_aload_nr dX5_swept_33 rfl rfl ?_
        refine gf5_51 rfl (rfl) dX5_swept_34 ?_
        refine zV_teq (w := zrv E 53) rfl ?_
        refine zV_aload_nr dX5_swept_37 rfl rfl ?_
        refine gf5_20 (t := t) (k0) rfl (rfl) dX5_swept_38 ?_
        refine zV_aload_nr dX5_swept_41 rfl rfl ?_
        refine gf5_34 rfl (rfl) dX5_swept_42 ?_
        refine zV_teq (w := zrv E 28) rfl ?_
        refine zV_callV (As := [zrv E t, zrv E 28]) lk5_234 (rfl) rfl rfl (c2_hear 11 0 (by decide) hct2 tr.2.2.2.2.2.1 tr.2.2.2.2.2.2) ⟨by show _ + 1 ≤ 12; omega, by show _ ≤ 4; omega⟩ rfl (Nat.le_of_ble_eq_true rfl) dX5_swept_45 (fun _ _ z => z.elim) (fun r h' q => ?_)
        obtain ⟨rfl, q⟩ := q
        have tr2 := tri_s hi.2.1 (by omega) tr q
        have k0 : h' 0 3 = (t : Int) := by rw [tr2.1 0 (by omega)]; exact hi.1
        have hl2 : h' t 0 = (n : Int) := (tri_ct hi.2.1 tr2).2.2.2.1
        refine zV_iload_n dX5_swept_48 rfl rfl ?_
        refine zV_aload_nr dX5_swept_49 rfl rfl ?_
        refine gf5_51 rfl (rfl) dX5_swept_50 ?_
        refine zV_teq (w := zrv E 53) rfl ?_
        refine zV_aload_nr dX5_swept_53 rfl rfl ?_
        refine gf5_20 (t := t) (k0) rfl (rfl) dX5_swept_54 ?_
        refine gf5_106 rfl (court_0 ht) dX5_swept_57 ?_
        rw [hl2]
        refine zV_callV (As := [ziv (n : Int)]) lk5_280 (rfl) rfl rfl (c2_placesWithLeaves 11 0 (Or.inr (Or.inr rfl)) hn8) ⟨by show _ + 1 ≤ 12; omega, by show _ ≤ 4; omega⟩ rfl (Nat.le_of_ble_eq_true rfl) dX5_swept_60 (fun _ _ z => z.elim) (fun r h' q => ?_)
        obtain ⟨rfl, hh⟩ := q
        rw [hh, bitsP_congr n tr2.2.1]
        refine zV_ior dX5_swept_63 ?_
        refine zV_istore_n dX5_swept_64 rfl (Nat.le_of_ble_eq_true rfl) rfl ?_
        refine zV_iinc dX5_swept_65 rfl (Nat.le_of_ble_eq_true rfl) rfl ?_
        refine zV_goto (tgt := 28) dX5_swept_68 (by decide) ?_
        exact ih (s + 1) _ (by omega) (by omega) tr2
  exact L28 (kk + 1) 0 _ (by omega) (by omega) tr
set_option maxRecDepth 100000 in
theorem c5_drunk {E : zE} {h : zH} {t n jn : Nat} {x y : Int} (hx : -2147483648 ≤ x ∧ x ≤ 2147483647) (hy : -2147483648 ≤ y ∧ y ≤ 2147483647) (hse : ∀ j, j < jn → seated (h 36) jn j) (hi : tInv h t n jn) : zCal E mX5_drunk 12 4 [zrv E 0, ziv x, ziv y] h (fun r h' => (0 ≤ x ∧ x < jn) ∧ (1 ≤ y ∧ y ≤ 60) ∧ r = some (ziv ((nowR h t n jn y.toNat).2.2.2 x.toNat)) ∧ qry h h') (fun e h' => h' = h ∧ ((e = NSE ∧ ¬ (0 ≤ x ∧ x < jn)) ∨ (e = IAE ∧ ((0 ≤ x ∧ x < jn) ∧ ¬ (1 ≤ y ∧ y ≤ 60))))) := by
  refine zCal_of (by decide) (Nat.le_of_ble_eq_true rfl) (fun a => ?_)
  show zV _ 0 0 [zrv E 0, ziv x, ziv y] [] _
  have ht := hi.2.1.1
  have k0 := hi.1
  have hnum := hi.2.2.2.2
  have hn8 := hi.2.1.2.1
  have hjn8 := hi.2.1.2.2.1
  refine zV_aload_nr dX5_drunk_0 rfl rfl ?_
  refine zV_iload_n dX5_drunk_1 rfl rfl ?_
  refine zV_callV (As := [ziv x]) lk5_167 (rfl) rfl rfl (c5_needJudge ht k0 hi.2.1.2.2.2.2.1 hi.2.1.2.2.1 (by omega)) ⟨Nat.le_of_ble_eq_true rfl, Nat.le_of_ble_eq_true rfl⟩ rfl (Nat.le_of_ble_eq_true rfl) dX5_drunk_2 (fun e h2 z => ⟨z.2.1, Or.inl ⟨z.1, z.2.2⟩⟩) (fun r h' q => ?_)
  obtain ⟨rfl, hh, cj⟩ := q
  rw [hh]
  refine zV_iload_n dX5_drunk_5 rfl rfl ?_
  refine zV_iconst dX5_drunk_6 ?_
  refine zV_bipush dX5_drunk_7 (by decide) ?_
  refine zV_callS (As := [ziv y, ziv 1, ziv 60]) lk5_208 (c5_needWithin (by omega) (by decide) (by decide)) ⟨Nat.le_of_ble_eq_true rfl, Nat.le_of_ble_eq_true rfl⟩ rfl (Nat.le_of_ble_eq_true rfl) dX5_drunk_9 (fun e h2 z => ⟨z.2.1, Or.inr ⟨z.1, cj, z.2.2⟩⟩) (fun r h' q => ?_)
  obtain ⟨rfl, hh, ci⟩ := q
  rw [hh]
  refine zV_aload_nr dX5_drunk_12 rfl rfl ?_
  refine zV_iload_n dX5_drunk_13 rfl rfl ?_
  refine zV_callV (As := [ziv y]) lk5_255 (rfl) rfl rfl (c5_goAhead 11 0 (by decide) hi (by omega)) ⟨by show _ + 1 ≤ 12; omega, by show _ ≤ 4; omega⟩ rfl (Nat.le_of_ble_eq_true rfl) dX5_drunk_14 (fun _ _ z => z.elim) (fun r h' q => ?_)
  obtain ⟨rfl, tr⟩ := q
  refine zV_aload_nr dX5_drunk_17 rfl rfl ?_
  refine gf5_51 rfl (rfl) dX5_drunk_18 ?_
  refine zV_teq (w := zrv E 53) rfl ?_
  refine gf5_277 rfl (rfl) dX5_drunk_21 ?_
  refine zV_teq (w := zrv E 58) rfl ?_
  refine zV_iload_n dX5_drunk_24 rfl rfl ?_
  refine zV_iaload (N := 8) (rfl) (by omega) (by decide) dX5_drunk_25 ?_
  exact zV_ireturn dX5_drunk_26 rfl (Nat.le_of_ble_eq_true rfl) ⟨cj, ci, by rw [(tr.2.2.1 (by omega)).2.2 x.toNat (hse _ (by omega))]; rfl, qry_tri tr⟩
set_option maxRecDepth 100000 in
theorem c5_streak {E : zE} {h : zH} {t n jn : Nat} {y : Int} (hy : -2147483648 ≤ y ∧ y ≤ 2147483647) (hi : tInv h t n jn) : zCal E mX5_streak 12 4 [zrv E 0, ziv y] h (fun r h' => (1 ≤ y ∧ y ≤ 60) ∧ r = some (ziv (strS (latN h t n jn) y.toNat).1) ∧ qry h h') (fun e h' => h' = h ∧ e = IAE ∧ ¬ (1 ≤ y ∧ y ≤ 60)) := by
  refine zCal_of (by decide) (Nat.le_of_ble_eq_true rfl) (fun a => ?_)
  show zV _ 0 0 [zrv E 0, ziv y, .null, .null, .null, .null, .null] [] _
  have ht := hi.2.1.1
  have k0 := hi.1
  have hnum := hi.2.2.2.2
  have hn8 := hi.2.1.2.1
  have hjn8 := hi.2.1.2.2.1
  refine zV_iload_n dX5_streak_0 rfl rfl ?_
  refine zV_iconst dX5_streak_1 ?_
  refine zV_bipush dX5_streak_2 (by decide) ?_
  refine zV_callS (As := [ziv y, ziv 1, ziv 60]) lk5_208 (c5_needWithin (by omega) (by decide) (by decide)) ⟨Nat.le_of_ble_eq_true rfl, Nat.le_of_ble_eq_true rfl⟩ rfl (Nat.le_of_ble_eq_true rfl) dX5_streak_4 (fun e h2 z => ⟨z.2.1, z.1, z.2.2⟩) (fun r h' q => ?_)
  obtain ⟨rfl, hh, ci⟩ := q
  rw [hh]
  obtain ⟨kk, hkk⟩ : ∃ z : Nat, y = (z : Int) := ⟨y.toNat, by omega⟩
  refine zV_aload_nr dX5_streak_7 rfl rfl ?_
  refine zV_callV (As := []) lk5_248 (rfl) rfl rfl (c5_startTrial 11 0 (by decide)) ⟨by show _ + 1 ≤ 12; omega, by show _ ≤ 4; omega⟩ rfl (Nat.le_of_ble_eq_true rfl) dX5_streak_8 (fun _ _ z => z.elim) (fun r h' q => ?_)
  obtain ⟨rfl, q⟩ := q
  refine zV_iconst dX5_streak_11 ?_
  refine zV_istore_n dX5_streak_12 rfl (Nat.le_of_ble_eq_true rfl) rfl ?_
  refine zV_iconst dX5_streak_13 ?_
  refine zV_istore_n dX5_streak_14 rfl (Nat.le_of_ble_eq_true rfl) rfl ?_
  refine zV_iconst dX5_streak_15 ?_
  refine zV_istore dX5_streak_16 (Nat.le_of_ble_eq_true rfl) rfl ?_
  refine zV_iconst dX5_streak_18 ?_
  refine zV_istore dX5_streak_19 (Nat.le_of_ble_eq_true rfl) rfl ?_
  have L21 : ∀ (m : Nat) (s : Nat) (h1 : zH), (kk + 1 ≤ s + m) → (s ≤ kk) → (tri h t n jn (gOf h 32 t) (xOf h 32) s h1) → zV (E, mX5_streak, 12, 4, (fun r h' => (1 ≤ y ∧ y ≤ 60) ∧ r = some (ziv (strS (latN h t n jn) y.toNat).1) ∧ qry h h'), (fun e h' => h' = h ∧ e = IAE ∧ ¬ (1 ≤ y ∧ y ≤ 60)), a) 1 21 [zrv E 0, ziv y, ziv (strS (latN h t n jn) s).1, ziv (strS (latN h t n jn) s).2, ziv (if s = 0 then (-1 : Int) else latN h t n jn s), ziv (s : Int), .null] [] h1 := by
    intro m
    induction m with
    | zero => intro s h1 hm_ hsn tr; exfalso; omega
    | succ m ih =>
      intro s h1 hm_ hsn tr
      have k0 : h1 0 3 = (t : Int) := by rw [tr.1 0 (by omega)]; exact hi.1
      have hct2 := tri_ct hi.2.1 tr
      refine zV_iload dX5_streak_21 rfl ?_
      refine zV_iload_n dX5_streak_23 rfl rfl ?_
      refine zR_icmp_ge (tgt := 64) dX5_streak_24 (by decide) (by omega) (by omega) (fun h24 => ?_) (fun h24 => ?_)
      · refine zV_iload_n dX5_streak_64 rfl rfl ?_
        exact zV_ireturn dX5_streak_65 rfl (Nat.le_of_ble_eq_true rfl) ⟨ci, by rw [show y.toNat = s by omega], qry_tri tr⟩
      · refine zV_aload_nr dX5_streak_27 rfl rfl ?_
        refine zV_callV (As := []) lk5_264 (rfl) rfl rfl (c5_nextVerdict 11 0 (by decide) k0 hct2 tr.2.2.2.2.2.1 tr.2.2.2.2.2.2) ⟨by show _ + 1 ≤ 12; omega, by show _ ≤ 4; omega⟩ rfl (Nat.le_of_ble_eq_true rfl) dX5_streak_28 (fun _ _ z => z.elim) (fun r h' q => ?_)
        obtain ⟨rfl, q⟩ := q
        have tr2 := tri_s hi.2.1 (by omega) tr q
        rw [(tr2.2.2.1 (by omega)).1]
        refine zV_istore dX5_streak_31 (Nat.le_of_ble_eq_true rfl) rfl ?_
        have J47 : ∀ (rw : Int), (rw = if latN h t n jn (s + 1) = (if s = 0 then (-1 : Int) else latN h t n jn s) then (strS (latN h t n jn) s).2 + 1 else 1) → zV (E, mX5_streak, 12, 4, (fun r h' => (1 ≤ y ∧ y ≤ 60) ∧ r = some (ziv (strS (latN h t n jn) y.toNat).1) ∧ qry h h'), (fun e h' => h' = h ∧ e = IAE ∧ ¬ (1 ≤ y ∧ y ≤ 60)), a) (1 + 0) 47 [zrv E 0, ziv y, ziv (strS (latN h t n jn) s).1, ziv (strS (latN h t n jn) s).2, ziv (if s = 0 then (-1 : Int) else latN h t n jn s), ziv (s : Int), ziv (latN h t n jn (s + 1))] [ziv rw] h' := by
          intro rw hrw
          refine zV_istore_n dX5_streak_47 rfl (Nat.le_of_ble_eq_true rfl) rfl ?_
          refine zV_iload dX5_streak_48 rfl ?_
          refine zV_istore dX5_streak_50 (Nat.le_of_ble_eq_true rfl) rfl ?_
          refine zV_iload_n dX5_streak_52 rfl rfl ?_
          refine zV_iload_n dX5_streak_53 rfl rfl ?_
          have b1 := strS_lo (latN h t n jn) s
          have b2 : 0 ≤ rw ∧ rw ≤ 100 := by rw [hrw]; split <;> omega
          refine zV_callS (As := [ziv (strS (latN h t n jn) s).1, ziv rw]) lk5_283 (cJ_max 11 0 (by omega) (by omega)) ⟨by show _ + 1 ≤ 12; omega, by show _ ≤ 4; omega⟩ rfl (Nat.le_of_ble_eq_true rfl) dX5_streak_54 (fun _ _ z => z.elim) (fun r h' q => ?_)
          obtain ⟨rfl, hh⟩ := q
          rw [hh, hrw]
          refine zV_istore_n dX5_streak_57 rfl (Nat.le_of_ble_eq_true rfl) rfl ?_
          refine zV_iinc dX5_streak_58 rfl (Nat.le_of_ble_eq_true rfl) rfl ?_
          refine zV_goto (tgt := 21) dX5_streak_61 (by decide) ?_
          refine zV_drop 6 ?_
          exact ih (s + 1) _ (by omega) (by omega) tr2
        refine zV_iload dX5_streak_33 rfl ?_
        refine zV_iload dX5_streak_35 rfl ?_
        have hl5 := (nowR_lo hi (s + 1)).2 (by omega)
        have hl6 : (if s = 0 then (-1 : Int) else latN h t n jn s) = -1 ∨ (0 ≤ (if s = 0 then (-1 : Int) else latN h t n jn s) ∧ (if s = 0 then (-1 : Int) else latN h t n jn s) < 5) := by
          split
          · exact Or.inl rfl
          · exact Or.inr ((nowR_lo hi s).2 (by omega))
        refine zR_icmp_ne (tgt := 46) dX5_streak_37 (by decide) (by unfold latN nowR runH at hl5; omega) (by omega) (fun h37 => ?_) (fun h37 => ?_)
        · refine zV_iconst dX5_streak_46 ?_
          exact J47 _ (if_neg h37).symm
        · refine zV_iload_n dX5_streak_40 rfl rfl ?_
          refine zV_iconst dX5_streak_41 ?_
          refine zV_iadd dX5_streak_42 ?_
          refine zV_goto (tgt := 47) dX5_streak_43 (by decide) ?_
          exact J47 _ (if_pos h37).symm
  exact L21 (kk + 1) 0 _ (by omega) (by omega) (tri_0 hi q)
