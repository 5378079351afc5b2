/-! cases one behind the other, on a heap -/
def gOf (h : zH) (c t : Nat) : zG := (h (c + 4), h (c + 3), h (c + 2), h c 5, h (t + 2), h (t + 6), h (t + 10) 0, ruleV h t 0, h (t + 10) 1, ruleV h t 1)
def xOf (h : zH) (c : Nat) : (Nat → Int) × Int × Int × (Nat → Int) := (h (c + 1), h c 7, h c 8, h (c + 5))
def runH (h : zH) (c t n jn k : Nat) : (Nat → Int) × Int × Int × (Nat → Int) := runG n jn (gOf h c t) (h c 6) (xOf h c) k
def ran (h : zH) (c t n jn k : Nat) (h' : zH) : Prop := (∀ c2 : Nat, c2 ≠ c → c2 ≠ c + 1 → c2 ≠ c + 5 → c2 ≠ 28 → c2 ≠ 29 → c2 ≠ 30 → h' c2 = h c2) ∧ h' (c + 1) = (runH h c t n jn k).1 ∧ h' c 7 = (runH h c t n jn k).2.1 ∧ h' c 8 = (runH h c t n jn k).2.2.1 ∧ h' (c + 5) = (runH h c t n jn k).2.2.2 ∧ h' c 5 = h c 5 ∧ h' c 6 = h c 6 + k ∧ rkOK h'
theorem ran_0 {h : zH} {c t n jn : Nat} (hr : rkOK h) : ran h c t n jn 0 h := ⟨fun _ _ _ _ _ _ _ => rfl, rfl, rfl, rfl, rfl, rfl, by simp, hr⟩
theorem ran_s {h h1 h2 : zH} {c t n jn k : Nat} (hc : isCup c) (ht : isCourt t) (h0 : ran h c t n jn k h1) (h9 : heard h1 c t n jn h2) : ran h c t n jn (k + 1) h2 := by
  have hc9 : c = 32 ∨ c = 43 ∨ c = 53 := hc
  have ht9 : t = 2 ∨ t = 16 := ht
  obtain ⟨a0, a1, a2, a3, a4, a5, a6, a7⟩ := h0
  obtain ⟨b0, b1, b2, b3, b4, b5, b6, b7⟩ := h9
  have et : ∀ o, o ≤ 11 → h1 (t + o) = h (t + o) := fun o ho => a0 (t + o) (by omega) (by omega) (by omega) (by omega) (by omega) (by omega)
  have e2 : h1 (c + 2) = h (c + 2) := a0 _ (by omega) (by omega) (by omega) (by omega) (by omega) (by omega)
  have e3 : h1 (c + 3) = h (c + 3) := a0 _ (by omega) (by omega) (by omega) (by omega) (by omega) (by omega)
  have e4 : h1 (c + 4) = h (c + 4) := a0 _ (by omega) (by omega) (by omega) (by omega) (by omega) (by omega)
  have er : ∀ ru, ruleV h1 t ru = ruleV h t ru := fun ru => ruleV_congr (et 7 (by omega)) (et 8 (by omega)) (et 9 (by omega))
  have hX : caseX h1 c t n jn jn = seatsG n jn (gOf h c t) (h c 6 + k) ((runH h c t n jn k).1, h c 5, (runH h c t n jn k).2.2.2) jn := by
    unfold caseX seatsG gOf
    rw [e2, e3, e4, et 2 (by omega), et 6 (by omega), et 10 (by omega), er 0, a6, a1, a5, a4]
  rw [hX] at b1 b2 b3 b6
  refine ⟨fun c2 x1 x2 x3 x4 x5 x6 => (b0 c2 x1 x2 x3 x4 x5 x6).trans (a0 c2 x1 x2 x3 x4 x5 x6), b1, ?_, b2, b3, b4.trans a5, ?_, b7⟩
  · rw [b6, a6, et 10 (by omega), er 1]; rfl
  · rw [b5, a6]; omega
theorem runG_lo {n jn : Nat} {g : zG} {ca : Int} {x : (Nat → Int) × Int × Int × (Nat → Int)} (hp : ∀ l, l < n → 0 ≤ x.1 l ∧ x.1 l < 12) (hpo : 0 ≤ g.2.2.2.1 ∧ g.2.2.2.1 ≤ 99) : ∀ k, (∀ l, l < n → 0 ≤ (runG n jn g ca x k).1 l ∧ (runG n jn g ca x k).1 l < 12) ∧ (1 ≤ k → 0 ≤ (runG n jn g ca x k).2.1 ∧ (runG n jn g ca x k).2.1 < 5) := by
  intro k
  induction k with
  | zero => exact ⟨hp, fun h => absurd h (by omega)⟩
  | succ k ih =>
    have hs : ∀ m, (∀ l, l < n → 0 ≤ (seatsG n jn g (ca + k) ((runG n jn g ca x k).1, g.2.2.2.1, (runG n jn g ca x k).2.2.2) m).1 l ∧ (seatsG n jn g (ca + k) ((runG n jn g ca x k).1, g.2.2.2.1, (runG n jn g ca x k).2.2.2) m).1 l < 12) ∧ 0 ≤ (seatsG n jn g (ca + k) ((runG n jn g ca x k).1, g.2.2.2.1, (runG n jn g ca x k).2.2.2) m).2.1 ∧ (seatsG n jn g (ca + k) ((runG n jn g ca x k).1, g.2.2.2.1, (runG n jn g ca x k).2.2.2) m).2.1 ≤ 99 := by
      intro m
      induction m with
      | zero => exact ⟨ih.1, hpo⟩
      | succ m ihm => exact seatStep_lo ihm.2
    refine ⟨(hs jn).1, fun _ => ?_⟩
    show 0 ≤ verdS _ _ _ _ _ _ ∧ verdS _ _ _ _ _ _ < 5
    unfold verdS
    exact ⟨Int.emod_nonneg _ (by decide), Int.emod_lt_of_pos _ (by decide)⟩
theorem courtOK_congr {h h1 : zH} {t n jn : Nat} (e : ∀ o, o ≤ 11 → h1 (t + o) = h (t + o)) (hc : courtOK h t n jn) : courtOK h1 t n jn := by
  obtain ⟨a1, a2, a3, a4, a5, a6, a7, a8⟩ := hc
  have e0 : h1 t = h t := e 0 (by omega)
  exact ⟨a1, a2, a3, by rw [e0]; exact a4, by rw [e0]; exact a5, by rw [e 2 (by omega)]; exact a6, by rw [e 6 (by omega)]; exact a7, fun ru hru => ruleOK_congr (fun o _ o2 => e o o2) (a8 ru hru)⟩
theorem ran_ok {h h1 : zH} {c t n jn k : Nat} (hct : courtOK h t n jn) (hcu : cupOK h c n jn) (hn : h c 6 + k ≤ 100000) (h0 : ran h c t n jn k h1) : courtOK h1 t n jn ∧ cupOK h1 c n jn ∧ rkOK h1 := by
  have hc9 : c = 32 ∨ c = 43 ∨ c = 53 := hcu.1
  have ht9 : t = 2 ∨ t = 16 := hct.1
  obtain ⟨a0, a1, a2, a3, a4, a5, a6, a7⟩ := h0
  obtain ⟨c1, c2, c3, c4, c5, c6, c7⟩ := hcu
  refine ⟨courtOK_congr (fun o ho => a0 (t + o) (by omega) (by omega) (by omega) (by omega) (by omega) (by omega)) hct, ⟨c1, ?_, ?_, ?_, ?_, ?_, ?_⟩, a7⟩
  · rw [a1]; exact (runG_lo (g := gOf h c t) c2 c6 k).1
  · rw [a0 (c + 2) (by omega) (by omega) (by omega) (by omega) (by omega) (by omega)]; exact c3
  · rw [a0 (c + 3) (by omega) (by omega) (by omega) (by omega) (by omega) (by omega)]; exact c4
  · rw [a0 (c + 4) (by omega) (by omega) (by omega) (by omega) (by omega) (by omega)]; exact c5
  · rw [a5]; exact c6
  · rw [a6]; omega
/-- a cup as another one -/
def copied (h : zH) (o c : Nat) (h' : zH) : Prop := (∀ c2 : Nat, c2 ≠ c → c2 ≠ c + 1 → c2 ≠ c + 2 → c2 ≠ c + 3 → c2 ≠ c + 4 → h' c2 = h c2) ∧ agn 8 (h' (c + 1)) (h (o + 1)) ∧ agn 8 (h' (c + 2)) (h (o + 2)) ∧ agn 8 (h' (c + 3)) (h (o + 3)) ∧ agn 8 (h' (c + 4)) (h (o + 4)) ∧ h' c 5 = h o 5 ∧ h' c 6 = h o 6 ∧ h' c 7 = h o 7 ∧ h' c 8 = h c 8
theorem zcp_at {h : zH} {k0 k1 : Nat} : agn 8 (zcp h k0 0 k1 0 8 k1) (h k0) := fun i hi => by
  unfold zcp; rw [if_pos ⟨rfl, by omega, by omega⟩]; congr 1; omega
theorem seatS_lo (f : Nat → Int) (j : Int) : ∀ m s : Nat, seatS f j s m = -1 ∨ ((s : Int) ≤ seatS f j s m ∧ seatS f j s m < s + m) := by
  intro m
  induction m with
  | zero => intro s; exact Or.inl rfl
  | succ m ih =>
    intro s
    unfold seatS
    split
    · right; omega
    · rcases ih (s + 1) with h | h
      · exact Or.inl h
      · right; omega
/-- two change seats -/
def swapP (f : Nat → Int) (a b : Int) (jn : Nat) : Nat → Int := fun i => if 0 ≤ seatS f a 0 jn ∧ 0 ≤ seatS f b 0 jn then (if i = (seatS f b 0 jn).toNat then a else if i = (seatS f a 0 jn).toNat then b else f i) else f i
def likeB (p q : Nat → Int) : Nat → Bool
  | 0 => true
  | n + 1 => likeB p q n && decide (p n = q n)
theorem likeB_s (p q : Nat → Int) (n : Nat) : likeB p q (n + 1) = (likeB p q n && decide (p n = q n)) := rfl
theorem likeB_f {p q : Nat → Int} {m : Nat} (h : likeB p q m = false) : ∀ k, likeB p q (m + k) = false := by
  intro k
  induction k with
  | zero => exact h
  | succ k ih => show likeB p q (m + k + 1) = false; rw [likeB_s, ih]; rfl
def bitsP (p : Nat → Int) : Nat → Int → Int
  | 0, a => a
  | n + 1, a => zor (bitsP p n a) (zshl 1 (p n))

theorem lk2_43 : Cond.methodLink RX2 43 arraycopyName ∈ zTs := zTs_of (by decide +kernel) rfl
set_option maxRecDepth 100000 in
theorem c2_seatOf {E : zE} {h : zH} {c : Nat} {j : Int} {n : Nat} (d k : Nat) (hc : isCup c) (hj : -2147483648 ≤ j ∧ j ≤ 2147483647) (hn : n ≤ 8) (hs : ∀ i, i < n → 0 ≤ h (c + 4) i ∧ h (c + 4) i < 8) : zCal E mX2_seatOf d k [zrv E c, ziv j, ziv (n : Int)] h (fun r h' => r = some (ziv (seatS (h (c + 4)) j 0 n)) ∧ h' = h) (fun _ _ => False) := by
  refine zCal_of (by decide) (Nat.le_of_ble_eq_true rfl) (fun a => ?_)
  show zV _ 0 0 [zrv E c, ziv j, ziv (n : Int), .null] [] _
  refine zV_iconst dX2_seatOf_0 ?_
  refine zV_istore_n dX2_seatOf_1 rfl (Nat.le_of_ble_eq_true rfl) rfl ?_
  have L2 : ∀ (m : Nat) (s : Nat), (n + 1 ≤ s + m) → (s ≤ n) → (seatS (h (c + 4)) j 0 n = seatS (h (c + 4)) j s (n - s)) → zV (E, mX2_seatOf, d, k, (fun r h' => r = some (ziv (seatS (h (c + 4)) j 0 n)) ∧ h' = h), (fun _ _ => False), a) 0 2 [zrv E c, ziv j, ziv (n : Int), ziv (s : Int)] [] h := by
    intro m
    induction m with
    | zero => intro s hm_ hsn hi; exfalso; omega
    | succ m ih =>
      intro s hm_ hsn hi
      refine zV_iload_n dX2_seatOf_2 rfl rfl ?_
      refine zV_iload_n dX2_seatOf_3 rfl rfl ?_
      refine zR_icmp_ge (tgt := 25) dX2_seatOf_4 (by decide) (by omega) (by omega) (fun h4 => ?_) (fun h4 => ?_)
      · have e : s = n := by omega
        subst e
        refine zV_iconst dX2_seatOf_25 ?_
        exact zV_ireturn dX2_seatOf_26 rfl (Nat.zero_le _) ⟨by rw [hi, Nat.sub_self]; rfl, rfl⟩
      · refine zV_aload_nr dX2_seatOf_7 rfl rfl ?_
        refine gf2_21 rfl (cup_0 hc) dX2_seatOf_8 ?_
        refine zV_iload_n dX2_seatOf_11 rfl rfl ?_
        have hb := hs s (by omega)
        refine zV_iaload (N := 8) (cup_4 hc) (by omega) (by decide) dX2_seatOf_12 ?_
        refine zV_iload_n dX2_seatOf_13 rfl rfl ?_
        refine zR_icmp_ne (tgt := 19) dX2_seatOf_14 (by decide) (by rw [Int.toNat_natCast]; omega) hj (fun h14 => ?_) (fun h14 => ?_)
        · rw [Int.toNat_natCast] at h14
          have hi2 : seatS (h (c + 4)) j 0 n = seatS (h (c + 4)) j (s + 1) (n - (s + 1)) := by
                      rw [hi, show n - s = (n - (s + 1)) + 1 by omega, seatS, if_neg h14]
          refine zV_iinc dX2_seatOf_19 rfl (Nat.le_of_ble_eq_true rfl) rfl ?_
          refine zV_goto (tgt := 2) dX2_seatOf_22 (by decide) ?_
          exact ih (s + 1) (by omega) (by omega) hi2
        · rw [Int.toNat_natCast] at h14
          refine zV_iload_n dX2_seatOf_17 rfl rfl ?_
          exact zV_ireturn dX2_seatOf_18 rfl (Nat.zero_le _) ⟨by rw [hi, show n - s = (n - s - 1) + 1 by omega, seatS, if_pos h14], rfl⟩
  exact L2 (n + 1) 0 (by omega) (by omega) rfl
set_option maxRecDepth 100000 in
theorem c2_swap {E : zE} {h : zH} {c jn : Nat} {x y : Int} (d k : Nat) (hd : 1 ≤ d) (hc : isCup c) (hx : -2147483648 ≤ x ∧ x ≤ 2147483647) (hy : -2147483648 ≤ y ∧ y ≤ 2147483647) (hjn : jn ≤ 8) (hs : ∀ i, i < jn → 0 ≤ h (c + 4) i ∧ h (c + 4) i < 8) : zCal E mX2_swap d k [zrv E c, ziv x, ziv y, ziv (jn : Int)] h (fun r h' => r = none ∧ h' = zst h (c + 4) (swapP (h (c + 4)) x y jn)) (fun _ _ => False) := by
  refine zCal_of (by decide) (Nat.le_of_ble_eq_true rfl) (fun a => ?_)
  show zV _ 0 0 [zrv E c, ziv x, ziv y, ziv (jn : Int), .null, .null] [] _
  have l1 := seatS_lo (h (c + 4)) x jn 0
  have l2 := seatS_lo (h (c + 4)) y jn 0
  obtain ⟨sx, hsx⟩ : ∃ z, z = seatS (h (c + 4)) x 0 jn := ⟨_, rfl⟩
  obtain ⟨sy, hsy⟩ : ∃ z, z = seatS (h (c + 4)) y 0 jn := ⟨_, rfl⟩
  rw [← hsx] at l1
  rw [← hsy] at l2
  refine zV_aload_nr dX2_swap_0 rfl rfl ?_
  refine zV_iload_n dX2_swap_1 rfl rfl ?_
  refine zV_iload_n dX2_swap_2 rfl rfl ?_
  refine zV_callV (As := [ziv x, ziv (jn : Int)]) lk2_49 (cup_0 hc) rfl rfl (c2_seatOf (d - 1) 0 hc hx hjn hs) ⟨by show _ + 1 ≤ d; omega, by show _ ≤ k; omega⟩ rfl (Nat.le_of_ble_eq_true rfl) dX2_swap_3 (fun _ _ z => z.elim) (fun r h' q => ?_)
  obtain ⟨rfl, hh⟩ := q
  rw [hh, ← hsx]
  refine zV_istore dX2_swap_6 (Nat.le_of_ble_eq_true rfl) rfl ?_
  refine zV_aload_nr dX2_swap_8 rfl rfl ?_
  refine zV_iload_n dX2_swap_9 rfl rfl ?_
  refine zV_iload_n dX2_swap_10 rfl rfl ?_
  refine zV_callV (As := [ziv y, ziv (jn : Int)]) lk2_49 (cup_0 hc) rfl rfl (c2_seatOf (d - 1) 0 hc hy hjn hs) ⟨by show _ + 1 ≤ d; omega, by show _ ≤ k; omega⟩ rfl (Nat.le_of_ble_eq_true rfl) dX2_swap_11 (fun _ _ z => z.elim) (fun r h' q => ?_)
  obtain ⟨rfl, hh⟩ := q
  rw [hh, ← hsy]
  refine zV_istore dX2_swap_14 (Nat.le_of_ble_eq_true rfl) rfl ?_
  refine zV_iload dX2_swap_16 rfl ?_
  refine zR_if_lt (tgt := 42) dX2_swap_18 (by decide) (by omega) (fun h18 => ?_) (fun h18 => ?_)
  · exact zV_vreturn dX2_swap_42 rfl (Nat.zero_le _) ⟨rfl, by
      rw [show swapP (h (c + 4)) x y jn = h (c + 4) from funext fun i => by unfold swapP; rw [if_neg (by omega)], zst_self]⟩
  · refine zV_iload dX2_swap_21 rfl ?_
    refine zR_if_lt (tgt := 42) dX2_swap_23 (by decide) (by omega) (fun h23 => ?_) (fun h23 => ?_)
    · exact zV_vreturn dX2_swap_42 rfl (Nat.zero_le _) ⟨rfl, by
        rw [show swapP (h (c + 4)) x y jn = h (c + 4) from funext fun i => by unfold swapP; rw [if_neg (by omega)], zst_self]⟩
    · refine zV_aload_nr dX2_swap_26 rfl rfl ?_
      refine gf2_21 rfl (cup_0 hc) dX2_swap_27 ?_
      refine zV_iload dX2_swap_30 rfl ?_
      refine zV_iload_n dX2_swap_32 rfl rfl ?_
      refine zV_iastore (N := 8) (cup_4 hc) (by omega) (by decide) dX2_swap_33 ?_
      refine zV_aload_nr dX2_swap_34 rfl rfl ?_
      refine gf2_21 rfl (cup_0 hc) dX2_swap_35 ?_
      refine zV_iload dX2_swap_38 rfl ?_
      refine zV_iload_n dX2_swap_40 rfl rfl ?_
      refine zV_iastore (N := 8) (cup_4 hc) (by omega) (by decide) dX2_swap_41 ?_
      exact zV_vreturn dX2_swap_42 rfl (Nat.zero_le _) ⟨rfl, by
          funext c2 i
          unfold zup zst swapP
          rw [← hsx, ← hsy]
          by_cases e : c2 = c + 4
          · subst e; simp only [true_and, if_true]; rw [if_pos (show 0 ≤ sx ∧ 0 ≤ sy by omega)]
          · simp [e]⟩
set_option maxRecDepth 100000 in
theorem c2_liesLike {E : zE} {h : zH} {c o n : Nat} (d k : Nat) (hc : isCup c) (ho : isCup o) (hn : n ≤ 8) (hp : ∀ l, l < n → 0 ≤ h (c + 1) l ∧ h (c + 1) l < 12) (hq : ∀ l, l < n → 0 ≤ h (o + 1) l ∧ h (o + 1) l < 12) : zCal E mX2_liesLike d k [zrv E c, zrv E o, ziv (n : Int)] h (fun r h' => r = some (ziv (if likeB (h (c + 1)) (h (o + 1)) n = true then 1 else 0)) ∧ h' = h) (fun _ _ => False) := by
  refine zCal_of (by decide) (Nat.le_of_ble_eq_true rfl) (fun a => ?_)
  show zV _ 0 0 [zrv E c, zrv E o, ziv (n : Int), .null] [] _
  refine zV_iconst dX2_liesLike_0 ?_
  refine zV_istore_n dX2_liesLike_1 rfl (Nat.le_of_ble_eq_true rfl) rfl ?_
  have L2 : ∀ (m : Nat) (s : Nat), (n + 1 ≤ s + m) → (s ≤ n) → (likeB (h (c + 1)) (h (o + 1)) s = true) → zV (E, mX2_liesLike, d, k, (fun r h' => r = some (ziv (if likeB (h (c + 1)) (h (o + 1)) n = true then 1 else 0)) ∧ h' = h), (fun _ _ => False), a) 0 2 [zrv E c, zrv E o, ziv (n : Int), ziv (s : Int)] [] h := by
    intro m
    induction m with
    | zero => intro s hm_ hsn hk; exfalso; omega
    | succ m ih =>
      intro s hm_ hsn hk
      refine zV_iload_n dX2_liesLike_2 rfl rfl ?_
      refine zV_iload_n dX2_liesLike_3 rfl rfl ?_
      refine zR_icmp_ge (tgt := 30) dX2_liesLike_4 (by decide) (by omega) (by omega) (fun h4 => ?_) (fun h4 => ?_)
      · refine zV_iconst dX2_liesLike_30 ?_
        exact zV_zreturn dX2_liesLike_31 rfl (Or.inr rfl) (Nat.zero_le _) ⟨by rw [show n = s by omega, if_pos hk], rfl⟩
      · refine zV_aload_nr dX2_liesLike_7 rfl rfl ?_
        refine gf2_9 rfl (cup_0 hc) dX2_liesLike_8 ?_
        refine zV_iload_n dX2_liesLike_11 rfl rfl ?_
        refine zV_ialoadN (i := s) (N := 8) (cup_1 hc) (by omega) (by decide) dX2_liesLike_12 ?_
        refine zV_aload_nr dX2_liesLike_13 rfl rfl ?_
        refine gf2_9 rfl (cup_0 ho) dX2_liesLike_14 ?_
        refine zV_iload_n dX2_liesLike_17 rfl rfl ?_
        refine zV_ialoadN (i := s) (N := 8) (cup_1 ho) (by omega) (by decide) dX2_liesLike_18 ?_
        have b1 := hp s (by omega)
        have b2 := hq s (by omega)
        refine zR_icmp_eq (tgt := 24) dX2_liesLike_19 (by decide) (by omega) (by omega) (fun h19 => ?_) (fun h19 => ?_)
        · refine zV_iinc dX2_liesLike_24 rfl (Nat.le_of_ble_eq_true rfl) rfl ?_
          refine zV_goto (tgt := 2) dX2_liesLike_27 (by decide) ?_
          exact ih (s + 1) (by omega) (by omega) (by rw [likeB_s, hk, decide_eq_true h19]; rfl)
        · refine zV_iconst dX2_liesLike_22 ?_
          exact zV_zreturn dX2_liesLike_23 rfl (Or.inl rfl) (Nat.zero_le _) ⟨by
            have h1 := likeB_f (p := h (c + 1)) (q := h (o + 1)) (m := s + 1) (by rw [likeB_s, decide_eq_false h19]; simp) (n - (s + 1))
            rw [show s + 1 + (n - (s + 1)) = n by omega] at h1
            rw [if_neg (by rw [h1]; decide)], rfl⟩
  exact L2 (n + 1) 0 (by omega) (by omega) rfl
set_option maxRecDepth 100000 in
theorem c2_placesWithLeaves {E : zE} {h : zH} {c n : Nat} (d k : Nat) (hc : isCup c) (hn : n ≤ 8) : zCal E mX2_placesWithLeaves d k [zrv E c, ziv (n : Int)] h (fun r h' => r = some (ziv (bitsP (h (c + 1)) n 0)) ∧ h' = h) (fun _ _ => False) := by
  refine zCal_of (by decide) (Nat.le_of_ble_eq_true rfl) (fun a => ?_)
  show zV _ 0 0 [zrv E c, ziv (n : Int), .null, .null] [] _
  refine zV_iconst dX2_placesWithLeaves_0 ?_
  refine zV_istore_n dX2_placesWithLeaves_1 rfl (Nat.le_of_ble_eq_true rfl) rfl ?_
  refine zV_iconst dX2_placesWithLeaves_2 ?_
  refine zV_istore_n dX2_placesWithLeaves_3 rfl (Nat.le_of_ble_eq_true rfl) rfl ?_
  have L4 : ∀ (m : Nat) (s : Nat), (n + 1 ≤ s + m) → (s ≤ n) → zV (E, mX2_placesWithLeaves, d, k, (fun r h' => r = some (ziv (bitsP (h (c + 1)) n 0)) ∧ h' = h), (fun _ _ => False), a) 0 4 [zrv E c, ziv (n : Int), ziv (bitsP (h (c + 1)) s 0), ziv (s : Int)] [] h := by
    intro m
    induction m with
    | zero => intro s hm_ hsn; exfalso; omega
    | succ m ih =>
      intro s hm_ hsn
      refine zV_iload_n dX2_placesWithLeaves_4 rfl rfl ?_
      refine zV_iload_n dX2_placesWithLeaves_5 rfl rfl ?_
      refine zR_icmp_ge (tgt := 26) dX2_placesWithLeaves_6 (by decide) (by omega) (by omega) (fun h6 => ?_) (fun h6 => ?_)
      · refine zV_iload_n dX2_placesWithLeaves_26 rfl rfl ?_
        exact zV_ireturn dX2_placesWithLeaves_27 rfl (Nat.zero_le _) ⟨by rw [show n = s by omega], rfl⟩
      · refine zV_iload_n dX2_placesWithLeaves_9 rfl rfl ?_
        refine zV_iconst dX2_placesWithLeaves_10 ?_
        refine zV_aload_nr dX2_placesWithLeaves_11 rfl rfl ?_
        refine gf2_9 rfl (cup_0 hc) dX2_placesWithLeaves_12 ?_
        refine zV_iload_n dX2_placesWithLeaves_15 rfl rfl ?_
        refine zV_ialoadN (i := s) (N := 8) (cup_1 hc) (by omega) (by decide) dX2_placesWithLeaves_16 ?_
        refine zV_ishl dX2_placesWithLeaves_17 ?_
        refine zV_ior dX2_placesWithLeaves_18 ?_
        refine zV_istore_n dX2_placesWithLeaves_19 rfl (Nat.le_of_ble_eq_true rfl) rfl ?_
        refine zV_iinc dX2_placesWithLeaves_20 rfl (Nat.le_of_ble_eq_true rfl) rfl ?_
        refine zV_goto (tgt := 4) dX2_placesWithLeaves_23 (by decide) ?_
        exact ih (s + 1) (by omega) (by omega)
  exact L4 (n + 1) 0 (by omega) (by omega)
set_option maxRecDepth 100000 in
theorem c2_copyFrom {E : zE} {h : zH} {c o : Nat} (d k : Nat) (hd : 1 ≤ d) (hc : isCup c) (ho : isCup o) (hne : c ≠ o) : zCal E mX2_copyFrom d k [zrv E c, zrv E o] h (fun r h' => r = none ∧ copied h o c h') (fun _ _ => False) := by
  refine zCal_of (by decide) (Nat.le_of_ble_eq_true rfl) (fun a => ?_)
  show zV _ 0 0 [zrv E c, zrv E o] [] _
  have hc9 : c = 32 ∨ c = 43 ∨ c = 53 := hc
  have ho9 : o = 32 ∨ o = 43 ∨ o = 53 := ho
  refine zV_aload_nr dX2_copyFrom_0 rfl rfl ?_
  refine gf2_9 rfl (cup_0 ho) dX2_copyFrom_1 ?_
  refine zV_iconst dX2_copyFrom_4 ?_
  refine zV_aload_nr dX2_copyFrom_5 rfl rfl ?_
  refine gf2_9 rfl (cup_0 hc) dX2_copyFrom_6 ?_
  refine zV_iconst dX2_copyFrom_9 ?_
  refine zV_bipush dX2_copyFrom_10 (by decide) ?_
  refine zV_copy (k0 := o + 1) (k1 := c + 1) (N0 := 8) (N1 := 8) (show Cond.methodLink RX2 43 arraycopyName ∈ zTs from lk2_43) (cup_1 ho) (cup_1 hc) (by decide) (by decide) (show 1 ≤ d from hd) rfl dX2_copyFrom_12 ?_
  refine zV_aload_nr dX2_copyFrom_15 rfl rfl ?_
  refine gf2_15 rfl (cup_0 ho) dX2_copyFrom_16 ?_
  refine zV_iconst dX2_copyFrom_19 ?_
  refine zV_aload_nr dX2_copyFrom_20 rfl rfl ?_
  refine gf2_15 rfl (cup_0 hc) dX2_copyFrom_21 ?_
  refine zV_iconst dX2_copyFrom_24 ?_
  refine zV_bipush dX2_copyFrom_25 (by decide) ?_
  refine zV_copy (k0 := o + 2) (k1 := c + 2) (N0 := 8) (N1 := 8) (show Cond.methodLink RX2 43 arraycopyName ∈ zTs from lk2_43) (cup_2 ho) (cup_2 hc) (by decide) (by decide) (show 1 ≤ d from hd) rfl dX2_copyFrom_27 ?_
  refine zV_aload_nr dX2_copyFrom_30 rfl rfl ?_
  refine gf2_18 rfl (cup_0 ho) dX2_copyFrom_31 ?_
  refine zV_iconst dX2_copyFrom_34 ?_
  refine zV_aload_nr dX2_copyFrom_35 rfl rfl ?_
  refine gf2_18 rfl (cup_0 hc) dX2_copyFrom_36 ?_
  refine zV_iconst dX2_copyFrom_39 ?_
  refine zV_bipush dX2_copyFrom_40 (by decide) ?_
  refine zV_copy (k0 := o + 3) (k1 := c + 3) (N0 := 8) (N1 := 8) (show Cond.methodLink RX2 43 arraycopyName ∈ zTs from lk2_43) (cup_3 ho) (cup_3 hc) (by decide) (by decide) (show 1 ≤ d from hd) rfl dX2_copyFrom_42 ?_
  refine zV_aload_nr dX2_copyFrom_45 rfl rfl ?_
  refine gf2_21 rfl (cup_0 ho) dX2_copyFrom_46 ?_
  refine zV_iconst dX2_copyFrom_49 ?_
  refine zV_aload_nr dX2_copyFrom_50 rfl rfl ?_
  refine gf2_21 rfl (cup_0 hc) dX2_copyFrom_51 ?_
  refine zV_iconst dX2_copyFrom_54 ?_
  refine zV_bipush dX2_copyFrom_55 (by decide) ?_
  refine zV_copy (k0 := o + 4) (k1 := c + 4) (N0 := 8) (N1 := 8) (show Cond.methodLink RX2 43 arraycopyName ∈ zTs from lk2_43) (cup_4 ho) (cup_4 hc) (by decide) (by decide) (show 1 ≤ d from hd) rfl dX2_copyFrom_57 ?_
  obtain ⟨h4, hh4⟩ : ∃ z, z = zcp (zcp (zcp (zcp h (o + 1) (0 : Int).toNat (c + 1) (0 : Int).toNat (8 : Int).toNat) (o + 2) (0 : Int).toNat (c + 2) (0 : Int).toNat (8 : Int).toNat) (o + 3) (0 : Int).toNat (c + 3) (0 : Int).toNat (8 : Int).toNat) (o + 4) (0 : Int).toNat (c + 4) (0 : Int).toNat (8 : Int).toNat := ⟨_, rfl⟩
  rw [← hh4]
  have g : ∀ c2 : Nat, c2 ≠ c + 1 → c2 ≠ c + 2 → c2 ≠ c + 3 → c2 ≠ c + 4 → h4 c2 = h c2 := fun c2 a1 a2 a3 a4 => by rw [hh4, zcp_fn a4, zcp_fn a3, zcp_fn a2, zcp_fn a1]
  have g1 : agn 8 (h4 (c + 1)) (h (o + 1)) := by rw [hh4, zcp_fn (by omega), zcp_fn (by omega), zcp_fn (by omega)]; exact zcp_at
  have g2 : agn 8 (h4 (c + 2)) (h (o + 2)) := by rw [hh4, zcp_fn (by omega), zcp_fn (by omega)]; refine agn_trans zcp_at ?_; rw [zcp_fn (by omega)]; exact agn_rfl _ _
  have g3 : agn 8 (h4 (c + 3)) (h (o + 3)) := by rw [hh4, zcp_fn (by omega)]; refine agn_trans zcp_at ?_; rw [zcp_fn (by omega), zcp_fn (by omega)]; exact agn_rfl _ _
  have g4 : agn 8 (h4 (c + 4)) (h (o + 4)) := by rw [hh4]; refine agn_trans zcp_at ?_; rw [zcp_fn (by omega), zcp_fn (by omega), zcp_fn (by omega)]; exact agn_rfl _ _
  have gc : h4 c = h c := g c (by omega) (by omega) (by omega) (by omega)
  have go : h4 o = h o := g o (by omega) (by omega) (by omega) (by omega)
  refine zV_aload_nr dX2_copyFrom_60 rfl rfl ?_
  refine zV_aload_nr dX2_copyFrom_61 rfl rfl ?_
  refine gf2_27 rfl (cup_0 ho) dX2_copyFrom_62 ?_
  refine pf2_27 rfl (cup_0 hc) dX2_copyFrom_65 ?_
  refine zV_aload_nr dX2_copyFrom_68 rfl rfl ?_
  refine zV_aload_nr dX2_copyFrom_69 rfl rfl ?_
  refine gf2_40 rfl (cup_0 ho) dX2_copyFrom_70 ?_
  refine pf2_40 rfl (cup_0 hc) dX2_copyFrom_73 ?_
  refine zV_aload_nr dX2_copyFrom_76 rfl rfl ?_
  refine zV_aload_nr dX2_copyFrom_77 rfl rfl ?_
  refine gf2_31 rfl (cup_0 ho) dX2_copyFrom_78 ?_
  refine pf2_31 rfl (cup_0 hc) dX2_copyFrom_81 ?_
  exact zV_vreturn dX2_copyFrom_84 rfl (Nat.zero_le _) ⟨rfl, fun c2 a0 a1 a2 a3 a4 => by rw [zup_fn a0, zup_fn a0, zup_fn a0]; exact g c2 a1 a2 a3 a4, by rw [zup_fn (by omega), zup_fn (by omega), zup_fn (by omega)]; exact g1, by rw [zup_fn (by omega), zup_fn (by omega), zup_fn (by omega)]; exact g2, by rw [zup_fn (by omega), zup_fn (by omega), zup_fn (by omega)]; exact g3, by rw [zup_fn (by omega), zup_fn (by omega), zup_fn (by omega)]; exact g4, by simp [zup_at, zup_fn (show o ≠ c by omega), go], by simp [zup_at, zup_fn (show o ≠ c by omega), go], by simp [zup_at, zup_fn (show o ≠ c by omega), go], by simp [zup_at, gc]⟩
