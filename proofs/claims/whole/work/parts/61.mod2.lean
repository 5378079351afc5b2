/-! THE REFERENCE: what the leaves show, a rule's value -/
def ptN (f : Nat → Int) (w : Int) : Nat → Nat
  | 0 => 0
  | m + 1 => if f m = w then ptN f w m + 2 ^ m else ptN f w m
theorem ptN_s (f : Nat → Int) (w : Int) (m : Nat) : ptN f w (m + 1) = if f m = w then ptN f w m + 2 ^ m else ptN f w m := rfl
theorem ptN_lo (f : Nat → Int) (w : Int) : ∀ m, ptN f w m < 2 ^ m := by
  intro m
  induction m with
  | zero => exact Nat.one_pos
  | succ m ih => rw [ptN_s, Nat.pow_succ]; split <;> omega
theorem ptN_256 (f : Nat → Int) (w : Int) {m : Nat} (hm : m ≤ 8) : ptN f w m < 256 := Nat.lt_of_lt_of_le (ptN_lo f w m) (Nat.pow_le_pow_right (by decide) hm)
theorem or_pw : ∀ m : Nat, m < 8 → ∀ x : Nat, x < 2 ^ m → zor (x : Int) (zshl 1 (m : Int)) = ((x + 2 ^ m : Nat) : Int) ∧ bitC ((x + 2 ^ m : Nat) : Int) = bitC (x : Int) + 1 := by decide +kernel
theorem or_0 : ∀ x : Nat, x < 256 → zor (x : Int) 0 = (x : Int) := by decide +kernel
theorem ptS_N (f : Nat → Int) (w : Int) : ∀ m, m ≤ 8 → ptS f w m = (ptN f w m : Int) := by
  intro m
  induction m with
  | zero => intro _; rfl
  | succ m ih =>
    intro hm
    show (if f m = w then zor (ptS f w m) (zshl 1 m) else ptS f w m) = _
    rw [ih (by omega), ptN_s]
    split
    · exact (or_pw m (by omega) _ (ptN_lo f w m)).1
    · rfl
theorem bit_pt (f : Nat → Int) (w : Int) : ∀ m, m ≤ 8 → bitC (ptN f w m : Int) = cntS f w m := by
  intro m
  induction m with
  | zero => intro _; show bitC ((0 : Nat) : Int) = 0; decide +kernel
  | succ m ih =>
    intro hm
    rw [ptN_s, cntS_s]
    split
    · rw [(or_pw m (by omega) _ (ptN_lo f w m)).2, ih (by omega)]
    · exact ih (by omega)
theorem mw_cnt (p : Nat → Int) (n : Nat) : ∀ m, (mwS p n (m + 1)).1 = cntS p (mwS p n (m + 1)).2 n ∧ 0 ≤ (mwS p n (m + 1)).2 ∧ (mwS p n (m + 1)).2 < m + 1 := by
  intro m
  induction m with
  | zero =>
    have := (cntS_lo p 0 n).1
    rw [mwS_s]
    show (if (0 : Int) < cntS p ((0 : Nat) : Int) n then (cntS p ((0 : Nat) : Int) n, ((0 : Nat) : Int)) else ((0 : Int), (0 : Int))).1 = cntS p (if (0 : Int) < cntS p ((0 : Nat) : Int) n then (cntS p ((0 : Nat) : Int) n, ((0 : Nat) : Int)) else ((0 : Int), (0 : Int))).2 n ∧ 0 ≤ (if (0 : Int) < cntS p ((0 : Nat) : Int) n then (cntS p ((0 : Nat) : Int) n, ((0 : Nat) : Int)) else ((0 : Int), (0 : Int))).2 ∧ (if (0 : Int) < cntS p ((0 : Nat) : Int) n then (cntS p ((0 : Nat) : Int) n, ((0 : Nat) : Int)) else ((0 : Int), (0 : Int))).2 < _
    split
    · exact ⟨rfl, by show (0 : Int) ≤ ((0 : Nat) : Int); decide, by show ((0 : Nat) : Int) < ((0 : Nat) : Int) + 1; decide⟩
    · rename_i h
      have e : ((0 : Nat) : Int) = 0 := rfl
      rw [e] at h
      exact ⟨by show (0 : Int) = cntS p 0 n; omega, by decide, by decide⟩
  | succ m ih =>
    rw [mwS_s]
    split
    · exact ⟨rfl, by show (0 : Int) ≤ ((m + 1 : Nat) : Int); omega, by show ((m + 1 : Nat) : Int) < _; omega⟩
    · exact ⟨ih.1, ih.2.1, by omega⟩
theorem most_cnt (p : Nat → Int) (n : Nat) : mostS p n = cntS p (whereS p n) n := (mw_cnt p n 11).1
/-- the reference's signs, and back -/
def enc (x : Int) : Int := if 0 ≤ x then x else if x < -9 then x + 9 else if x = -1 then -27 else if x = -2 then -26 else if x = -3 then -28 else if x = -4 then -24 else if x = -5 then -25 else if x = -6 then -20 else if x = -7 then -21 else if x = -8 then -22 else -23
def dec (y : Int) : Int := if 0 ≤ y then y else if -20 < y then y - 9 else if y = -27 then -1 else if y = -26 then -2 else if y = -28 then -3 else if y = -24 then -4 else if y = -25 then -5 else if y = -20 then -6 else if y = -21 then -7 else if y = -22 then -8 else -9
theorem enc_c (x : Int) : (0 ≤ x ∧ enc x = x) ∨ (x < -9 ∧ enc x = x + 9) ∨ (x = -1 ∧ enc x = -27) ∨ (x = -2 ∧ enc x = -26) ∨ (x = -3 ∧ enc x = -28) ∨ (x = -4 ∧ enc x = -24) ∨ (x = -5 ∧ enc x = -25) ∨ (x = -6 ∧ enc x = -20) ∨ (x = -7 ∧ enc x = -21) ∨ (x = -8 ∧ enc x = -22) ∨ (x = -9 ∧ enc x = -23) := by
  by_cases h0 : 0 ≤ x
  · exact Or.inl ⟨h0, by unfold enc; rw [if_pos h0]⟩
  · by_cases h1 : x < -9
    · exact Or.inr (Or.inl ⟨h1, by unfold enc; rw [if_neg h0, if_pos h1]⟩)
    · rcases (show x = -1 ∨ x = -2 ∨ x = -3 ∨ x = -4 ∨ x = -5 ∨ x = -6 ∨ x = -7 ∨ x = -8 ∨ x = -9 by omega) with rfl | rfl | rfl | rfl | rfl | rfl | rfl | rfl | rfl <;> decide
theorem dec_enc {x : Int} (hx : -16 ≤ x) : dec (enc x) = x := by
  rcases enc_c x with ⟨h, e⟩ | ⟨h, e⟩ | ⟨h, e⟩ | ⟨h, e⟩ | ⟨h, e⟩ | ⟨h, e⟩ | ⟨h, e⟩ | ⟨h, e⟩ | ⟨h, e⟩ | ⟨h, e⟩ | ⟨h, e⟩
  · rw [e]; unfold dec; rw [if_pos h]
  · rw [e]; unfold dec; rw [if_neg (by omega), if_pos (by omega)]; omega
  all_goals rw [e, h]; decide
def askE (f : Nat → Int) (v : Int) : Int := f (-10 - v).toNat
/-- a rule of the reference: nothing, or its steps -/
def mRu (h : zH) (ru : Nat) : Prop := h 68 (3 + ru) = 0 ∨ ∃ (l : List Int) (b : Bool), l ≠ [] ∧ l.length ≤ 700 ∧ h 68 (3 + ru) = (l.length : Int) ∧ (∀ k, k + 31 ≤ 64 → hgL l k = some (k + 1)) ∧ (∀ x ∈ l, tkB (decide (ru = 0)) b x) ∧ ∀ i, i < l.length → h (75 + ru) i = enc (l.getD i 0)
def mCt (h : zH) (n jn : Nat) : Prop := (n ≤ 8 ∧ jn ≤ 8 ∧ h 68 0 = (n : Int) ∧ h 68 1 = (jn : Int)) ∧ (∀ l, l < n → 1 ≤ h 70 l ∧ h 70 l ≤ 9) ∧ (∀ j, j < jn → h 71 j = 0 ∨ h 71 j = 1) ∧ (∀ j, j < jn → 0 ≤ h 74 j ∧ h 74 j ≤ 4) ∧ mRu h 0 ∧ mRu h 1
def mDy (h : zH) (n jn : Nat) : Prop := (∀ l, l < n → 0 ≤ h 80 l ∧ h 80 l < 12) ∧ (∀ j, j < jn → 0 ≤ h 78 j ∧ h 78 j ≤ 30) ∧ (∀ j, j < jn → 0 ≤ h 82 j ∧ h 82 j ≤ 12) ∧ (∀ s, s < jn → 0 ≤ h 81 s ∧ h 81 s < jn) ∧ (0 ≤ h 64 33 ∧ h 64 33 ≤ 99) ∧ (0 ≤ h 64 32 ∧ h 64 32 ≤ 100000)
/-- a rule's value, by the reference's signs -/
def ruM (h : zH) (ru : Nat) (env : Int → Int) : Int := (evN env (fun i => dec (h (75 + ru) i)) 0 (h 68 (3 + ru)).toNat).headD 0
theorem evN_sh {env : Int → Int} {tk t2 : Nat → Int} {f1 f2 : Nat} : ∀ m, (∀ i, i < m → tk (f1 + i) = t2 (f2 + i)) → evN env tk f1 m = evN env t2 f2 m := by
  intro m
  induction m with
  | zero => intro _; rfl
  | succ m ih =>
    intro hh
    show evT env (tk (f1 + m)) (evN env tk f1 m) = evT env (t2 (f2 + m)) (evN env t2 f2 m)
    rw [ih (fun i hi => hh i (by omega)), hh m (by omega)]

set_option maxRecDepth 100000 in
theorem c6_heapAt {E : zE} {h : zH} {x : Int} {n : Nat} (d k : Nat) (hx : -2147483648 ≤ x ∧ x ≤ 2147483647) (h0 : h 68 0 = (n : Int)) (hn : n ≤ 8) (hl : ∀ l, l < n → 0 ≤ h 80 l ∧ h 80 l < 12) : zCal E mX6_heapAt d k [zrv E 64, ziv x] h (fun r h' => r = some (ziv (ptN (h 80) x n : Int)) ∧ h' = h) (fun _ _ => False) := by
  refine zCal_of (by decide) (Nat.le_of_ble_eq_true rfl) (fun a => ?_)
  show zV _ 0 0 [zrv E 64, ziv x, .null, .null] [] _
  refine zV_iconst dX6_heapAt_0 ?_
  refine zV_istore_n dX6_heapAt_1 rfl (Nat.le_of_ble_eq_true rfl) rfl ?_
  refine zV_iconst dX6_heapAt_2 ?_
  refine zV_istore_n dX6_heapAt_3 rfl (Nat.le_of_ble_eq_true rfl) rfl ?_
  have L4 : ∀ (m : Nat) (s : Nat), (n + 1 ≤ s + m) → (s ≤ n) → zV (E, mX6_heapAt, d, k, (fun r h' => r = some (ziv (ptN (h 80) x n : Int)) ∧ h' = h), (fun _ _ => False), a) 0 4 [zrv E 64, ziv x, ziv (ptN (h 80) x s : Int), ziv (s : Int)] [] h := by
    intro m
    induction m with
    | zero => intro s hm_ hs; exfalso; omega
    | succ m ih =>
      intro s hm_ hs
      refine zV_iload_n dX6_heapAt_4 rfl rfl ?_
      refine zV_aload_nr dX6_heapAt_5 rfl rfl ?_
      refine gf6_42 rfl (rfl) dX6_heapAt_6 ?_
      refine zV_teq (w := zrv E 68) rfl ?_
      refine zV_iconst dX6_heapAt_9 ?_
      refine zV_ialoadN (i := 0) (N := 10) (rfl) (by decide) (by decide) dX6_heapAt_10 ?_
      rw [h0]
      refine zR_icmp_ge (tgt := 40) dX6_heapAt_11 (by decide) (by omega) (by omega) (fun h11 => ?_) (fun h11 => ?_)
      · refine zV_iload_n dX6_heapAt_40 rfl rfl ?_
        exact zV_ireturn dX6_heapAt_41 rfl (Nat.zero_le _) ⟨by rw [show n = s by omega], rfl⟩
      · refine zV_iload_n dX6_heapAt_14 rfl rfl ?_
        refine zV_aload_nr dX6_heapAt_15 rfl rfl ?_
        refine gf6_82 rfl (rfl) dX6_heapAt_16 ?_
        refine zV_teq (w := zrv E 80) rfl ?_
        refine zV_iload_n dX6_heapAt_19 rfl rfl ?_
        refine zV_ialoadN (i := s) (N := 8) (rfl) (by omega) (by decide) dX6_heapAt_20 ?_
        refine zV_iload_n dX6_heapAt_21 rfl rfl ?_
        have hls := hl s (by omega)
        have pl := ptN_lo (h 80) x s
        have p8 := ptN_256 (h 80) x (m := s) (by omega)
        refine zR_icmp_ne (tgt := 31) dX6_heapAt_22 (by decide) (by omega) (by omega) (fun h22 => ?_) (fun h22 => ?_)
        · refine zV_iconst dX6_heapAt_31 ?_
          refine zV_ior dX6_heapAt_32 ?_
          refine zV_istore_n dX6_heapAt_33 rfl (Nat.le_of_ble_eq_true rfl) rfl ?_
          refine zV_iinc dX6_heapAt_34 rfl (Nat.le_of_ble_eq_true rfl) rfl ?_
          refine zV_goto (tgt := 4) dX6_heapAt_37 (by decide) ?_
          rw [or_0 _ p8]
          refine zV_lveq (lv' := [zrv E 64, ziv x, ziv (ptN (h 80) x (s + 1) : Int), ziv ((s : Int) + 1)]) (by rw [ptN_s, if_neg h22]; rfl) ?_
          exact ih (s + 1) (by omega) (by omega)
        · refine zV_iconst dX6_heapAt_25 ?_
          refine zV_iload_n dX6_heapAt_26 rfl rfl ?_
          refine zV_ishl dX6_heapAt_27 ?_
          refine zV_goto (tgt := 32) dX6_heapAt_28 (by decide) ?_
          refine zV_ior dX6_heapAt_32 ?_
          refine zV_istore_n dX6_heapAt_33 rfl (Nat.le_of_ble_eq_true rfl) rfl ?_
          refine zV_iinc dX6_heapAt_34 rfl (Nat.le_of_ble_eq_true rfl) rfl ?_
          refine zV_goto (tgt := 4) dX6_heapAt_37 (by decide) ?_
          rw [(or_pw s (by omega) _ pl).1]
          refine zV_lveq (lv' := [zrv E 64, ziv x, ziv (ptN (h 80) x (s + 1) : Int), ziv ((s : Int) + 1)]) (by rw [ptN_s, if_pos h22]; rfl) ?_
          exact ih (s + 1) (by omega) (by omega)
  exact L4 (n + 1) 0 (by omega) (by omega)
set_option maxRecDepth 100000 in
theorem c6_fullest {E : zE} {h : zH} {n : Nat} (d k : Nat) (hd : 2 ≤ d) (h0 : h 68 0 = (n : Int)) (hn : n ≤ 8) (hl : ∀ l, l < n → 0 ≤ h 80 l ∧ h 80 l < 12) : zCal E mX6_fullest d k [zrv E 64] h (fun r h' => r = some (ziv (whereS (h 80) n)) ∧ h' = h) (fun _ _ => False) := by
  refine zCal_of (by decide) (Nat.le_of_ble_eq_true rfl) (fun a => ?_)
  show zV _ 0 0 [zrv E 64, .null, .null] [] _
  refine zV_iconst dX6_fullest_0 ?_
  refine zV_istore_n dX6_fullest_1 rfl (Nat.le_of_ble_eq_true rfl) rfl ?_
  refine zV_iconst dX6_fullest_2 ?_
  refine zV_istore_n dX6_fullest_3 rfl (Nat.le_of_ble_eq_true rfl) rfl ?_
  have L4 : ∀ (m : Nat) (s b : Nat), (13 ≤ s + m) → (1 ≤ s ∧ s ≤ 12) → (b < 12) → (mwS (h 80) n s = (cntS (h 80) b n, (b : Int))) → zV (E, mX6_fullest, d, k, (fun r h' => r = some (ziv (whereS (h 80) n)) ∧ h' = h), (fun _ _ => False), a) 0 4 [zrv E 64, ziv (b : Int), ziv (s : Int)] [] h := by
    intro m
    induction m with
    | zero => intro s b hm_ hs hb hm; exfalso; omega
    | succ m ih =>
      intro s b hm_ hs hb hm
      refine zV_iload_n dX6_fullest_4 rfl rfl ?_
      refine zV_bipush dX6_fullest_5 (by decide) ?_
      refine zR_icmp_ge (tgt := 37) dX6_fullest_7 (by decide) (by omega) (by omega) (fun h7 => ?_) (fun h7 => ?_)
      · refine zV_iload_n dX6_fullest_37 rfl rfl ?_
        exact zV_ireturn dX6_fullest_38 rfl (Nat.zero_le _) ⟨by unfold whereS; rw [show 12 = s by omega, hm], rfl⟩
      · refine zV_aload_nr dX6_fullest_10 rfl rfl ?_
        refine zV_iload_n dX6_fullest_11 rfl rfl ?_
        refine zV_callV (As := [ziv (s : Int)]) lk6_329 (rfl) rfl rfl (c6_heapAt (d - 1) 0 (by omega) h0 hn hl) ⟨by show _ + 1 ≤ d; omega, by show _ ≤ k; omega⟩ rfl (Nat.le_of_ble_eq_true rfl) dX6_fullest_12 (fun _ _ z => z.elim) (fun r h9 q => ?_)
        obtain ⟨rfl, hh⟩ := q
        rw [hh]
        clear hh
        refine zV_callS (As := [ziv (ptN (h 80) (s : Int) n : Int)]) lk6_332 (c6_bitsOf (d - 1) 0 (ptN_256 _ _ hn)) ⟨by show _ + 1 ≤ d; omega, by show _ ≤ k; omega⟩ rfl (Nat.le_of_ble_eq_true rfl) dX6_fullest_15 (fun _ _ z => z.elim) (fun r h9 q => ?_)
        obtain ⟨rfl, hh⟩ := q
        rw [hh]
        clear hh
        refine zV_aload_nr dX6_fullest_18 rfl rfl ?_
        refine zV_iload_n dX6_fullest_19 rfl rfl ?_
        refine zV_callV (As := [ziv (b : Int)]) lk6_329 (rfl) rfl rfl (c6_heapAt (d - 1) 0 (by omega) h0 hn hl) ⟨by show _ + 1 ≤ d; omega, by show _ ≤ k; omega⟩ rfl (Nat.le_of_ble_eq_true rfl) dX6_fullest_20 (fun _ _ z => z.elim) (fun r h9 q => ?_)
        obtain ⟨rfl, hh⟩ := q
        rw [hh]
        clear hh
        refine zV_callS (As := [ziv (ptN (h 80) (b : Int) n : Int)]) lk6_332 (c6_bitsOf (d - 1) 0 (ptN_256 _ _ hn)) ⟨by show _ + 1 ≤ d; omega, by show _ ≤ k; omega⟩ rfl (Nat.le_of_ble_eq_true rfl) dX6_fullest_23 (fun _ _ z => z.elim) (fun r h9 q => ?_)
        obtain ⟨rfl, hh⟩ := q
        rw [hh]
        clear hh
        have b1 := cntS_lo (h 80) (s : Int) n
        have b2 := cntS_lo (h 80) (b : Int) n
        rw [bit_pt _ _ n hn, bit_pt _ _ n hn]
        refine zR_icmp_le (tgt := 31) dX6_fullest_26 (by decide) (by omega) (by omega) (fun h26 => ?_) (fun h26 => ?_)
        · refine zV_iinc dX6_fullest_31 rfl (Nat.le_of_ble_eq_true rfl) rfl ?_
          refine zV_goto (tgt := 4) dX6_fullest_34 (by decide) ?_
          exact ih (s + 1) b (by omega) (by omega) hb (by rw [mwS_s, hm, if_neg (by show ¬ cntS (h 80) b n < cntS (h 80) s n; omega)])
        · refine zV_iload_n dX6_fullest_29 rfl rfl ?_
          refine zV_istore_n dX6_fullest_30 rfl (Nat.le_of_ble_eq_true rfl) rfl ?_
          refine zV_iinc dX6_fullest_31 rfl (Nat.le_of_ble_eq_true rfl) rfl ?_
          refine zV_goto (tgt := 4) dX6_fullest_34 (by decide) ?_
          exact ih (s + 1) s (by omega) (by omega) (by omega) (by rw [mwS_s, hm, if_pos (by show cntS (h 80) b n < cntS (h 80) s n; omega)])
  exact L4 13 1 0 (by omega) (by omega) (by omega) (by
    have h1 := mw_cnt (h 80) n 0
    have e2 : (mwS (h 80) n 1).2 = ((0 : Nat) : Int) := by have h2 : 0 ≤ (mwS (h 80) n 1).2 ∧ (mwS (h 80) n 1).2 < ((0 : Nat) : Int) + 1 := h1.2; omega
    exact Prod.ext ((show (mwS (h 80) n 1).1 = cntS (h 80) (mwS (h 80) n 1).2 n from h1.1).trans (by rw [e2])) e2)
set_option maxRecDepth 100000 in
theorem c6_mostNow {E : zE} {h : zH} {n : Nat} (d k : Nat) (hd : 3 ≤ d) (h0 : h 68 0 = (n : Int)) (hn : n ≤ 8) (hl : ∀ l, l < n → 0 ≤ h 80 l ∧ h 80 l < 12) : zCal E mX6_mostNow d k [zrv E 64] h (fun r h' => r = some (ziv (mostS (h 80) n)) ∧ h' = h) (fun _ _ => False) := by
  refine zCal_of (by decide) (Nat.le_of_ble_eq_true rfl) (fun a => ?_)
  show zV _ 0 0 [zrv E 64] [] _
  refine zV_aload_nr dX6_mostNow_0 rfl rfl ?_
  refine zV_aload_nr dX6_mostNow_1 rfl rfl ?_
  refine zV_callV (As := []) lk6_335 (rfl) rfl rfl (c6_fullest (d - 1) 0 (by omega) h0 hn hl) ⟨by show _ + 1 ≤ d; omega, by show _ ≤ k; omega⟩ rfl (Nat.le_of_ble_eq_true rfl) dX6_mostNow_2 (fun _ _ z => z.elim) (fun r h9 q => ?_)
  obtain ⟨rfl, hh⟩ := q
  rw [hh]
  clear hh
  refine zV_callV (As := [ziv (whereS (h 80) n)]) lk6_329 (rfl) rfl rfl (c6_heapAt (d - 1) 0 (by have := (surv_r (h 80) hn).2.1; omega) h0 hn hl) ⟨by show _ + 1 ≤ d; omega, by show _ ≤ k; omega⟩ rfl (Nat.le_of_ble_eq_true rfl) dX6_mostNow_5 (fun _ _ z => z.elim) (fun r h9 q => ?_)
  obtain ⟨rfl, hh⟩ := q
  rw [hh]
  clear hh
  refine zV_callS (As := [ziv (ptN (h 80) (whereS (h 80) n) n : Int)]) lk6_332 (c6_bitsOf (d - 1) 0 (ptN_256 _ _ hn)) ⟨by show _ + 1 ≤ d; omega, by show _ ≤ k; omega⟩ rfl (Nat.le_of_ble_eq_true rfl) dX6_mostNow_8 (fun _ _ z => z.elim) (fun r h9 q => ?_)
  obtain ⟨rfl, hh⟩ := q
  rw [hh]
  clear hh
  exact zV_ireturn dX6_mostNow_11 rfl (Nat.zero_le _) ⟨by rw [bit_pt _ _ n hn, most_cnt], rfl⟩
set_option maxRecDepth 100000 in
theorem c6_oddNow {E : zE} {h : zH} {n : Nat} (d k : Nat) (h0 : h 68 0 = (n : Int)) (hn : n ≤ 8) (hl : ∀ l, l < n → 0 ≤ h 80 l ∧ h 80 l < 12) : zCal E mX6_oddNow d k [zrv E 64] h (fun r h' => r = some (ziv (oddS (h 80) n)) ∧ h' = h) (fun _ _ => False) := by
  refine zCal_of (by decide) (Nat.le_of_ble_eq_true rfl) (fun a => ?_)
  show zV _ 0 0 [zrv E 64, .null, .null] [] _
  refine zV_iconst dX6_oddNow_0 ?_
  refine zV_istore_n dX6_oddNow_1 rfl (Nat.le_of_ble_eq_true rfl) rfl ?_
  refine zV_iconst dX6_oddNow_2 ?_
  refine zV_istore_n dX6_oddNow_3 rfl (Nat.le_of_ble_eq_true rfl) rfl ?_
  have L4 : ∀ (m : Nat) (s : Nat), (n + 1 ≤ s + m) → (s ≤ n) → zV (E, mX6_oddNow, d, k, (fun r h' => r = some (ziv (oddS (h 80) n)) ∧ h' = h), (fun _ _ => False), a) 0 4 [zrv E 64, ziv (oddS (h 80) s), ziv (s : Int)] [] h := by
    intro m
    induction m with
    | zero => intro s hm_ hs; exfalso; omega
    | succ m ih =>
      intro s hm_ hs
      refine zV_iload_n dX6_oddNow_4 rfl rfl ?_
      refine zV_aload_nr dX6_oddNow_5 rfl rfl ?_
      refine gf6_42 rfl (rfl) dX6_oddNow_6 ?_
      refine zV_teq (w := zrv E 68) rfl ?_
      refine zV_iconst dX6_oddNow_9 ?_
      refine zV_ialoadN (i := 0) (N := 10) (rfl) (by decide) (by decide) dX6_oddNow_10 ?_
      rw [h0]
      refine zR_icmp_ge (tgt := 31) dX6_oddNow_11 (by decide) (by omega) (by omega) (fun h11 => ?_) (fun h11 => ?_)
      · refine zV_iload_n dX6_oddNow_31 rfl rfl ?_
        exact zV_ireturn dX6_oddNow_32 rfl (Nat.zero_le _) ⟨by rw [show n = s by omega], rfl⟩
      · refine zV_iload_n dX6_oddNow_14 rfl rfl ?_
        refine zV_aload_nr dX6_oddNow_15 rfl rfl ?_
        refine gf6_82 rfl (rfl) dX6_oddNow_16 ?_
        refine zV_teq (w := zrv E 80) rfl ?_
        refine zV_iload_n dX6_oddNow_19 rfl rfl ?_
        refine zV_ialoadN (i := s) (N := 8) (rfl) (by omega) (by decide) dX6_oddNow_20 ?_
        have hls := hl s (by omega)
        refine zV_iconst dX6_oddNow_21 ?_
        refine zV_irem dX6_oddNow_22 (by decide) ?_
        refine zV_iadd dX6_oddNow_23 ?_
        refine zV_istore_n dX6_oddNow_24 rfl (Nat.le_of_ble_eq_true rfl) rfl ?_
        refine zV_iinc dX6_oddNow_25 rfl (Nat.le_of_ble_eq_true rfl) rfl ?_
        refine zV_goto (tgt := 4) dX6_oddNow_28 (by decide) ?_
        rw [zrem_eq (by omega) (by decide), Int.tmod_eq_emod_of_nonneg (by omega), ← oddS_s]
        exact ih (s + 1) (by omega) (by omega)
  exact L4 (n + 1) 0 (by omega) (by omega)
set_option maxRecDepth 100000 in
theorem c6_ask {E : zE} {h : zH} {n : Nat} (d k : Nat) (hd : 4 ≤ d) (h0 : h 68 0 = (n : Int)) (hn : n ≤ 8) (hl : ∀ l, l < n → 0 ≤ h 80 l ∧ h 80 l < 12) : zCal E mX6_ask d k [zrv E 64] h (fun r h' => r = none ∧ (∀ c2 : Nat, c2 ≠ 84 → h' c2 = h c2) ∧ (h' 84 0 = h 64 37 ∧ h' 84 1 = mostS (h 80) n ∧ h' 84 2 = whereS (h 80) n ∧ h' 84 3 = oddS (h 80) n ∧ h' 84 4 = h 64 32) ∧ ∀ j, 5 ≤ j → h' 84 j = h 84 j) (fun _ _ => False) := by
  refine zCal_of (by decide) (Nat.le_of_ble_eq_true rfl) (fun a => ?_)
  show zV _ 0 0 [zrv E 64] [] _
  refine zV_aload_nr dX6_ask_0 rfl rfl ?_
  refine gf6_94 rfl (rfl) dX6_ask_1 ?_
  refine zV_teq (w := zrv E 84) rfl ?_
  refine zV_iconst dX6_ask_4 ?_
  refine zV_aload_nr dX6_ask_5 rfl rfl ?_
  refine gf6_338 rfl rfl dX6_ask_6 ?_
  refine zV_iastoreN (i := 0) (N := 7) (rfl) (by decide) (by decide) dX6_ask_9 ?_
  refine zV_aload_nr dX6_ask_10 rfl rfl ?_
  refine gf6_94 rfl (rfl) dX6_ask_11 ?_
  refine zV_teq (w := zrv E 84) rfl ?_
  refine zV_iconst dX6_ask_14 ?_
  refine zV_aload_nr dX6_ask_15 rfl rfl ?_
  refine zV_callV (As := []) lk6_341 (rfl) rfl rfl (c6_mostNow (n := n) (d - 1) 0 (by omega) h0 hn hl) ⟨by show _ + 1 ≤ d; omega, by show _ ≤ k; omega⟩ rfl (Nat.le_of_ble_eq_true rfl) dX6_ask_16 (fun _ _ z => z.elim) (fun r h9 q => ?_)
  obtain ⟨rfl, hh⟩ := q
  rw [hh]
  clear hh
  refine zV_iastoreN (i := 1) (N := 7) (rfl) (by decide) (by decide) dX6_ask_19 ?_
  refine zV_aload_nr dX6_ask_20 rfl rfl ?_
  refine gf6_94 rfl (rfl) dX6_ask_21 ?_
  refine zV_teq (w := zrv E 84) rfl ?_
  refine zV_iconst dX6_ask_24 ?_
  refine zV_aload_nr dX6_ask_25 rfl rfl ?_
  refine zV_callV (As := []) lk6_335 (rfl) rfl rfl (c6_fullest (n := n) (d - 1) 0 (by omega) h0 hn hl) ⟨by show _ + 1 ≤ d; omega, by show _ ≤ k; omega⟩ rfl (Nat.le_of_ble_eq_true rfl) dX6_ask_26 (fun _ _ z => z.elim) (fun r h9 q => ?_)
  obtain ⟨rfl, hh⟩ := q
  rw [hh]
  clear hh
  refine zV_iastoreN (i := 2) (N := 7) (rfl) (by decide) (by decide) dX6_ask_29 ?_
  refine zV_aload_nr dX6_ask_30 rfl rfl ?_
  refine gf6_94 rfl (rfl) dX6_ask_31 ?_
  refine zV_teq (w := zrv E 84) rfl ?_
  refine zV_iconst dX6_ask_34 ?_
  refine zV_aload_nr dX6_ask_35 rfl rfl ?_
  refine zV_callV (As := []) lk6_344 (rfl) rfl rfl (c6_oddNow (n := n) (d - 1) 0 h0 hn hl) ⟨by show _ + 1 ≤ d; omega, by show _ ≤ k; omega⟩ rfl (Nat.le_of_ble_eq_true rfl) dX6_ask_36 (fun _ _ z => z.elim) (fun r h9 q => ?_)
  obtain ⟨rfl, hh⟩ := q
  rw [hh]
  clear hh
  refine zV_iastoreN (i := 3) (N := 7) (rfl) (by decide) (by decide) dX6_ask_39 ?_
  refine zV_aload_nr dX6_ask_40 rfl rfl ?_
  refine gf6_94 rfl (rfl) dX6_ask_41 ?_
  refine zV_teq (w := zrv E 84) rfl ?_
  refine zV_iconst dX6_ask_44 ?_
  refine zV_aload_nr dX6_ask_45 rfl rfl ?_
  refine gf6_313 rfl rfl dX6_ask_46 ?_
  refine zV_iastoreN (i := 4) (N := 7) (rfl) (by decide) (by decide) dX6_ask_49 ?_
  exact zV_vreturn dX6_ask_50 rfl (Nat.zero_le _) ⟨rfl, fun c2 e => by rw [zup_fn e, zup_fn e, zup_fn e, zup_fn e, zup_fn e], ⟨rfl, rfl, rfl, rfl, rfl⟩, fun j hj => by rw [zup_at, if_neg (by omega), zup_at, if_neg (by omega), zup_at, if_neg (by omega), zup_at, if_neg (by omega), zup_at, if_neg (by omega)]⟩
