/-! THE REFERENCE: what is now; acts -/
theorem seatS_in {f : Nat → Int} {j : Int} : ∀ m s : Nat, (∃ i, s ≤ i ∧ i < s + m ∧ f i = j) → (s : Int) ≤ seatS f j s m ∧ seatS f j s m < s + m := by
  intro m
  induction m with
  | zero => rintro s ⟨i, h1, h2, -⟩; omega
  | succ m ih =>
    rintro s ⟨i, h1, h2, h3⟩
    show (s : Int) ≤ (if f s = j then (s : Int) else seatS f j (s + 1) m) ∧ (if f s = j then (s : Int) else seatS f j (s + 1) m) < _
    split
    · omega
    · rename_i e
      have hne : i ≠ s := fun z => e (z ▸ h3)
      have := ih (s + 1) ⟨i, by omega, by omega, h3⟩
      omega
def rlZ (z : Nat → Bool) (p : Nat) : Nat → Nat → Nat
  | 0, k => k
  | f + 1, k => if z ((p + k) % 12) = true then rlZ z p f (k + 1) else k
theorem rlZ_s (z : Nat → Bool) (p f k : Nat) : rlZ z p (f + 1) k = if z ((p + k) % 12) = true then rlZ z p f (k + 1) else k := rfl
def gmZ (z : Nat → Bool) : Nat → Int
  | 0 => 0
  | m + 1 => max (gmZ z m) (rlZ z m 12 0 : Int)
theorem rlZ_lo (z : Nat → Bool) (p : Nat) : ∀ f k, k ≤ rlZ z p f k ∧ rlZ z p f k ≤ k + f := by
  intro f
  induction f with
  | zero => intro k; exact ⟨Nat.le_refl _, Nat.le_refl _⟩
  | succ f ih => intro k; rw [rlZ_s]; have := ih (k + 1); split <;> omega
theorem gmZ_lo (z : Nat → Bool) : ∀ m, 0 ≤ gmZ z m ∧ gmZ z m ≤ 12 := by
  intro m
  induction m with
  | zero => simp [gmZ]
  | succ m ih => show 0 ≤ max (gmZ z m) (rlZ z m 12 0 : Int) ∧ max (gmZ z m) (rlZ z m 12 0 : Int) ≤ 12; have := rlZ_lo z m 12 0; omega
def emZ (p : Nat → Int) (n : Nat) : Nat → Bool := fun q => decide (cntS p (q : Int) n = 0)
theorem ptN_0 {f : Nat → Int} {w : Int} {m : Nat} (hm : m ≤ 8) : ptN f w m = 0 ↔ cntS f w m = 0 := by
  rw [ptN_hit]
  have h1 : ∀ m, hitB f w m = false ↔ cntS f w m = 0 := by
    intro m
    induction m with
    | zero => exact ⟨fun _ => rfl, fun _ => rfl⟩
    | succ m ih =>
      have := cntS_lo f w m
      rw [hitB_s, cntS_s]
      by_cases e : f m = w
      · rw [if_pos e, decide_eq_true e]; simp; omega
      · rw [if_neg e, decide_eq_false e, Bool.or_false]; exact ih
  exact h1 m
def mkept (h h' : zH) : Prop := ∃ ac ac' : Nat, h 64 35 = (ac : Int) ∧ ac ≤ 40 ∧ ac' = (if ac = 40 then 39 else ac) ∧ (∀ c2 : Nat, c2 ≠ 64 → c2 ≠ 83 → h' c2 = h c2) ∧ (∀ j, j ≠ 35 → h' 64 j = h 64 j) ∧ h' 64 35 = (ac' : Int) + 1 ∧
  (∀ i, i < 27 * ac' → h' 83 i = if ac = 40 then h 83 (i + 27) else h 83 i) ∧ ∀ i, i < 27 → h' 83 (27 * ac' + i) = rowF h i
theorem rowF_congr {h h1 : zH} (e64 : ∀ j, j ≠ 35 → h1 64 j = h 64 j) (e80 : h1 80 = h 80) (e81 : h1 81 = h 81) (e82 : h1 82 = h 82) (i : Nat) : rowF h1 i = rowF h i := by
  unfold rowF; rw [e64 32 (by decide), e64 33 (by decide), e64 34 (by decide), e80, e81, e82]
def survM (h : zH) (n : Nat) (x : Int) : Int := if x = 5 then mostS (h 80) n else if x = 6 then whereS (h 80) n else if x = 7 then oddS (h 80) n else gmZ (emZ (h 80) n) 12
def cntM (h : zH) (n : Nat) (x : Int) : Int := if x = 0 then h 68 0 else if x = 1 then h 68 1 else if x = 2 then h 64 32 else if x = 3 then h 64 33 else if x = 4 then h 64 34 else if x ≤ 8 then survM h n x else if x = 9 then h 64 35 else if x = 10 then h 64 36 else if x = 11 then h 64 17 else if x = 12 then h 77 0 else if x = 13 then h 77 1 else h 77 2
def judM (h : zH) (jn : Nat) (x w : Int) : Int := if w = 0 then h 78 x.toNat else if w = 1 then h 82 x.toNat else if w = 2 then h 74 x.toNat else if w = 3 then seatS (h 81) x 0 jn else if w = 4 then h 71 x.toNat else (ptN (h 74) (h 74 x.toNat) jn : Int)

set_option maxRecDepth 100000 in
theorem c6_keep {E : zE} {h : zH} {ac : Nat} (d k : Nat) (hd : 1 ≤ d) (ha : h 64 35 = (ac : Int)) (ha2 : ac ≤ 40) : zCal E mX6_keep d k [zrv E 64] h (fun r h' => r = none ∧ mkept h h') (fun _ _ => False) := by
  refine zCal_of (by decide) (Nat.le_of_ble_eq_true rfl) (fun a => ?_)
  show zV _ 0 0 [zrv E 64, .null] [] _
  refine zV_aload_nr dX6_keep_0 rfl rfl ?_
  refine gf6_316 rfl rfl dX6_keep_1 ?_
  rw [ha]
  refine zV_bipush dX6_keep_4 (by decide) ?_
  have J52 : ∀ (a9 : Nat) (h1 : zH), (a9 = if ac = 40 then 39 else ac) → (∀ c2 : Nat, c2 ≠ 64 → c2 ≠ 83 → h1 c2 = h c2) → (∀ j, j ≠ 35 → h1 64 j = h 64 j) → (h1 64 35 = (a9 : Int)) → (∀ i, i < 27 * a9 → h1 83 i = if ac = 40 then h 83 (i + 27) else h 83 i) → zV (E, mX6_keep, d, k, (fun r h' => r = none ∧ mkept h h'), (fun _ _ => False), a) 0 52 [zrv E 64, .null] [] h1 := by
    intro a9 h1 e9 fr f64 a35 hp
    have a9b : a9 ≤ 39 := by rw [e9]; split <;> omega
    refine zV_aload_nr dX6_keep_52 rfl rfl ?_
    refine zV_aload_nr dX6_keep_53 rfl rfl ?_
    refine gf6_91 rfl (rfl) dX6_keep_54 ?_
    refine zV_teq (w := zrv E 83) rfl ?_
    refine zV_bipush dX6_keep_57 (by decide) ?_
    refine zV_aload_nr dX6_keep_59 rfl rfl ?_
    refine gf6_316 rfl rfl dX6_keep_60 ?_
    rw [a35]
    refine zV_imul dX6_keep_63 ?_
    refine zV_teq (w := ziv ((27 * a9 : Nat) : Int)) (congrArg ziv (by omega)) ?_
    refine zV_callV (As := [zrv E 83, ziv ((27 * a9 : Nat) : Int)]) lk6_372 (rfl) rfl rfl (c6_pack (c := 83) (N := 1080) (f := 27 * a9) (d - 1) 0 zsh83 (by decide) scr83 (by omega)) ⟨by show _ + 1 ≤ d; omega, by show _ ≤ k; omega⟩ rfl (Nat.le_of_ble_eq_true rfl) dX6_keep_64 (fun _ _ z => z.elim) (fun r h2 q => ?_)
    obtain ⟨rfl, pk⟩ := q
    refine zV_aload_nr dX6_keep_67 rfl rfl ?_
    refine zV_dup dX6_keep_68 rfl ?_
    refine gf6_316 rfl rfl dX6_keep_69 ?_
    refine zV_teq (w := ziv (a9 : Int)) (congrArg ziv (by rw [pk.1 64 (by decide), a35])) ?_
    refine zV_iconst dX6_keep_72 ?_
    refine zV_iadd dX6_keep_73 ?_
    refine pf6_316 rfl (rfl) dX6_keep_74 ?_
    exact zV_vreturn dX6_keep_77 rfl (Nat.zero_le _) ⟨rfl, ac, a9, ha, ha2, e9, fun c2 a b => by rw [zup_fn a, pk.1 c2 b, fr c2 a b], fun j hj => by rw [zup_at, if_neg hj, pk.1 64 (by decide), f64 j hj], by rw [zup_at, if_pos rfl], fun i hi => by rw [zup_fn (by decide), pk.2 i, if_neg (by omega), hp i hi], fun i hi => by rw [zup_fn (by decide), pk.2, if_pos (by omega), show 27 * a9 + i - 27 * a9 = i by omega]; exact rowF_congr f64 (fr 80 (by decide) (by decide)) (fr 81 (by decide) (by decide)) (fr 82 (by decide) (by decide)) i⟩
  refine zR_icmp_ne (tgt := 52) dX6_keep_6 (by decide) (by omega) (by omega) (fun h6 => ?_) (fun h6 => ?_)
  · refine zV_drop 1 ?_
    exact J52 ac h (by rw [if_neg (by omega)]) (fun _ _ _ => rfl) (fun _ _ => rfl) ha (fun i _ => by rw [if_neg (by omega)])
  · refine zV_bipush dX6_keep_9 (by decide) ?_
    refine zV_istore_n dX6_keep_11 rfl (Nat.le_of_ble_eq_true rfl) rfl ?_
    have L12 : ∀ (m : Nat) (s : Nat) (h1 : zH), (1081 ≤ s + m) → (27 ≤ s ∧ s ≤ 1080) → (∀ c2 : Nat, c2 ≠ 83 → h1 c2 = h c2) → (∀ i, h1 83 i = if i + 27 < s then h 83 (i + 27) else h 83 i) → zV (E, mX6_keep, d, k, (fun r h' => r = none ∧ mkept h h'), (fun _ _ => False), a) 0 12 [zrv E 64, ziv (s : Int)] [] h1 := by
      intro m
      induction m with
      | zero => intro s h1 hm_ hs fr hp; exfalso; omega
      | succ m ih =>
        intro s h1 hm_ hs fr hp
        refine zV_iload_n dX6_keep_12 rfl rfl ?_
        refine zV_aload_nr dX6_keep_13 rfl rfl ?_
        refine gf6_91 rfl (rfl) dX6_keep_14 ?_
        refine zV_teq (w := zrv E 83) rfl ?_
        refine zV_alen (t := 0) (N := 1080) (rfl) dX6_keep_17 ?_
        refine zR_icmp_ge (tgt := 42) dX6_keep_18 (by decide) (by omega) (by omega) (fun h18 => ?_) (fun h18 => ?_)
        · refine zV_aload_nr dX6_keep_42 rfl rfl ?_
          refine zV_dup dX6_keep_43 rfl ?_
          refine gf6_316 rfl rfl dX6_keep_44 ?_
          rw [fr 64 (by decide), ha]
          refine zV_iconst dX6_keep_47 ?_
          refine zV_isub dX6_keep_48 ?_
          refine pf6_316 rfl (rfl) dX6_keep_49 ?_
          refine zV_drop 1 ?_
          exact J52 39 _ (by rw [if_pos (by omega)]) (fun c2 a b => by rw [zup_fn a, fr c2 b]) (fun j hj => by rw [zup_at, if_neg hj, fr 64 (by decide)]) (by rw [zup_at, if_pos rfl]; omega) (fun i hi => by rw [zup_fn (by decide), hp i, if_pos (by omega), if_pos (by omega)])
        · refine zV_aload_nr dX6_keep_21 rfl rfl ?_
          refine gf6_91 rfl (rfl) dX6_keep_22 ?_
          refine zV_teq (w := zrv E 83) rfl ?_
          refine zV_iload_n dX6_keep_25 rfl rfl ?_
          refine zV_bipush dX6_keep_26 (by decide) ?_
          refine zV_isub dX6_keep_28 ?_
          refine zV_teq (w := ziv ((s - 27 : Nat) : Int)) (congrArg ziv (by omega)) ?_
          refine zV_aload_nr dX6_keep_29 rfl rfl ?_
          refine gf6_91 rfl (rfl) dX6_keep_30 ?_
          refine zV_teq (w := zrv E 83) rfl ?_
          refine zV_iload_n dX6_keep_33 rfl rfl ?_
          refine zV_ialoadN (i := s) (N := 1080) (rfl) (by omega) (by decide) dX6_keep_34 ?_
          rw [hp s, if_neg (by omega)]
          refine zV_iastoreN (i := (s - 27)) (N := 1080) (rfl) (by omega) (by decide) dX6_keep_35 ?_
          refine zV_iinc dX6_keep_36 rfl (Nat.le_of_ble_eq_true rfl) rfl ?_
          refine zV_goto (tgt := 12) dX6_keep_39 (by decide) ?_
          exact ih (s + 1) _ (by omega) (by omega) (fun c2 e => by rw [zup_fn e]; exact fr c2 e) (fun i => by
            rw [zup_at, hp i]
            by_cases e : i = s - 27
            · rw [if_pos e, if_pos (by omega), e, show s - 27 + 27 = s by omega]
            · rw [if_neg e]
              by_cases e2 : i + 27 < s
              · rw [if_pos e2, if_pos (by omega)]
              · rw [if_neg e2, if_neg (by omega)])
    exact L12 1081 27 h (by omega) (by omega) (fun _ _ => rfl) (fun i => by rw [if_neg (by omega)])
set_option maxRecDepth 100000 in
theorem c6_refuse {E : zE} {h : zH} {w : Nat} (d k : Nat) (hw : w < 3) : zCal E mX6_refuse d k [zrv E 64, ziv (w : Int)] h (fun r h' => r = some (ziv (-1)) ∧ h' = zup h 77 w (h 77 w + 1)) (fun _ _ => False) := by
  refine zCal_of (by decide) (Nat.le_of_ble_eq_true rfl) (fun a => ?_)
  show zV _ 0 0 [zrv E 64, ziv (w : Int)] [] _
  refine zV_aload_nr dX6_refuse_0 rfl rfl ?_
  refine gf6_70 rfl (rfl) dX6_refuse_1 ?_
  refine zV_teq (w := zrv E 77) rfl ?_
  refine zV_iload_n dX6_refuse_4 rfl rfl ?_
  refine zV_dup2 dX6_refuse_5 rfl rfl ?_
  refine zV_ialoadN (i := w) (N := 3) (rfl) hw (by decide) dX6_refuse_6 ?_
  refine zV_iconst dX6_refuse_7 ?_
  refine zV_iadd dX6_refuse_8 ?_
  refine zV_iastoreN (i := w) (N := 3) (rfl) hw (by decide) dX6_refuse_9 ?_
  refine zV_iconst dX6_refuse_10 ?_
  exact zV_ireturn dX6_refuse_11 rfl (Nat.zero_le _) ⟨rfl, rfl⟩
set_option maxRecDepth 100000 in
theorem c6_seatOf {E : zE} {h : zH} {x : Int} {jn : Nat} (d k : Nat) (hx : -2147483648 ≤ x ∧ x ≤ 2147483647) (h1 : h 68 1 = (jn : Int)) (hjn : jn ≤ 8) (hs : ∀ i, i < jn → 0 ≤ h 81 i ∧ h 81 i < jn) : zCal E mX6_seatOf d k [zrv E 64, ziv x] h (fun r h' => r = some (ziv (seatS (h 81) x 0 jn)) ∧ h' = h) (fun _ _ => False) := by
  refine zCal_of (by decide) (Nat.le_of_ble_eq_true rfl) (fun a => ?_)
  show zV _ 0 0 [zrv E 64, ziv x, .null] [] _
  refine zV_iconst dX6_seatOf_0 ?_
  refine zV_istore_n dX6_seatOf_1 rfl (Nat.le_of_ble_eq_true rfl) rfl ?_
  have L2 : ∀ (m : Nat) (s : Nat), (jn + 1 ≤ s + m) → (s ≤ jn) → (seatS (h 81) x 0 jn = seatS (h 81) x s (jn - s)) → zV (E, mX6_seatOf, d, k, (fun r h' => r = some (ziv (seatS (h 81) x 0 jn)) ∧ h' = h), (fun _ _ => False), a) 0 2 [zrv E 64, ziv x, ziv (s : Int)] [] h := by
    intro m
    induction m with
    | zero => intro s hm_ hsn hi; exfalso; omega
    | succ m ih =>
      intro s hm_ hsn hi
      refine zV_iload_n dX6_seatOf_2 rfl rfl ?_
      refine zV_aload_nr dX6_seatOf_3 rfl rfl ?_
      refine gf6_42 rfl (rfl) dX6_seatOf_4 ?_
      refine zV_teq (w := zrv E 68) rfl ?_
      refine zV_iconst dX6_seatOf_7 ?_
      refine zV_ialoadN (i := 1) (N := 10) (rfl) (by decide) (by decide) dX6_seatOf_8 ?_
      rw [h1]
      refine zR_icmp_ge (tgt := 30) dX6_seatOf_9 (by decide) (by omega) (by omega) (fun h9 => ?_) (fun h9 => ?_)
      · refine zV_iconst dX6_seatOf_30 ?_
        exact zV_ireturn dX6_seatOf_31 rfl (Nat.zero_le _) ⟨by rw [hi, show jn - s = 0 by omega]; rfl, rfl⟩
      · refine zV_aload_nr dX6_seatOf_12 rfl rfl ?_
        refine gf6_85 rfl (rfl) dX6_seatOf_13 ?_
        refine zV_teq (w := zrv E 81) rfl ?_
        refine zV_iload_n dX6_seatOf_16 rfl rfl ?_
        refine zV_ialoadN (i := s) (N := 8) (rfl) (by omega) (by decide) dX6_seatOf_17 ?_
        have hb := hs s (by omega)
        refine zV_iload_n dX6_seatOf_18 rfl rfl ?_
        refine zR_icmp_ne (tgt := 24) dX6_seatOf_19 (by decide) (by omega) (by omega) (fun h19 => ?_) (fun h19 => ?_)
        · refine zV_iinc dX6_seatOf_24 rfl (Nat.le_of_ble_eq_true rfl) rfl ?_
          refine zV_goto (tgt := 2) dX6_seatOf_27 (by decide) ?_
          exact ih (s + 1) (by omega) (by omega) (by rw [hi, show jn - s = (jn - (s + 1)) + 1 by omega, seatS, if_neg h19])
        · refine zV_iload_n dX6_seatOf_22 rfl rfl ?_
          exact zV_ireturn dX6_seatOf_23 rfl (Nat.zero_le _) ⟨by rw [hi, show jn - s = (jn - s - 1) + 1 by omega, seatS, if_pos h19], rfl⟩
  exact L2 (jn + 1) 0 (by omega) (by omega) rfl
set_option maxRecDepth 100000 in
theorem c6_swap {E : zE} {h : zH} {x y : Int} {jn : Nat} (d k : Nat) (hd : 1 ≤ d) (hx : 0 ≤ x ∧ x < jn) (hy : 0 ≤ y ∧ y < jn) (h1 : h 68 1 = (jn : Int)) (hjn : jn ≤ 8) (hs : ∀ i, i < jn → 0 ≤ h 81 i ∧ h 81 i < jn) (hse : ∀ j, j < jn → seated (h 81) jn j) : zCal E mX6_swap d k [zrv E 64, ziv x, ziv y] h (fun r h' => r = none ∧ h' = zst h 81 (swapP (h 81) x y jn)) (fun _ _ => False) := by
  refine zCal_of (by decide) (Nat.le_of_ble_eq_true rfl) (fun a => ?_)
  show zV _ 0 0 [zrv E 64, ziv x, ziv y, .null, .null] [] _
  obtain ⟨p, p1, p2⟩ := hse x.toNat (by omega)
  obtain ⟨q, q1, q2⟩ := hse y.toNat (by omega)
  have sx := seatS_in (f := h 81) (j := x) jn 0 ⟨p, by omega, by omega, by omega⟩
  have sy := seatS_in (f := h 81) (j := y) jn 0 ⟨q, by omega, by omega, by omega⟩
  refine zV_aload_nr dX6_swap_0 rfl rfl ?_
  refine zV_iload_n dX6_swap_1 rfl rfl ?_
  refine zV_callV (As := [ziv x]) lk6_388 (rfl) rfl rfl (c6_seatOf (d - 1) 0 (by omega) h1 hjn hs) ⟨by show _ + 1 ≤ d; omega, by show _ ≤ k; omega⟩ rfl (Nat.le_of_ble_eq_true rfl) dX6_swap_2 (fun _ _ z => z.elim) (fun r h9 q => ?_)
  obtain ⟨rfl, hh⟩ := q
  rw [hh]
  clear hh
  refine zV_istore_n dX6_swap_5 rfl (Nat.le_of_ble_eq_true rfl) rfl ?_
  refine zV_aload_nr dX6_swap_6 rfl rfl ?_
  refine zV_iload_n dX6_swap_7 rfl rfl ?_
  refine zV_callV (As := [ziv y]) lk6_388 (rfl) rfl rfl (c6_seatOf (d - 1) 0 (by omega) h1 hjn hs) ⟨by show _ + 1 ≤ d; omega, by show _ ≤ k; omega⟩ rfl (Nat.le_of_ble_eq_true rfl) dX6_swap_8 (fun _ _ z => z.elim) (fun r h9 q => ?_)
  obtain ⟨rfl, hh⟩ := q
  rw [hh]
  clear hh
  refine zV_istore dX6_swap_11 (Nat.le_of_ble_eq_true rfl) rfl ?_
  refine zV_aload_nr dX6_swap_13 rfl rfl ?_
  refine gf6_85 rfl (rfl) dX6_swap_14 ?_
  refine zV_teq (w := zrv E 81) rfl ?_
  refine zV_iload_n dX6_swap_17 rfl rfl ?_
  refine zV_iload_n dX6_swap_18 rfl rfl ?_
  refine zV_iastore (N := 8) (rfl) (by omega) (by decide) dX6_swap_19 ?_
  refine zV_aload_nr dX6_swap_20 rfl rfl ?_
  refine gf6_85 rfl (rfl) dX6_swap_21 ?_
  refine zV_teq (w := zrv E 81) rfl ?_
  refine zV_iload dX6_swap_24 rfl ?_
  refine zV_iload_n dX6_swap_26 rfl rfl ?_
  refine zV_iastore (N := 8) (rfl) (by omega) (by decide) dX6_swap_27 ?_
  exact zV_vreturn dX6_swap_28 rfl (Nat.zero_le _) ⟨rfl, by
    funext c i
    unfold zst
    by_cases e : c = 81
    · subst e
      rw [zup_at, zup_at]
      show _ = swapP (h 81) x y jn i
      unfold swapP
      rw [if_pos (show 0 ≤ seatS (h 81) x 0 jn ∧ 0 ≤ seatS (h 81) y 0 jn by omega)]
    · rw [zup_fn e, zup_fn e, if_neg e]⟩
set_option maxRecDepth 100000 in
theorem c6_partyOf {E : zE} {h : zH} {j jn : Nat} (d k : Nat) (h1 : h 68 1 = (jn : Int)) (hjn : jn ≤ 8) (hj : j < jn) (hwi : ∀ j, j < jn → 0 ≤ h 74 j ∧ h 74 j ≤ 4) : zCal E mX6_partyOf d k [zrv E 64, ziv (j : Int)] h (fun r h' => r = some (ziv (ptN (h 74) (h 74 j) jn : Int)) ∧ h' = h) (fun _ _ => False) := by
  refine zCal_of (by decide) (Nat.le_of_ble_eq_true rfl) (fun a => ?_)
  show zV _ 0 0 [zrv E 64, ziv (j : Int), .null, .null] [] _
  refine zV_iconst dX6_partyOf_0 ?_
  refine zV_istore_n dX6_partyOf_1 rfl (Nat.le_of_ble_eq_true rfl) rfl ?_
  refine zV_iconst dX6_partyOf_2 ?_
  refine zV_istore_n dX6_partyOf_3 rfl (Nat.le_of_ble_eq_true rfl) rfl ?_
  have L4 : ∀ (m : Nat) (s : Nat), (jn + 1 ≤ s + m) → (s ≤ jn) → zV (E, mX6_partyOf, d, k, (fun r h' => r = some (ziv (ptN (h 74) (h 74 j) jn : Int)) ∧ h' = h), (fun _ _ => False), a) 0 4 [zrv E 64, ziv (j : Int), ziv (ptN (h 74) (h 74 j) s : Int), ziv (s : Int)] [] h := by
    intro m
    induction m with
    | zero => intro s hm_ hs; exfalso; omega
    | succ m ih =>
      intro s hm_ hs
      refine zV_iload_n dX6_partyOf_4 rfl rfl ?_
      refine zV_aload_nr dX6_partyOf_5 rfl rfl ?_
      refine gf6_42 rfl (rfl) dX6_partyOf_6 ?_
      refine zV_teq (w := zrv E 68) rfl ?_
      refine zV_iconst dX6_partyOf_9 ?_
      refine zV_ialoadN (i := 1) (N := 10) (rfl) (by decide) (by decide) dX6_partyOf_10 ?_
      rw [h1]
      refine zR_icmp_ge (tgt := 45) dX6_partyOf_11 (by decide) (by omega) (by omega) (fun h11 => ?_) (fun h11 => ?_)
      · refine zV_iload_n dX6_partyOf_45 rfl rfl ?_
        exact zV_ireturn dX6_partyOf_46 rfl (Nat.zero_le _) ⟨by rw [show jn = s by omega], rfl⟩
      · refine zV_iload_n dX6_partyOf_14 rfl rfl ?_
        refine zV_aload_nr dX6_partyOf_15 rfl rfl ?_
        refine gf6_61 rfl (rfl) dX6_partyOf_16 ?_
        refine zV_teq (w := zrv E 74) rfl ?_
        refine zV_iload_n dX6_partyOf_19 rfl rfl ?_
        refine zV_ialoadN (i := s) (N := 16) (rfl) (by omega) (by decide) dX6_partyOf_20 ?_
        refine zV_aload_nr dX6_partyOf_21 rfl rfl ?_
        refine gf6_61 rfl (rfl) dX6_partyOf_22 ?_
        refine zV_teq (w := zrv E 74) rfl ?_
        refine zV_iload_n dX6_partyOf_25 rfl rfl ?_
        refine zV_ialoadN (i := j) (N := 16) (rfl) (by omega) (by decide) dX6_partyOf_26 ?_
        have w1 := hwi s (by omega)
        have w2 := hwi j hj
        have pl := ptN_lo (h 74) (h 74 j) s
        have p8 := ptN_256 (h 74) (h 74 j) (m := s) (by omega)
        refine zR_icmp_ne (tgt := 36) dX6_partyOf_27 (by decide) (by omega) (by omega) (fun h27 => ?_) (fun h27 => ?_)
        · refine zV_iconst dX6_partyOf_36 ?_
          refine zV_ior dX6_partyOf_37 ?_
          refine zV_istore_n dX6_partyOf_38 rfl (Nat.le_of_ble_eq_true rfl) rfl ?_
          refine zV_iinc dX6_partyOf_39 rfl (Nat.le_of_ble_eq_true rfl) rfl ?_
          refine zV_goto (tgt := 4) dX6_partyOf_42 (by decide) ?_
          rw [or_0 _ p8]
          refine zV_lveq (lv' := [zrv E 64, ziv (j : Int), ziv (ptN (h 74) (h 74 j) (s + 1) : Int), ziv ((s : Int) + 1)]) (by rw [ptN_s, if_neg h27]; rfl) ?_
          exact ih (s + 1) (by omega) (by omega)
        · refine zV_iconst dX6_partyOf_30 ?_
          refine zV_iload_n dX6_partyOf_31 rfl rfl ?_
          refine zV_ishl dX6_partyOf_32 ?_
          refine zV_goto (tgt := 37) dX6_partyOf_33 (by decide) ?_
          refine zV_ior dX6_partyOf_37 ?_
          refine zV_istore_n dX6_partyOf_38 rfl (Nat.le_of_ble_eq_true rfl) rfl ?_
          refine zV_iinc dX6_partyOf_39 rfl (Nat.le_of_ble_eq_true rfl) rfl ?_
          refine zV_goto (tgt := 4) dX6_partyOf_42 (by decide) ?_
          rw [(or_pw s (by omega) _ pl).1]
          refine zV_lveq (lv' := [zrv E 64, ziv (j : Int), ziv (ptN (h 74) (h 74 j) (s + 1) : Int), ziv ((s : Int) + 1)]) (by rw [ptN_s, if_pos h27]; rfl) ?_
          exact ih (s + 1) (by omega) (by omega)
  exact L4 (jn + 1) 0 (by omega) (by omega)
set_option maxRecDepth 100000 in
theorem c6_gapNow {E : zE} {h : zH} {n : Nat} (d k : Nat) (hd : 1 ≤ d) (h0 : h 68 0 = (n : Int)) (hn : n ≤ 8) (hl : ∀ l, l < n → 0 ≤ h 80 l ∧ h 80 l < 12) : zCal E mX6_gapNow d k [zrv E 64] h (fun r h' => r = some (ziv (gmZ (emZ (h 80) n) 12)) ∧ h' = h) (fun _ _ => False) := by
  refine zCal_of (by decide) (Nat.le_of_ble_eq_true rfl) (fun a => ?_)
  show zV _ 0 0 [zrv E 64, .null, .null, .null] [] _
  refine zV_iconst dX6_gapNow_0 ?_
  refine zV_istore_n dX6_gapNow_1 rfl (Nat.le_of_ble_eq_true rfl) rfl ?_
  refine zV_iconst dX6_gapNow_2 ?_
  refine zV_istore_n dX6_gapNow_3 rfl (Nat.le_of_ble_eq_true rfl) rfl ?_
  have L4 : ∀ (m : Nat) (s : Nat), (13 ≤ s + m) → (s ≤ 12) → zV (E, mX6_gapNow, d, k, (fun r h' => r = some (ziv (gmZ (emZ (h 80) n) 12)) ∧ h' = h), (fun _ _ => False), a) 0 4 [zrv E 64, ziv (gmZ (emZ (h 80) n) s), ziv (s : Int), .null] [] h := by
    intro m
    induction m with
    | zero => intro s hm_ hs; exfalso; omega
    | succ m ih =>
      intro s hm_ hs
      refine zV_iload_n dX6_gapNow_4 rfl rfl ?_
      refine zV_bipush dX6_gapNow_5 (by decide) ?_
      refine zR_icmp_ge (tgt := 49) dX6_gapNow_7 (by decide) (by omega) (by omega) (fun h7 => ?_) (fun h7 => ?_)
      · refine zV_iload_n dX6_gapNow_49 rfl rfl ?_
        exact zV_ireturn dX6_gapNow_50 rfl (Nat.zero_le _) ⟨by rw [show 12 = s by omega], rfl⟩
      · refine zV_iconst dX6_gapNow_10 ?_
        refine zV_istore_n dX6_gapNow_11 rfl (Nat.le_of_ble_eq_true rfl) rfl ?_
        have L12 : ∀ (m2 : Nat) (c : Nat), (13 ≤ c + m2) → (c ≤ 12) → (rlZ (emZ (h 80) n) s 12 0 = rlZ (emZ (h 80) n) s (12 - c) c) → zV (E, mX6_gapNow, d, k, (fun r h' => r = some (ziv (gmZ (emZ (h 80) n) 12)) ∧ h' = h), (fun _ _ => False), a) 0 12 [zrv E 64, ziv (gmZ (emZ (h 80) n) s), ziv (s : Int), ziv (c : Int)] [] h := by
          intro m2
          induction m2 with
          | zero => intro c hm_ hc he; exfalso; omega
          | succ m2 ih2 =>
            intro c hm_ hc he
            refine zV_iload_n dX6_gapNow_12 rfl rfl ?_
            refine zV_bipush dX6_gapNow_13 (by decide) ?_
            have J37 : (rlZ (emZ (h 80) n) s 12 0 = c) → zV (E, mX6_gapNow, d, k, (fun r h' => r = some (ziv (gmZ (emZ (h 80) n) 12)) ∧ h' = h), (fun _ _ => False), a) 0 37 [zrv E 64, ziv (gmZ (emZ (h 80) n) s), ziv (s : Int), ziv (c : Int)] [] h := by
              intro  he2
              have gl := gmZ_lo (emZ (h 80) n) s
              refine zV_iload_n dX6_gapNow_37 rfl rfl ?_
              refine zV_iload_n dX6_gapNow_38 rfl rfl ?_
              refine zV_callS (As := [ziv (gmZ (emZ (h 80) n) s), ziv (c : Int)]) lk6_354 (cJ_max (d - 1) 0 (by omega) (by omega)) ⟨by show _ + 1 ≤ d; omega, by show _ ≤ k; omega⟩ rfl (Nat.le_of_ble_eq_true rfl) dX6_gapNow_39 (fun _ _ z => z.elim) (fun r h9 q => ?_)
              obtain ⟨rfl, hh⟩ := q
              rw [hh]
              clear hh
              refine zV_teq (w := ziv (gmZ (emZ (h 80) n) (s + 1))) (congrArg ziv (by show max (gmZ (emZ (h 80) n) s) (rlZ (emZ (h 80) n) s 12 0 : Int) = _; rw [he2])) ?_
              refine zV_istore_n dX6_gapNow_42 rfl (Nat.le_of_ble_eq_true rfl) rfl ?_
              refine zV_iinc dX6_gapNow_43 rfl (Nat.le_of_ble_eq_true rfl) rfl ?_
              refine zV_goto (tgt := 4) dX6_gapNow_46 (by decide) ?_
              refine zV_drop 3 ?_
              exact ih (s + 1) (by omega) (by omega)
            refine zR_icmp_ge (tgt := 37) dX6_gapNow_15 (by decide) (by omega) (by omega) (fun h15 => ?_) (fun h15 => ?_)
            · exact J37 (by rw [he, show 12 - c = 0 by omega]; rfl)
            · refine zV_aload_nr dX6_gapNow_18 rfl rfl ?_
              refine zV_iload_n dX6_gapNow_19 rfl rfl ?_
              refine zV_iload_n dX6_gapNow_20 rfl rfl ?_
              refine zV_iadd dX6_gapNow_21 ?_
              refine zV_bipush dX6_gapNow_22 (by decide) ?_
              refine zV_irem dX6_gapNow_24 (by decide) ?_
              refine zV_teq (w := ziv (((s + c) % 12 : Nat) : Int)) (congrArg ziv (by rw [zrem_eq (by omega) (by decide), Int.tmod_eq_emod_of_nonneg (by omega)]; omega)) ?_
              refine zV_callV (As := [ziv (((s + c) % 12 : Nat) : Int)]) lk6_329 (rfl) rfl rfl (c6_heapAt (n := n) (d - 1) 0 (by omega) h0 hn hl) ⟨by show _ + 1 ≤ d; omega, by show _ ≤ k; omega⟩ rfl (Nat.le_of_ble_eq_true rfl) dX6_gapNow_25 (fun _ _ z => z.elim) (fun r h9 q => ?_)
              obtain ⟨rfl, hh⟩ := q
              rw [hh]
              clear hh
              have p8 := ptN_256 (h 80) (((s + c) % 12 : Nat) : Int) hn
              refine zR_if_ne (tgt := 37) dX6_gapNow_28 (by decide) (by omega) (fun h28 => ?_) (fun h28 => ?_)
              · have ez : ¬ (emZ (h 80) n) ((s + c) % 12) = true := fun z => h28 (by have := (ptN_0 hn).mpr (of_decide_eq_true z); omega)
                exact J37 (by rw [he, show 12 - c = (12 - (c + 1)) + 1 by omega, rlZ_s, if_neg ez])
              · have ez : (emZ (h 80) n) ((s + c) % 12) = true := decide_eq_true ((ptN_0 hn).mp (by omega))
                refine zV_iinc dX6_gapNow_31 rfl (Nat.le_of_ble_eq_true rfl) rfl ?_
                refine zV_goto (tgt := 12) dX6_gapNow_34 (by decide) ?_
                exact ih2 (c + 1) (by omega) (by omega) (by rw [he, show 12 - c = (12 - (c + 1)) + 1 by omega, rlZ_s, if_pos ez])
        exact L12 13 0 (by omega) (by omega) rfl
  exact L4 13 0 (by omega) (by omega)
set_option maxRecDepth 100000 in
theorem c6_count {E : zE} {h : zH} {n jn : Nat} {x : Int} (hx : -2147483648 ≤ x ∧ x ≤ 2147483647) (hm : mInv h n jn) : zCal E mX6_count 12 4 [zrv E 64, ziv x] h (mA h (if 0 ≤ x ∧ x ≤ 14 then 0 else 1) (cntM h n x)) (fun _ _ => False) := by
  refine zCal_of (by decide) (Nat.le_of_ble_eq_true rfl) (fun a => ?_)
  show zV _ 0 0 [zrv E 64, ziv x] [] _
  refine zV_aload_nr dX6_count_0 rfl rfl ?_
  refine zV_iconst dX6_count_1 ?_
  refine pf6_157 rfl (rfl) dX6_count_2 ?_
  obtain ⟨h0, hh0, q0, z0, i0, e0, e4, r0, g0⟩ := st0 hm
  rw [hh0]
  refine zV_iload_n dX6_count_5 rfl rfl ?_
  rcases (show x = 0 ∨ x = 1 ∨ x = 2 ∨ x = 3 ∨ x = 4 ∨ x = 5 ∨ x = 6 ∨ x = 7 ∨ x = 8 ∨ x = 9 ∨ x = 10 ∨ x = 11 ∨ x = 12 ∨ x = 13 ∨ x = 14 ∨ (x < 0 ∨ 14 < x) by omega) with hv6 | hv6 | hv6 | hv6 | hv6 | hv6 | hv6 | hv6 | hv6 | hv6 | hv6 | hv6 | hv6 | hv6 | hv6 | hv6
  · refine zV_teq (congrArg ziv hv6.symm) ?_
    refine zV_tableIn (off := 74) (tgt := 80) dX6_count_6 (by decide) (by decide) (by decide) (by decide) ?_
    refine zV_aload_nr dX6_count_80 rfl rfl ?_
    refine gf6_42 rfl (rfl) dX6_count_81 ?_
    refine zV_teq (w := zrv E 68) rfl ?_
    refine zV_iload_n dX6_count_84 rfl rfl ?_
    refine zV_iaload (N := 10) (rfl) (by omega) (by decide) dX6_count_85 ?_
    exact zV_ireturn dX6_count_86 rfl (Nat.zero_le _) (mA_ok q0 z0 (by rw [if_pos (by omega)]) (by rw [hv6, e0 68 (by decide)]; rfl))
  · refine zV_teq (congrArg ziv hv6.symm) ?_
    refine zV_tableIn (off := 74) (tgt := 80) dX6_count_6 (by decide) (by decide) (by decide) (by decide) ?_
    refine zV_aload_nr dX6_count_80 rfl rfl ?_
    refine gf6_42 rfl (rfl) dX6_count_81 ?_
    refine zV_teq (w := zrv E 68) rfl ?_
    refine zV_iload_n dX6_count_84 rfl rfl ?_
    refine zV_iaload (N := 10) (rfl) (by omega) (by decide) dX6_count_85 ?_
    exact zV_ireturn dX6_count_86 rfl (Nat.zero_le _) (mA_ok q0 z0 (by rw [if_pos (by omega)]) (by rw [hv6, e0 68 (by decide)]; rfl))
  · refine zV_teq (congrArg ziv hv6.symm) ?_
    refine zV_tableIn (off := 81) (tgt := 87) dX6_count_6 (by decide) (by decide) (by decide) (by decide) ?_
    refine zV_aload_nr dX6_count_87 rfl rfl ?_
    refine gf6_313 rfl rfl dX6_count_88 ?_
    exact zV_ireturn dX6_count_91 rfl (Nat.zero_le _) (mA_ok q0 z0 (by rw [if_pos (by omega)]) (by rw [hv6, e4 32 (by decide)]; rfl))
  · refine zV_teq (congrArg ziv hv6.symm) ?_
    refine zV_tableIn (off := 86) (tgt := 92) dX6_count_6 (by decide) (by decide) (by decide) (by decide) ?_
    refine zV_aload_nr dX6_count_92 rfl rfl ?_
    refine gf6_151 rfl rfl dX6_count_93 ?_
    exact zV_ireturn dX6_count_96 rfl (Nat.zero_le _) (mA_ok q0 z0 (by rw [if_pos (by omega)]) (by rw [hv6, e4 33 (by decide)]; rfl))
  · refine zV_teq (congrArg ziv hv6.symm) ?_
    refine zV_tableIn (off := 91) (tgt := 97) dX6_count_6 (by decide) (by decide) (by decide) (by decide) ?_
    refine zV_aload_nr dX6_count_97 rfl rfl ?_
    refine gf6_154 rfl rfl dX6_count_98 ?_
    exact zV_ireturn dX6_count_101 rfl (Nat.zero_le _) (mA_ok q0 z0 (by rw [if_pos (by omega)]) (by rw [hv6, e4 34 (by decide)]; rfl))
  · refine zV_teq (congrArg ziv hv6.symm) ?_
    refine zV_tableIn (off := 96) (tgt := 102) dX6_count_6 (by decide) (by decide) (by decide) (by decide) ?_
    refine zV_aload_nr dX6_count_102 rfl rfl ?_
    refine zV_callV (As := []) lk6_341 (rfl) rfl rfl (c6_mostNow (n := n) 11 0 (by decide) i0.1.1.2.2.1 i0.1.1.1 i0.2.1.1) ⟨by show _ + 1 ≤ 12; omega, by show _ ≤ 4; omega⟩ rfl (Nat.le_of_ble_eq_true rfl) dX6_count_103 (fun _ _ z => z.elim) (fun r h9 q => ?_)
    obtain ⟨rfl, hh⟩ := q
    rw [hh]
    clear hh
    exact zV_ireturn dX6_count_106 rfl (Nat.zero_le _) (mA_ok q0 z0 (by rw [if_pos (by omega)]) (by rw [hv6, e0 80 (by decide)]; rfl))
  · refine zV_teq (congrArg ziv hv6.symm) ?_
    refine zV_tableIn (off := 101) (tgt := 107) dX6_count_6 (by decide) (by decide) (by decide) (by decide) ?_
    refine zV_aload_nr dX6_count_107 rfl rfl ?_
    refine zV_callV (As := []) lk6_335 (rfl) rfl rfl (c6_fullest (n := n) 11 0 (by decide) i0.1.1.2.2.1 i0.1.1.1 i0.2.1.1) ⟨by show _ + 1 ≤ 12; omega, by show _ ≤ 4; omega⟩ rfl (Nat.le_of_ble_eq_true rfl) dX6_count_108 (fun _ _ z => z.elim) (fun r h9 q => ?_)
    obtain ⟨rfl, hh⟩ := q
    rw [hh]
    clear hh
    exact zV_ireturn dX6_count_111 rfl (Nat.zero_le _) (mA_ok q0 z0 (by rw [if_pos (by omega)]) (by rw [hv6, e0 80 (by decide)]; rfl))
  · refine zV_teq (congrArg ziv hv6.symm) ?_
    refine zV_tableIn (off := 106) (tgt := 112) dX6_count_6 (by decide) (by decide) (by decide) (by decide) ?_
    refine zV_aload_nr dX6_count_112 rfl rfl ?_
    refine zV_callV (As := []) lk6_344 (rfl) rfl rfl (c6_oddNow (n := n) 11 0 i0.1.1.2.2.1 i0.1.1.1 i0.2.1.1) ⟨by show _ + 1 ≤ 12; omega, by show _ ≤ 4; omega⟩ rfl (Nat.le_of_ble_eq_true rfl) dX6_count_113 (fun _ _ z => z.elim) (fun r h9 q => ?_)
    obtain ⟨rfl, hh⟩ := q
    rw [hh]
    clear hh
    exact zV_ireturn dX6_count_116 rfl (Nat.zero_le _) (mA_ok q0 z0 (by rw [if_pos (by omega)]) (by rw [hv6, e0 80 (by decide)]; rfl))
  · refine zV_teq (congrArg ziv hv6.symm) ?_
    refine zV_tableIn (off := 111) (tgt := 117) dX6_count_6 (by decide) (by decide) (by decide) (by decide) ?_
    refine zV_aload_nr dX6_count_117 rfl rfl ?_
    refine zV_callV (As := []) lk6_379 (rfl) rfl rfl (c6_gapNow (n := n) 11 0 (by decide) i0.1.1.2.2.1 i0.1.1.1 i0.2.1.1) ⟨by show _ + 1 ≤ 12; omega, by show _ ≤ 4; omega⟩ rfl (Nat.le_of_ble_eq_true rfl) dX6_count_118 (fun _ _ z => z.elim) (fun r h9 q => ?_)
    obtain ⟨rfl, hh⟩ := q
    rw [hh]
    clear hh
    exact zV_ireturn dX6_count_121 rfl (Nat.zero_le _) (mA_ok q0 z0 (by rw [if_pos (by omega)]) (by rw [hv6, e0 80 (by decide)]; rfl))
  · refine zV_teq (congrArg ziv hv6.symm) ?_
    refine zV_tableIn (off := 116) (tgt := 122) dX6_count_6 (by decide) (by decide) (by decide) (by decide) ?_
    refine zV_aload_nr dX6_count_122 rfl rfl ?_
    refine gf6_316 rfl rfl dX6_count_123 ?_
    exact zV_ireturn dX6_count_126 rfl (Nat.zero_le _) (mA_ok q0 z0 (by rw [if_pos (by omega)]) (by rw [hv6, e4 35 (by decide)]; rfl))
  · refine zV_teq (congrArg ziv hv6.symm) ?_
    refine zV_tableIn (off := 121) (tgt := 127) dX6_count_6 (by decide) (by decide) (by decide) (by decide) ?_
    refine zV_aload_nr dX6_count_127 rfl rfl ?_
    refine gf6_319 rfl rfl dX6_count_128 ?_
    exact zV_ireturn dX6_count_131 rfl (Nat.zero_le _) (mA_ok q0 z0 (by rw [if_pos (by omega)]) (by rw [hv6, e4 36 (by decide)]; rfl))
  · refine zV_teq (congrArg ziv hv6.symm) ?_
    refine zV_tableIn (off := 126) (tgt := 132) dX6_count_6 (by decide) (by decide) (by decide) (by decide) ?_
    refine zV_aload_nr dX6_count_132 rfl rfl ?_
    refine gf6_168 rfl rfl dX6_count_133 ?_
    exact zV_ireturn dX6_count_136 rfl (Nat.zero_le _) (mA_ok q0 z0 (by rw [if_pos (by omega)]) (by rw [hv6, e4 17 (by decide)]; rfl))
  · refine zV_teq (congrArg ziv hv6.symm) ?_
    refine zV_tableIn (off := 131) (tgt := 137) dX6_count_6 (by decide) (by decide) (by decide) (by decide) ?_
    refine zV_aload_nr dX6_count_137 rfl rfl ?_
    refine gf6_70 rfl (rfl) dX6_count_138 ?_
    refine zV_teq (w := zrv E 77) rfl ?_
    refine zV_iload_n dX6_count_141 rfl rfl ?_
    refine zV_bipush dX6_count_142 (by decide) ?_
    refine zV_isub dX6_count_144 ?_
    refine zV_iaload (N := 3) (rfl) (by omega) (by decide) dX6_count_145 ?_
    exact zV_ireturn dX6_count_146 rfl (Nat.zero_le _) (mA_ok q0 z0 (by rw [if_pos (by omega)]) (by rw [hv6, e0 77 (by decide)]; rfl))
  · refine zV_teq (congrArg ziv hv6.symm) ?_
    refine zV_tableIn (off := 131) (tgt := 137) dX6_count_6 (by decide) (by decide) (by decide) (by decide) ?_
    refine zV_aload_nr dX6_count_137 rfl rfl ?_
    refine gf6_70 rfl (rfl) dX6_count_138 ?_
    refine zV_teq (w := zrv E 77) rfl ?_
    refine zV_iload_n dX6_count_141 rfl rfl ?_
    refine zV_bipush dX6_count_142 (by decide) ?_
    refine zV_isub dX6_count_144 ?_
    refine zV_iaload (N := 3) (rfl) (by omega) (by decide) dX6_count_145 ?_
    exact zV_ireturn dX6_count_146 rfl (Nat.zero_le _) (mA_ok q0 z0 (by rw [if_pos (by omega)]) (by rw [hv6, e0 77 (by decide)]; rfl))
  · refine zV_teq (congrArg ziv hv6.symm) ?_
    refine zV_tableIn (off := 131) (tgt := 137) dX6_count_6 (by decide) (by decide) (by decide) (by decide) ?_
    refine zV_aload_nr dX6_count_137 rfl rfl ?_
    refine gf6_70 rfl (rfl) dX6_count_138 ?_
    refine zV_teq (w := zrv E 77) rfl ?_
    refine zV_iload_n dX6_count_141 rfl rfl ?_
    refine zV_bipush dX6_count_142 (by decide) ?_
    refine zV_isub dX6_count_144 ?_
    refine zV_iaload (N := 3) (rfl) (by omega) (by decide) dX6_count_145 ?_
    exact zV_ireturn dX6_count_146 rfl (Nat.zero_le _) (mA_ok q0 z0 (by rw [if_pos (by omega)]) (by rw [hv6, e0 77 (by decide)]; rfl))
  · refine zV_tableOut (tgt := 147) dX6_count_6 (by rw [zn_of (by omega) (by omega)]; omega) (by decide) ?_
    refine zV_aload_nr dX6_count_147 rfl rfl ?_
    refine zV_iconst dX6_count_148 ?_
    refine zV_callV (As := [ziv 1]) lk6_300 (rfl) rfl rfl (c6_fail 11 0) ⟨by show _ + 1 ≤ 12; omega, by show _ ≤ 4; omega⟩ rfl (Nat.le_of_ble_eq_true rfl) dX6_count_149 (fun _ _ z => z.elim) (fun r h9 q => ?_)
    obtain ⟨rfl, hh⟩ := q
    rw [hh]
    clear hh
    exact zV_ireturn dX6_count_152 rfl (Nat.zero_le _) (mA_f q0 (by decide) (by rw [if_neg (by omega)]))
set_option maxRecDepth 100000 in
theorem c6_leaf {E : zE} {h : zH} {n jn : Nat} {x w : Int} (hx : -2147483648 ≤ x ∧ x ≤ 2147483647) (hw : -2147483648 ≤ w ∧ w ≤ 2147483647) (hm : mInv h n jn) : zCal E mX6_leaf 12 4 [zrv E 64, ziv x, ziv w] h (mA h (if (0 ≤ x ∧ x < n) ∧ (0 ≤ w ∧ w ≤ 1) then 0 else 1) (if w = 0 then h 80 x.toNat else h 70 x.toNat)) (fun _ _ => False) := by
  refine zCal_of (by decide) (Nat.le_of_ble_eq_true rfl) (fun a => ?_)
  show zV _ 0 0 [zrv E 64, ziv x, ziv w] [] _
  refine zV_aload_nr dX6_leaf_0 rfl rfl ?_
  refine zV_iconst dX6_leaf_1 ?_
  refine pf6_157 rfl (rfl) dX6_leaf_2 ?_
  obtain ⟨h0, hh0, q0, z0, i0, e0, e4, r0, g0⟩ := st0 hm
  rw [hh0]
  refine zV_aload_nr dX6_leaf_5 rfl rfl ?_
  refine zV_iload_n dX6_leaf_6 rfl rfl ?_
  refine zV_callV (As := [ziv x]) lk6_382 (rfl) rfl rfl (c6_isLeaf (jn := jn) 11 0 (by decide) hx i0.1.1.2.2.1 i0.1.1.1) ⟨by show _ + 1 ≤ 12; omega, by show _ ≤ 4; omega⟩ rfl (Nat.le_of_ble_eq_true rfl) dX6_leaf_7 (fun _ _ z => z.elim) (fun r h9 q => ?_)
  obtain ⟨rfl, hh⟩ := q
  rw [hh]
  clear hh
  refine zR_if_eq (tgt := 23) dX6_leaf_10 (by decide) (by split <;> omega) (fun h10 => ?_) (fun h10 => ?_)
  · have n10 := ipF h10
    refine zV_aload_nr dX6_leaf_23 rfl rfl ?_
    refine zV_iconst dX6_leaf_24 ?_
    refine zV_callV (As := [ziv 1]) lk6_300 (rfl) rfl rfl (c6_fail 11 0) ⟨by show _ + 1 ≤ 12; omega, by show _ ≤ 4; omega⟩ rfl (Nat.le_of_ble_eq_true rfl) dX6_leaf_25 (fun _ _ z => z.elim) (fun r h9 q => ?_)
    obtain ⟨rfl, hh⟩ := q
    rw [hh]
    clear hh
    exact zV_ireturn dX6_leaf_28 rfl (Nat.zero_le _) (mA_f q0 (by decide) (by rw [if_neg (by omega)]))
  · have y10 := ipT h10
    refine zV_iload_n dX6_leaf_13 rfl rfl ?_
    refine zV_i2l dX6_leaf_14 (by omega) ?_
    refine zV_lconst dX6_leaf_15 ?_
    refine zV_lconst dX6_leaf_16 ?_
    refine zV_callS (As := [zlv w, zlv ((0 : Nat) : Int), zlv ((1 : Nat) : Int)]) lk6_160 (c6_isIn 11 0 (by omega) (by omega) (by omega)) ⟨by show _ + 1 ≤ 12; omega, by show _ ≤ 4; omega⟩ rfl (Nat.le_of_ble_eq_true rfl) dX6_leaf_17 (fun _ _ z => z.elim) (fun r h9 q => ?_)
    obtain ⟨rfl, hh⟩ := q
    rw [hh]
    clear hh
    refine zR_if_ne (tgt := 29) dX6_leaf_20 (by decide) (by split <;> omega) (fun h20 => ?_) (fun h20 => ?_)
    · have y20 := ipT h20
      refine zV_iload_n dX6_leaf_29 rfl rfl ?_
      refine zR_if_ne (tgt := 42) dX6_leaf_30 (by decide) (by omega) (fun h30 => ?_) (fun h30 => ?_)
      · have n8 := i0.1.1.1
        refine zV_aload_nr dX6_leaf_42 rfl rfl ?_
        refine gf6_49 rfl (rfl) dX6_leaf_43 ?_
        refine zV_teq (w := zrv E 70) rfl ?_
        refine zV_iload_n dX6_leaf_46 rfl rfl ?_
        refine zV_iaload (N := 16) (rfl) (by omega) (by decide) dX6_leaf_47 ?_
        exact zV_ireturn dX6_leaf_48 rfl (Nat.zero_le _) (mA_ok q0 z0 (by rw [if_pos (by omega)]) (by rw [if_neg h30, e0 70 (by decide)]))
      · have n8 := i0.1.1.1
        refine zV_aload_nr dX6_leaf_33 rfl rfl ?_
        refine gf6_82 rfl (rfl) dX6_leaf_34 ?_
        refine zV_teq (w := zrv E 80) rfl ?_
        refine zV_iload_n dX6_leaf_37 rfl rfl ?_
        refine zV_iaload (N := 8) (rfl) (by omega) (by decide) dX6_leaf_38 ?_
        refine zV_goto (tgt := 48) dX6_leaf_39 (by decide) ?_
        exact zV_ireturn dX6_leaf_48 rfl (Nat.zero_le _) (mA_ok q0 z0 (by rw [if_pos (by omega)]) (by rw [if_pos h30, e0 80 (by decide)]))
    · have n20 := ipF h20
      refine zV_aload_nr dX6_leaf_23 rfl rfl ?_
      refine zV_iconst dX6_leaf_24 ?_
      refine zV_callV (As := [ziv 1]) lk6_300 (rfl) rfl rfl (c6_fail 11 0) ⟨by show _ + 1 ≤ 12; omega, by show _ ≤ 4; omega⟩ rfl (Nat.le_of_ble_eq_true rfl) dX6_leaf_25 (fun _ _ z => z.elim) (fun r h9 q => ?_)
      obtain ⟨rfl, hh⟩ := q
      rw [hh]
      clear hh
      exact zV_ireturn dX6_leaf_28 rfl (Nat.zero_le _) (mA_f q0 (by decide) (by rw [if_neg (by omega)]))
set_option maxRecDepth 100000 in
theorem c6_judge {E : zE} {h : zH} {n jn : Nat} {x w : Int} (hx : -2147483648 ≤ x ∧ x ≤ 2147483647) (hw : -2147483648 ≤ w ∧ w ≤ 2147483647) (hm : mInv h n jn) : zCal E mX6_judge 12 4 [zrv E 64, ziv x, ziv w] h (mA h (if (0 ≤ x ∧ x < jn) ∧ (0 ≤ w ∧ w ≤ 5) then 0 else 1) (judM h jn x w)) (fun _ _ => False) := by
  refine zCal_of (by decide) (Nat.le_of_ble_eq_true rfl) (fun a => ?_)
  show zV _ 0 0 [zrv E 64, ziv x, ziv w] [] _
  refine zV_aload_nr dX6_judge_0 rfl rfl ?_
  refine zV_iconst dX6_judge_1 ?_
  refine pf6_157 rfl (rfl) dX6_judge_2 ?_
  obtain ⟨h0, hh0, q0, z0, i0, e0, e4, r0, g0⟩ := st0 hm
  rw [hh0]
  refine zV_aload_nr dX6_judge_5 rfl rfl ?_
  refine zV_iload_n dX6_judge_6 rfl rfl ?_
  refine zV_callV (As := [ziv x]) lk6_385 (rfl) rfl rfl (c6_isJudge (jn := jn) 11 0 (by decide) hx i0.1.1.2.2.2 i0.1.1.2.1) ⟨by show _ + 1 ≤ 12; omega, by show _ ≤ 4; omega⟩ rfl (Nat.le_of_ble_eq_true rfl) dX6_judge_7 (fun _ _ z => z.elim) (fun r h9 q => ?_)
  obtain ⟨rfl, hh⟩ := q
  rw [hh]
  clear hh
  refine zR_if_ne (tgt := 19) dX6_judge_10 (by decide) (by split <;> omega) (fun h10 => ?_) (fun h10 => ?_)
  · have y10 := ipT h10
    have j8 := i0.1.1.2.1
    refine zV_iload_n dX6_judge_19 rfl rfl ?_
    rcases (show w = 0 ∨ w = 1 ∨ w = 2 ∨ w = 3 ∨ w = 4 ∨ w = 5 ∨ (w < 0 ∨ 5 < w) by omega) with hv20 | hv20 | hv20 | hv20 | hv20 | hv20 | hv20
    · refine zV_teq (congrArg ziv hv20.symm) ?_
      refine zV_tableIn (off := 40) (tgt := 60) dX6_judge_20 (by decide) (by decide) (by decide) (by decide) ?_
      refine zV_aload_nr dX6_judge_60 rfl rfl ?_
      refine gf6_73 rfl (rfl) dX6_judge_61 ?_
      refine zV_teq (w := zrv E 78) rfl ?_
      refine zV_iload_n dX6_judge_64 rfl rfl ?_
      refine zV_iaload (N := 8) (rfl) (by omega) (by decide) dX6_judge_65 ?_
      exact zV_ireturn dX6_judge_66 rfl (Nat.zero_le _) (mA_ok q0 z0 (by rw [if_pos (by omega)]) (by rw [hv20, e0 78 (by decide)]; rfl))
    · refine zV_teq (congrArg ziv hv20.symm) ?_
      refine zV_tableIn (off := 47) (tgt := 67) dX6_judge_20 (by decide) (by decide) (by decide) (by decide) ?_
      refine zV_aload_nr dX6_judge_67 rfl rfl ?_
      refine gf6_88 rfl (rfl) dX6_judge_68 ?_
      refine zV_teq (w := zrv E 82) rfl ?_
      refine zV_iload_n dX6_judge_71 rfl rfl ?_
      refine zV_iaload (N := 8) (rfl) (by omega) (by decide) dX6_judge_72 ?_
      exact zV_ireturn dX6_judge_73 rfl (Nat.zero_le _) (mA_ok q0 z0 (by rw [if_pos (by omega)]) (by rw [hv20, e0 82 (by decide)]; rfl))
    · refine zV_teq (congrArg ziv hv20.symm) ?_
      refine zV_tableIn (off := 54) (tgt := 74) dX6_judge_20 (by decide) (by decide) (by decide) (by decide) ?_
      refine zV_aload_nr dX6_judge_74 rfl rfl ?_
      refine gf6_61 rfl (rfl) dX6_judge_75 ?_
      refine zV_teq (w := zrv E 74) rfl ?_
      refine zV_iload_n dX6_judge_78 rfl rfl ?_
      refine zV_iaload (N := 16) (rfl) (by omega) (by decide) dX6_judge_79 ?_
      exact zV_ireturn dX6_judge_80 rfl (Nat.zero_le _) (mA_ok q0 z0 (by rw [if_pos (by omega)]) (by rw [hv20, e0 74 (by decide)]; rfl))
    · refine zV_teq (congrArg ziv hv20.symm) ?_
      refine zV_tableIn (off := 61) (tgt := 81) dX6_judge_20 (by decide) (by decide) (by decide) (by decide) ?_
      refine zV_aload_nr dX6_judge_81 rfl rfl ?_
      refine zV_iload_n dX6_judge_82 rfl rfl ?_
      refine zV_callV (As := [ziv x]) lk6_388 (rfl) rfl rfl (c6_seatOf (jn := jn) 11 0 hx i0.1.1.2.2.2 i0.1.1.2.1 i0.2.1.2.2.2.1) ⟨by show _ + 1 ≤ 12; omega, by show _ ≤ 4; omega⟩ rfl (Nat.le_of_ble_eq_true rfl) dX6_judge_83 (fun _ _ z => z.elim) (fun r h9 q => ?_)
      obtain ⟨rfl, hh⟩ := q
      rw [hh]
      clear hh
      exact zV_ireturn dX6_judge_86 rfl (Nat.zero_le _) (mA_ok q0 z0 (by rw [if_pos (by omega)]) (by rw [hv20, e0 81 (by decide)]; rfl))
    · refine zV_teq (congrArg ziv hv20.symm) ?_
      refine zV_tableIn (off := 67) (tgt := 87) dX6_judge_20 (by decide) (by decide) (by decide) (by decide) ?_
      refine zV_aload_nr dX6_judge_87 rfl rfl ?_
      refine gf6_52 rfl (rfl) dX6_judge_88 ?_
      refine zV_teq (w := zrv E 71) rfl ?_
      refine zV_iload_n dX6_judge_91 rfl rfl ?_
      refine zV_iaload (N := 16) (rfl) (by omega) (by decide) dX6_judge_92 ?_
      exact zV_ireturn dX6_judge_93 rfl (Nat.zero_le _) (mA_ok q0 z0 (by rw [if_pos (by omega)]) (by rw [hv20, e0 71 (by decide)]; rfl))
    · refine zV_teq (congrArg ziv hv20.symm) ?_
      refine zV_tableIn (off := 74) (tgt := 94) dX6_judge_20 (by decide) (by decide) (by decide) (by decide) ?_
      refine zV_aload_nr dX6_judge_94 rfl rfl ?_
      refine zV_iload_n dX6_judge_95 rfl rfl ?_
      refine zV_teq (w := ziv ((x.toNat : Nat) : Int)) (congrArg ziv (by omega)) ?_
      refine zV_callV (As := [ziv ((x.toNat : Nat) : Int)]) lk6_391 (rfl) rfl rfl (c6_partyOf (jn := jn) 11 0 i0.1.1.2.2.2 i0.1.1.2.1 (by omega) i0.1.2.2.2.1) ⟨by show _ + 1 ≤ 12; omega, by show _ ≤ 4; omega⟩ rfl (Nat.le_of_ble_eq_true rfl) dX6_judge_96 (fun _ _ z => z.elim) (fun r h9 q => ?_)
      obtain ⟨rfl, hh⟩ := q
      rw [hh]
      clear hh
      exact zV_ireturn dX6_judge_99 rfl (Nat.zero_le _) (mA_ok q0 z0 (by rw [if_pos (by omega)]) (by rw [hv20, e0 74 (by decide)]; rfl))
    · refine zV_tableOut (tgt := 100) dX6_judge_20 (by rw [zn_of (by omega) (by omega)]; omega) (by decide) ?_
      refine zV_aload_nr dX6_judge_100 rfl rfl ?_
      refine zV_iconst dX6_judge_101 ?_
      refine zV_callV (As := [ziv 1]) lk6_300 (rfl) rfl rfl (c6_fail 11 0) ⟨by show _ + 1 ≤ 12; omega, by show _ ≤ 4; omega⟩ rfl (Nat.le_of_ble_eq_true rfl) dX6_judge_102 (fun _ _ z => z.elim) (fun r h9 q => ?_)
      obtain ⟨rfl, hh⟩ := q
      rw [hh]
      clear hh
      exact zV_ireturn dX6_judge_105 rfl (Nat.zero_le _) (mA_f q0 (by decide) (by rw [if_neg (by omega)]))
  · have n10 := ipF h10
    refine zV_aload_nr dX6_judge_13 rfl rfl ?_
    refine zV_iconst dX6_judge_14 ?_
    refine zV_callV (As := [ziv 1]) lk6_300 (rfl) rfl rfl (c6_fail 11 0) ⟨by show _ + 1 ≤ 12; omega, by show _ ≤ 4; omega⟩ rfl (Nat.le_of_ble_eq_true rfl) dX6_judge_15 (fun _ _ z => z.elim) (fun r h9 q => ?_)
    obtain ⟨rfl, hh⟩ := q
    rw [hh]
    clear hh
    exact zV_ireturn dX6_judge_18 rfl (Nat.zero_le _) (mA_f q0 (by decide) (by rw [if_neg (by omega)]))
set_option maxRecDepth 100000 in
theorem c6_seat {E : zE} {h : zH} {n jn : Nat} {x : Int} (hx : -2147483648 ≤ x ∧ x ≤ 2147483647) (hm : mInv h n jn) : zCal E mX6_seat 12 4 [zrv E 64, ziv x] h (mA h (if 0 ≤ x ∧ x < jn then 0 else 1) (h 81 x.toNat)) (fun _ _ => False) := by
  refine zCal_of (by decide) (Nat.le_of_ble_eq_true rfl) (fun a => ?_)
  show zV _ 0 0 [zrv E 64, ziv x] [] _
  refine zV_aload_nr dX6_seat_0 rfl rfl ?_
  refine zV_iconst dX6_seat_1 ?_
  refine pf6_157 rfl (rfl) dX6_seat_2 ?_
  obtain ⟨h0, hh0, q0, z0, i0, e0, e4, r0, g0⟩ := st0 hm
  rw [hh0]
  refine zV_aload_nr dX6_seat_5 rfl rfl ?_
  refine zV_iload_n dX6_seat_6 rfl rfl ?_
  refine zV_callV (As := [ziv x]) lk6_385 (rfl) rfl rfl (c6_isJudge (jn := jn) 11 0 (by decide) hx i0.1.1.2.2.2 i0.1.1.2.1) ⟨by show _ + 1 ≤ 12; omega, by show _ ≤ 4; omega⟩ rfl (Nat.le_of_ble_eq_true rfl) dX6_seat_7 (fun _ _ z => z.elim) (fun r h9 q => ?_)
  obtain ⟨rfl, hh⟩ := q
  rw [hh]
  clear hh
  refine zR_if_eq (tgt := 22) dX6_seat_10 (by decide) (by split <;> omega) (fun h10 => ?_) (fun h10 => ?_)
  · have n10 := ipF h10
    refine zV_aload_nr dX6_seat_22 rfl rfl ?_
    refine zV_iconst dX6_seat_23 ?_
    refine zV_callV (As := [ziv 1]) lk6_300 (rfl) rfl rfl (c6_fail 11 0) ⟨by show _ + 1 ≤ 12; omega, by show _ ≤ 4; omega⟩ rfl (Nat.le_of_ble_eq_true rfl) dX6_seat_24 (fun _ _ z => z.elim) (fun r h9 q => ?_)
    obtain ⟨rfl, hh⟩ := q
    rw [hh]
    clear hh
    exact zV_ireturn dX6_seat_27 rfl (Nat.zero_le _) (mA_f q0 (by decide) (by rw [if_neg (by omega)]))
  · have y10 := ipT h10
    have j8 := i0.1.1.2.1
    refine zV_aload_nr dX6_seat_13 rfl rfl ?_
    refine gf6_85 rfl (rfl) dX6_seat_14 ?_
    refine zV_teq (w := zrv E 81) rfl ?_
    refine zV_iload_n dX6_seat_17 rfl rfl ?_
    refine zV_iaload (N := 8) (rfl) (by omega) (by decide) dX6_seat_18 ?_
    refine zV_goto (tgt := 27) dX6_seat_19 (by decide) ?_
    exact zV_ireturn dX6_seat_27 rfl (Nat.zero_le _) (mA_ok q0 z0 (by rw [if_pos (by omega)]) (by rw [e0 81 (by decide)]))
set_option maxRecDepth 100000 in
theorem c6_heap {E : zE} {h : zH} {n jn : Nat} {x : Int} (hx : -2147483648 ≤ x ∧ x ≤ 2147483647) (hm : mInv h n jn) : zCal E mX6_heap 12 4 [zrv E 64, ziv x] h (mA h (if 0 ≤ x ∧ x < 12 then 0 else 1) ((ptN (h 80) x n : Int))) (fun _ _ => False) := by
  refine zCal_of (by decide) (Nat.le_of_ble_eq_true rfl) (fun a => ?_)
  show zV _ 0 0 [zrv E 64, ziv x] [] _
  refine zV_aload_nr dX6_heap_0 rfl rfl ?_
  refine zV_iconst dX6_heap_1 ?_
  refine pf6_157 rfl (rfl) dX6_heap_2 ?_
  obtain ⟨h0, hh0, q0, z0, i0, e0, e4, r0, g0⟩ := st0 hm
  rw [hh0]
  refine zV_iload_n dX6_heap_5 rfl rfl ?_
  refine zV_callS (As := [ziv x]) lk6_394 (c6_isPlace 11 0 (by decide) hx) ⟨by show _ + 1 ≤ 12; omega, by show _ ≤ 4; omega⟩ rfl (Nat.le_of_ble_eq_true rfl) dX6_heap_6 (fun _ _ z => z.elim) (fun r h9 q => ?_)
  obtain ⟨rfl, hh⟩ := q
  rw [hh]
  clear hh
  refine zR_if_eq (tgt := 20) dX6_heap_9 (by decide) (by split <;> omega) (fun h9 => ?_) (fun h9 => ?_)
  · have n9 := ipF h9
    refine zV_aload_nr dX6_heap_20 rfl rfl ?_
    refine zV_iconst dX6_heap_21 ?_
    refine zV_callV (As := [ziv 1]) lk6_300 (rfl) rfl rfl (c6_fail 11 0) ⟨by show _ + 1 ≤ 12; omega, by show _ ≤ 4; omega⟩ rfl (Nat.le_of_ble_eq_true rfl) dX6_heap_22 (fun _ _ z => z.elim) (fun r h9 q => ?_)
    obtain ⟨rfl, hh⟩ := q
    rw [hh]
    clear hh
    exact zV_ireturn dX6_heap_25 rfl (Nat.zero_le _) (mA_f q0 (by decide) (by rw [if_neg (by omega)]))
  · have y9 := ipT h9
    refine zV_aload_nr dX6_heap_12 rfl rfl ?_
    refine zV_iload_n dX6_heap_13 rfl rfl ?_
    refine zV_callV (As := [ziv x]) lk6_329 (rfl) rfl rfl (c6_heapAt (n := n) 11 0 hx i0.1.1.2.2.1 i0.1.1.1 i0.2.1.1) ⟨by show _ + 1 ≤ 12; omega, by show _ ≤ 4; omega⟩ rfl (Nat.le_of_ble_eq_true rfl) dX6_heap_14 (fun _ _ z => z.elim) (fun r h9 q => ?_)
    obtain ⟨rfl, hh⟩ := q
    rw [hh]
    clear hh
    refine zV_goto (tgt := 25) dX6_heap_17 (by decide) ?_
    exact zV_ireturn dX6_heap_25 rfl (Nat.zero_le _) (mA_ok q0 z0 (by rw [if_pos (by omega)]) (by rw [e0 80 (by decide)]))
set_option maxRecDepth 100000 in
theorem c6_weight {E : zE} {h : zH} {n jn : Nat} {x : Int} (hx : -2147483648 ≤ x ∧ x ≤ 2147483647) (hm : mInv h n jn) : zCal E mX6_weight 12 4 [zrv E 64, ziv x] h (mA h (if 0 ≤ x ∧ x < 12 then 0 else 1) (wtS (h 80) (h 70) x n)) (fun _ _ => False) := by
  refine zCal_of (by decide) (Nat.le_of_ble_eq_true rfl) (fun a => ?_)
  show zV _ 0 0 [zrv E 64, ziv x, .null, .null] [] _
  refine zV_aload_nr dX6_weight_0 rfl rfl ?_
  refine zV_iconst dX6_weight_1 ?_
  refine pf6_157 rfl (rfl) dX6_weight_2 ?_
  obtain ⟨h0, hh0, q0, z0, i0, e0, e4, r0, g0⟩ := st0 hm
  rw [hh0]
  refine zV_iload_n dX6_weight_5 rfl rfl ?_
  refine zV_callS (As := [ziv x]) lk6_394 (c6_isPlace 11 0 (by decide) hx) ⟨by show _ + 1 ≤ 12; omega, by show _ ≤ 4; omega⟩ rfl (Nat.le_of_ble_eq_true rfl) dX6_weight_6 (fun _ _ z => z.elim) (fun r h9 q => ?_)
  obtain ⟨rfl, hh⟩ := q
  rw [hh]
  clear hh
  refine zR_if_ne (tgt := 18) dX6_weight_9 (by decide) (by split <;> omega) (fun h9 => ?_) (fun h9 => ?_)
  · have y9 := ipT h9
    refine zV_iconst dX6_weight_18 ?_
    refine zV_istore_n dX6_weight_19 rfl (Nat.le_of_ble_eq_true rfl) rfl ?_
    refine zV_iconst dX6_weight_20 ?_
    refine zV_istore_n dX6_weight_21 rfl (Nat.le_of_ble_eq_true rfl) rfl ?_
    have L22 : ∀ (m : Nat) (s : Nat), (n + 1 ≤ s + m) → (s ≤ n) → zV (E, mX6_weight, 12, 4, (mA h (if 0 ≤ x ∧ x < 12 then 0 else 1) (wtS (h 80) (h 70) x n)), (fun _ _ => False), a) 0 22 [zrv E 64, ziv x, ziv (wtS (h0 80) (h0 70) x s), ziv (s : Int)] [] h0 := by
      intro m
      induction m with
      | zero => intro s hm_ hs; exfalso; omega
      | succ m ih =>
        intro s hm_ hs
        have n8 := i0.1.1.1
        refine zV_iload_n dX6_weight_22 rfl rfl ?_
        refine zV_aload_nr dX6_weight_23 rfl rfl ?_
        refine gf6_42 rfl (rfl) dX6_weight_24 ?_
        refine zV_teq (w := zrv E 68) rfl ?_
        refine zV_iconst dX6_weight_27 ?_
        refine zV_ialoadN (i := 0) (N := 10) (rfl) (by decide) (by decide) dX6_weight_28 ?_
        rw [i0.1.1.2.2.1]
        refine zR_icmp_ge (tgt := 61) dX6_weight_29 (by decide) (by omega) (by omega) (fun h29 => ?_) (fun h29 => ?_)
        · refine zV_iload_n dX6_weight_61 rfl rfl ?_
          exact zV_ireturn dX6_weight_62 rfl (Nat.zero_le _) (mA_ok q0 z0 (by rw [if_pos (by omega)]) (by rw [e0 80 (by decide), e0 70 (by decide), show n = s by omega]))
        · refine zV_iload_n dX6_weight_32 rfl rfl ?_
          refine zV_aload_nr dX6_weight_33 rfl rfl ?_
          refine gf6_82 rfl (rfl) dX6_weight_34 ?_
          refine zV_teq (w := zrv E 80) rfl ?_
          refine zV_iload_n dX6_weight_37 rfl rfl ?_
          refine zV_ialoadN (i := s) (N := 8) (rfl) (by omega) (by decide) dX6_weight_38 ?_
          have d1 := i0.2.1.1 s (by omega)
          refine zV_iload_n dX6_weight_39 rfl rfl ?_
          refine zR_icmp_ne (tgt := 52) dX6_weight_40 (by decide) (by omega) (by omega) (fun h40 => ?_) (fun h40 => ?_)
          · refine zV_iconst dX6_weight_52 ?_
            refine zV_iadd dX6_weight_53 ?_
            refine zV_istore_n dX6_weight_54 rfl (Nat.le_of_ble_eq_true rfl) rfl ?_
            refine zV_iinc dX6_weight_55 rfl (Nat.le_of_ble_eq_true rfl) rfl ?_
            refine zV_goto (tgt := 22) dX6_weight_58 (by decide) ?_
            refine zV_lveq (lv' := [zrv E 64, ziv x, ziv (wtS (h0 80) (h0 70) x (s + 1)), ziv ((s : Int) + 1)]) (by show _ = [zrv E 64, ziv x, ziv (wtS (h0 80) (h0 70) x s + 0), ziv ((s : Int) + 1)]; rw [show wtS (h0 80) (h0 70) x (s + 1) = (wtS (h0 80) (h0 70) x s + 0) from (if_neg h40).trans (Int.add_zero _).symm]) ?_
            exact ih (s + 1) (by omega) (by omega)
          · refine zV_aload_nr dX6_weight_43 rfl rfl ?_
            refine gf6_49 rfl (rfl) dX6_weight_44 ?_
            refine zV_teq (w := zrv E 70) rfl ?_
            refine zV_iload_n dX6_weight_47 rfl rfl ?_
            refine zV_ialoadN (i := s) (N := 16) (rfl) (by omega) (by decide) dX6_weight_48 ?_
            refine zV_goto (tgt := 53) dX6_weight_49 (by decide) ?_
            refine zV_iadd dX6_weight_53 ?_
            refine zV_istore_n dX6_weight_54 rfl (Nat.le_of_ble_eq_true rfl) rfl ?_
            refine zV_iinc dX6_weight_55 rfl (Nat.le_of_ble_eq_true rfl) rfl ?_
            refine zV_goto (tgt := 22) dX6_weight_58 (by decide) ?_
            refine zV_lveq (lv' := [zrv E 64, ziv x, ziv (wtS (h0 80) (h0 70) x (s + 1)), ziv ((s : Int) + 1)]) (by show _ = [zrv E 64, ziv x, ziv (wtS (h0 80) (h0 70) x s + h0 70 s), ziv ((s : Int) + 1)]; rw [show wtS (h0 80) (h0 70) x (s + 1) = (wtS (h0 80) (h0 70) x s + h0 70 s) from if_pos h40]) ?_
            exact ih (s + 1) (by omega) (by omega)
    exact L22 (n + 1) 0 (by omega) (by omega)
  · have n9 := ipF h9
    refine zV_aload_nr dX6_weight_12 rfl rfl ?_
    refine zV_iconst dX6_weight_13 ?_
    refine zV_callV (As := [ziv 1]) lk6_300 (rfl) rfl rfl (c6_fail 11 0) ⟨by show _ + 1 ≤ 12; omega, by show _ ≤ 4; omega⟩ rfl (Nat.le_of_ble_eq_true rfl) dX6_weight_14 (fun _ _ z => z.elim) (fun r h9 q => ?_)
    obtain ⟨rfl, hh⟩ := q
    rw [hh]
    clear hh
    exact zV_ireturn dX6_weight_17 rfl (Nat.zero_le _) (mA_f q0 (by decide) (by rw [if_neg (by omega)]))
set_option maxRecDepth 100000 in
theorem c6_stir {E : zE} {h : zH} {n jn : Nat} {x y z : Int} (hx : -2147483648 ≤ x ∧ x ≤ 2147483647) (hy : -2147483648 ≤ y ∧ y ≤ 2147483647) (hz : -2147483648 ≤ z ∧ z ≤ 2147483647) (hm : mInv h n jn) : zCal E mX6_stir 12 4 [zrv E 64, ziv x, ziv y, ziv z] h (mA h (if (0 ≤ x ∧ x < jn) ∧ (0 ≤ y ∧ y < n) then (if 0 ≤ z ∧ z ≤ 99 then 0 else 2) else 1) (stirS (h 80 y.toNat) (pushS (h 82 x.toNat) z) (h 70 y.toNat))) (fun _ _ => False) := by
  refine zCal_of (by decide) (Nat.le_of_ble_eq_true rfl) (fun a => ?_)
  show zV _ 0 0 [zrv E 64, ziv x, ziv y, ziv z] [] _
  refine zV_aload_nr dX6_stir_0 rfl rfl ?_
  refine zV_iconst dX6_stir_1 ?_
  refine pf6_157 rfl (rfl) dX6_stir_2 ?_
  obtain ⟨h0, hh0, q0, z0, i0, e0, e4, r0, g0⟩ := st0 hm
  rw [hh0]
  refine zV_aload_nr dX6_stir_5 rfl rfl ?_
  refine zV_iload_n dX6_stir_6 rfl rfl ?_
  refine zV_callV (As := [ziv x]) lk6_385 (rfl) rfl rfl (c6_isJudge (jn := jn) 11 0 (by decide) hx i0.1.1.2.2.2 i0.1.1.2.1) ⟨by show _ + 1 ≤ 12; omega, by show _ ≤ 4; omega⟩ rfl (Nat.le_of_ble_eq_true rfl) dX6_stir_7 (fun _ _ z => z.elim) (fun r h9 q => ?_)
  obtain ⟨rfl, hh⟩ := q
  rw [hh]
  clear hh
  refine zR_if_eq (tgt := 21) dX6_stir_10 (by decide) (by split <;> omega) (fun h10 => ?_) (fun h10 => ?_)
  · have n10 := ipF h10
    refine zV_aload_nr dX6_stir_21 rfl rfl ?_
    refine zV_iconst dX6_stir_22 ?_
    refine zV_callV (As := [ziv 1]) lk6_300 (rfl) rfl rfl (c6_fail 11 0) ⟨by show _ + 1 ≤ 12; omega, by show _ ≤ 4; omega⟩ rfl (Nat.le_of_ble_eq_true rfl) dX6_stir_23 (fun _ _ z => z.elim) (fun r h9 q => ?_)
    obtain ⟨rfl, hh⟩ := q
    rw [hh]
    clear hh
    exact zV_ireturn dX6_stir_26 rfl (Nat.zero_le _) (mA_f q0 (by decide) (by rw [if_neg (by omega)]))
  · have y10 := ipT h10
    refine zV_aload_nr dX6_stir_13 rfl rfl ?_
    refine zV_iload_n dX6_stir_14 rfl rfl ?_
    refine zV_callV (As := [ziv y]) lk6_382 (rfl) rfl rfl (c6_isLeaf (jn := jn) 11 0 (by decide) hy i0.1.1.2.2.1 i0.1.1.1) ⟨by show _ + 1 ≤ 12; omega, by show _ ≤ 4; omega⟩ rfl (Nat.le_of_ble_eq_true rfl) dX6_stir_15 (fun _ _ z => z.elim) (fun r h9 q => ?_)
    obtain ⟨rfl, hh⟩ := q
    rw [hh]
    clear hh
    refine zR_if_ne (tgt := 27) dX6_stir_18 (by decide) (by split <;> omega) (fun h18 => ?_) (fun h18 => ?_)
    · have y18 := ipT h18
      refine zV_iload_n dX6_stir_27 rfl rfl ?_
      refine zV_i2l dX6_stir_28 (by omega) ?_
      refine zV_lconst dX6_stir_29 ?_
      refine zV_ldc2 (v := 99) kl6_417 dX6_stir_30 ?_
      refine zV_callS (As := [zlv z, zlv ((0 : Nat) : Int), zlv 99]) lk6_160 (c6_isIn 11 0 (by omega) (by omega) (by omega)) ⟨by show _ + 1 ≤ 12; omega, by show _ ≤ 4; omega⟩ rfl (Nat.le_of_ble_eq_true rfl) dX6_stir_33 (fun _ _ z => z.elim) (fun r h9 q => ?_)
      obtain ⟨rfl, hh⟩ := q
      rw [hh]
      clear hh
      refine zR_if_eq (tgt := 49) dX6_stir_36 (by decide) (by split <;> omega) (fun h36 => ?_) (fun h36 => ?_)
      · have n36 := ipF h36
        refine zV_aload_nr dX6_stir_49 rfl rfl ?_
        refine zV_iconst dX6_stir_50 ?_
        refine zV_callV (As := [ziv 2]) lk6_300 (rfl) rfl rfl (c6_fail 11 0) ⟨by show _ + 1 ≤ 12; omega, by show _ ≤ 4; omega⟩ rfl (Nat.le_of_ble_eq_true rfl) dX6_stir_51 (fun _ _ z => z.elim) (fun r h9 q => ?_)
        obtain ⟨rfl, hh⟩ := q
        rw [hh]
        clear hh
        exact zV_ireturn dX6_stir_54 rfl (Nat.zero_le _) (mA_f q0 (by decide) (by rw [if_pos (by omega), if_neg (by omega)]))
      · have y36 := ipT h36
        refine zV_lveq (lv' := [zrv E 64, ziv ((x.toNat : Nat) : Int), ziv ((y.toNat : Nat) : Int), ziv z]) (by rw [show ((x.toNat : Nat) : Int) = x by omega, show ((y.toNat : Nat) : Int) = y by omega]) ?_
        refine zV_aload_nr dX6_stir_39 rfl rfl ?_
        refine zV_iload_n dX6_stir_40 rfl rfl ?_
        refine zV_iload_n dX6_stir_41 rfl rfl ?_
        refine zV_iload_n dX6_stir_42 rfl rfl ?_
        refine zV_callV (As := [ziv ((x.toNat : Nat) : Int), ziv ((y.toNat : Nat) : Int), ziv z]) lk6_363 (rfl) rfl rfl (c6_stirred (n := n) (jn := jn) 11 0 (by decide) i0.1.1.2.1 i0.1.1.1 (by omega) (by omega) (i0.2.1.1 _ (by omega)) (i0.2.1.2.2.1 _ (by omega)) (i0.1.2.1 _ (by omega)) (by omega)) ⟨by show _ + 1 ≤ 12; omega, by show _ ≤ 4; omega⟩ rfl (Nat.le_of_ble_eq_true rfl) dX6_stir_43 (fun _ _ z => z.elim) (fun r h9 q => ?_)
        obtain ⟨rfl, hh⟩ := q
        rw [hh]
        clear hh
        refine zV_goto (tgt := 54) dX6_stir_46 (by decide) ?_
        exact zV_ireturn dX6_stir_54 rfl (Nat.zero_le _) (mA_ok q0 z0 (by rw [if_pos (by omega), if_pos (by omega)]) (by rw [e0 80 (by decide), e0 82 (by decide), e0 70 (by decide)]))
    · have n18 := ipF h18
      refine zV_aload_nr dX6_stir_21 rfl rfl ?_
      refine zV_iconst dX6_stir_22 ?_
      refine zV_callV (As := [ziv 1]) lk6_300 (rfl) rfl rfl (c6_fail 11 0) ⟨by show _ + 1 ≤ 12; omega, by show _ ≤ 4; omega⟩ rfl (Nat.le_of_ble_eq_true rfl) dX6_stir_23 (fun _ _ z => z.elim) (fun r h9 q => ?_)
      obtain ⟨rfl, hh⟩ := q
      rw [hh]
      clear hh
      exact zV_ireturn dX6_stir_26 rfl (Nat.zero_le _) (mA_f q0 (by decide) (by rw [if_neg (by omega)]))
set_option maxRecDepth 100000 in
theorem c6_apart {E : zE} {h : zH} {n jn : Nat} {x y : Int} (hx : -2147483648 ≤ x ∧ x ≤ 2147483647) (hy : -2147483648 ≤ y ∧ y ≤ 2147483647) (hm : mInv h n jn) : zCal E mX6_apart 12 4 [zrv E 64, ziv x, ziv y] h (mA h (if (0 ≤ x ∧ x < n) ∧ (0 ≤ y ∧ y < n) then 0 else 1) (min (if 0 ≤ h 80 x.toNat - h 80 y.toNat then h 80 x.toNat - h 80 y.toNat else -(h 80 x.toNat - h 80 y.toNat)) (12 - (if 0 ≤ h 80 x.toNat - h 80 y.toNat then h 80 x.toNat - h 80 y.toNat else -(h 80 x.toNat - h 80 y.toNat))))) (fun _ _ => False) := by
  refine zCal_of (by decide) (Nat.le_of_ble_eq_true rfl) (fun a => ?_)
  show zV _ 0 0 [zrv E 64, ziv x, ziv y, .null] [] _
  refine zV_aload_nr dX6_apart_0 rfl rfl ?_
  refine zV_iconst dX6_apart_1 ?_
  refine pf6_157 rfl (rfl) dX6_apart_2 ?_
  obtain ⟨h0, hh0, q0, z0, i0, e0, e4, r0, g0⟩ := st0 hm
  rw [hh0]
  refine zV_aload_nr dX6_apart_5 rfl rfl ?_
  refine zV_iload_n dX6_apart_6 rfl rfl ?_
  refine zV_callV (As := [ziv x]) lk6_382 (rfl) rfl rfl (c6_isLeaf (jn := jn) 11 0 (by decide) hx i0.1.1.2.2.1 i0.1.1.1) ⟨by show _ + 1 ≤ 12; omega, by show _ ≤ 4; omega⟩ rfl (Nat.le_of_ble_eq_true rfl) dX6_apart_7 (fun _ _ z => z.elim) (fun r h9 q => ?_)
  obtain ⟨rfl, hh⟩ := q
  rw [hh]
  clear hh
  refine zR_if_eq (tgt := 21) dX6_apart_10 (by decide) (by split <;> omega) (fun h10 => ?_) (fun h10 => ?_)
  · have n10 := ipF h10
    refine zV_aload_nr dX6_apart_21 rfl rfl ?_
    refine zV_iconst dX6_apart_22 ?_
    refine zV_callV (As := [ziv 1]) lk6_300 (rfl) rfl rfl (c6_fail 11 0) ⟨by show _ + 1 ≤ 12; omega, by show _ ≤ 4; omega⟩ rfl (Nat.le_of_ble_eq_true rfl) dX6_apart_23 (fun _ _ z => z.elim) (fun r h9 q => ?_)
    obtain ⟨rfl, hh⟩ := q
    rw [hh]
    clear hh
    exact zV_ireturn dX6_apart_26 rfl (Nat.zero_le _) (mA_f q0 (by decide) (by rw [if_neg (by omega)]))
  · have y10 := ipT h10
    refine zV_aload_nr dX6_apart_13 rfl rfl ?_
    refine zV_iload_n dX6_apart_14 rfl rfl ?_
    refine zV_callV (As := [ziv y]) lk6_382 (rfl) rfl rfl (c6_isLeaf (jn := jn) 11 0 (by decide) hy i0.1.1.2.2.1 i0.1.1.1) ⟨by show _ + 1 ≤ 12; omega, by show _ ≤ 4; omega⟩ rfl (Nat.le_of_ble_eq_true rfl) dX6_apart_15 (fun _ _ z => z.elim) (fun r h9 q => ?_)
    obtain ⟨rfl, hh⟩ := q
    rw [hh]
    clear hh
    refine zR_if_ne (tgt := 27) dX6_apart_18 (by decide) (by split <;> omega) (fun h18 => ?_) (fun h18 => ?_)
    · have y18 := ipT h18
      have n8 := i0.1.1.1
      have d1 := i0.2.1.1 x.toNat (by omega)
      have d2 := i0.2.1.1 y.toNat (by omega)
      refine zV_aload_nr dX6_apart_27 rfl rfl ?_
      refine gf6_82 rfl (rfl) dX6_apart_28 ?_
      refine zV_teq (w := zrv E 80) rfl ?_
      refine zV_iload_n dX6_apart_31 rfl rfl ?_
      refine zV_iaload (N := 8) (rfl) (by omega) (by decide) dX6_apart_32 ?_
      refine zV_aload_nr dX6_apart_33 rfl rfl ?_
      refine gf6_82 rfl (rfl) dX6_apart_34 ?_
      refine zV_teq (w := zrv E 80) rfl ?_
      refine zV_iload_n dX6_apart_37 rfl rfl ?_
      refine zV_iaload (N := 8) (rfl) (by omega) (by decide) dX6_apart_38 ?_
      refine zV_isub dX6_apart_39 ?_
      refine zV_callS (As := [ziv (h0 80 x.toNat - h0 80 y.toNat)]) lk6_458 (cJ_abs 11 0 (by omega)) ⟨by show _ + 1 ≤ 12; omega, by show _ ≤ 4; omega⟩ rfl (Nat.le_of_ble_eq_true rfl) dX6_apart_40 (fun _ _ z => z.elim) (fun r h9 q => ?_)
      obtain ⟨rfl, hh⟩ := q
      rw [hh]
      clear hh
      refine zV_istore_n dX6_apart_43 rfl (Nat.le_of_ble_eq_true rfl) rfl ?_
      refine zV_iload_n dX6_apart_44 rfl rfl ?_
      refine zV_bipush dX6_apart_45 (by decide) ?_
      refine zV_iload_n dX6_apart_47 rfl rfl ?_
      refine zV_isub dX6_apart_48 ?_
      refine zV_callS (As := [ziv (if 0 ≤ h0 80 x.toNat - h0 80 y.toNat then h0 80 x.toNat - h0 80 y.toNat else -(h0 80 x.toNat - h0 80 y.toNat)), ziv (12 - (if 0 ≤ h0 80 x.toNat - h0 80 y.toNat then h0 80 x.toNat - h0 80 y.toNat else -(h0 80 x.toNat - h0 80 y.toNat)))]) lk6_198 (cJ_min 11 0 (by split <;> omega) (by split <;> omega)) ⟨by show _ + 1 ≤ 12; omega, by show _ ≤ 4; omega⟩ rfl (Nat.le_of_ble_eq_true rfl) dX6_apart_49 (fun _ _ z => z.elim) (fun r h9 q => ?_)
      obtain ⟨rfl, hh⟩ := q
      rw [hh]
      clear hh
      exact zV_ireturn dX6_apart_52 rfl (Nat.zero_le _) (mA_ok q0 z0 (by rw [if_pos (by omega)]) (by rw [e0 80 (by decide)]))
    · have n18 := ipF h18
      refine zV_aload_nr dX6_apart_21 rfl rfl ?_
      refine zV_iconst dX6_apart_22 ?_
      refine zV_callV (As := [ziv 1]) lk6_300 (rfl) rfl rfl (c6_fail 11 0) ⟨by show _ + 1 ≤ 12; omega, by show _ ≤ 4; omega⟩ rfl (Nat.le_of_ble_eq_true rfl) dX6_apart_23 (fun _ _ z => z.elim) (fun r h9 q => ?_)
      obtain ⟨rfl, hh⟩ := q
      rw [hh]
      clear hh
      exact zV_ireturn dX6_apart_26 rfl (Nat.zero_le _) (mA_f q0 (by decide) (by rw [if_neg (by omega)]))
set_option maxRecDepth 100000 in
theorem c6_fault {E : zE} {h : zH} {n jn : Nat}  (hm : mInv h n jn) : zCal E mX6_fault 12 4 [zrv E 64] h (mA h (0) (h 64 26)) (fun _ _ => False) := by
  refine zCal_of (by decide) (Nat.le_of_ble_eq_true rfl) (fun a => ?_)
  show zV _ 0 0 [zrv E 64] [] _
  refine zV_aload_nr dX6_fault_0 rfl rfl ?_
  refine zV_iconst dX6_fault_1 ?_
  refine pf6_157 rfl (rfl) dX6_fault_2 ?_
  obtain ⟨h0, hh0, q0, z0, i0, e0, e4, r0, g0⟩ := st0 hm
  rw [hh0]
  refine zV_aload_nr dX6_fault_5 rfl rfl ?_
  refine gf6_78 rfl rfl dX6_fault_6 ?_
  exact zV_ireturn dX6_fault_9 rfl (Nat.zero_le _) (mA_ok q0 z0 rfl (e4 26 (by decide)))
