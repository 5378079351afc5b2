/-- an act is kept: the rows go round -/
def kept1 (h : zH) (h' : zH) : Prop := ∃ f old ac : Nat, h 31 2 = (old : Int) ∧ h 31 3 = (ac : Int) ∧ f = (if ac = 40 then (old + 40) % 40 else (old + ac) % 40) * 27 ∧ saved h f (zst h' 31 (h 31)) ∧
  h' 31 2 = (if ac = 40 then (((old + 1) % 40 : Nat) : Int) else (old : Int)) ∧ h' 31 3 = (if ac = 40 then 40 else ((ac + 1 : Nat) : Int)) ∧ h' 31 6 = h 31 6
/-- the last act is undone -/
def undone1 (h : zH) (h' : zH) : Prop := ∃ f old ac : Nat, h 31 2 = (old : Int) ∧ h 31 3 = ((ac + 1 : Nat) : Int) ∧ f = (old + ac) % 40 * 27 ∧ loaded h f (zst h' 31 (h 31)) ∧ h' 31 2 = (old : Int) ∧ h' 31 3 = (ac : Int) ∧ h' 31 6 = h 31 6
def maxS (f : Nat → Int) : Nat → Int
  | 0 => 0
  | n + 1 => max (maxS f n) (f n)
theorem maxS_lo {f : Nat → Int} : ∀ n, (∀ i, i < n → 1 ≤ f i ∧ f i ≤ 20) → 0 ≤ maxS f n ∧ maxS f n ≤ 20 := by
  intro n
  induction n with
  | zero => intro _; simp [maxS]
  | succ n ih => intro h; have h1 := ih (fun i hi => h i (by omega)); have h2 := h n (by omega); unfold maxS; omega
/-- nothing that is read of the k-th case gainsays the verdict -/
def couldB (rc rv : Nat → Int) (k v : Int) : Nat → Bool
  | 0 => true
  | n + 1 => couldB rc rv k v n && !(decide (rc n = k) && decide (rv n ≠ v))
theorem couldB_s (rc rv : Nat → Int) (k v : Int) (n : Nat) : couldB rc rv k v (n + 1) = (couldB rc rv k v n && !(decide (rc n = k) && decide (rv n ≠ v))) := rfl
theorem couldB_f {rc rv : Nat → Int} {k v : Int} {m : Nat} (h : couldB rc rv k v m = false) : ∀ j, couldB rc rv k v (m + j) = false := by
  intro j
  induction j with
  | zero => exact h
  | succ j ih => show couldB rc rv k v (m + j + 1) = false; rw [couldB_s, ih]; rfl
/-- the longest row of empty places in two rounds, of the first m -/
def gapS (p : Nat → Int) (n : Nat) : Nat → Int × Int
  | 0 => (0, 0)
  | m + 1 => (max (gapS p n m).1 (if cntS p ((m % 12 : Nat) : Int) n = 0 then (gapS p n m).2 + 1 else 0), if cntS p ((m % 12 : Nat) : Int) n = 0 then (gapS p n m).2 + 1 else 0)
theorem gapS_lo (p : Nat → Int) (n : Nat) : ∀ m, 0 ≤ (gapS p n m).1 ∧ (gapS p n m).1 ≤ m ∧ 0 ≤ (gapS p n m).2 ∧ (gapS p n m).2 ≤ m := by
  intro m
  induction m with
  | zero => simp [gapS]
  | succ m ih => unfold gapS; dsimp only; split <;> omega

set_option maxRecDepth 100000 in
theorem c3_keepAct {E : zE} {h : zH} {old ac : Nat} (d k : Nat) (hd : 2 ≤ d) (ho : h 31 2 = (old : Int)) (ho2 : old < 40) (ha : h 31 3 = (ac : Int)) (ha2 : ac ≤ 40) : zCal E mX3_keepAct d k [zrv E 31] h (fun r h' => r = none ∧ kept1 h h') (fun _ _ => False) := by
  refine zCal_of (by decide) (Nat.le_of_ble_eq_true rfl) (fun a => ?_)
  show zV _ 0 0 [zrv E 31] [] _
  have J32 : ∀ (o2 a2 : Nat) (h1 : zH), (h1 31 2 = (o2 : Int)) → (h1 31 3 = (a2 : Int)) → (h1 31 6 = h 31 6) → (∀ c2 : Nat, c2 ≠ 31 → h1 c2 = h c2) → (o2 < 40 ∧ a2 ≤ 39) → ((o2 + a2) % 40 = if ac = 40 then (old + 40) % 40 else (old + ac) % 40) → ((o2 : Int) = if ac = 40 then (((old + 1) % 40 : Nat) : Int) else (old : Int)) → ((a2 : Int) + 1 = if ac = 40 then 40 else ((ac + 1 : Nat) : Int)) → zV (E, mX3_keepAct, d, k, (fun r h' => r = none ∧ kept1 h h'), (fun _ _ => False), a) 0 32 [zrv E 31] [] h1 := by
    intro o2 a2 h1 e2 e3 e6 hag hb hf h2o h2a
    refine zV_aload_nr dX3_keepAct_32 rfl rfl ?_
    refine gf3_12 rfl (rfl) dX3_keepAct_33 ?_
    refine zV_teq (w := zrv E 32) rfl ?_
    refine zV_aload_nr dX3_keepAct_36 rfl rfl ?_
    refine gf3_18 rfl (rfl) dX3_keepAct_37 ?_
    refine zV_teq (w := zrv E 38) rfl ?_
    refine zV_aload_nr dX3_keepAct_40 rfl rfl ?_
    refine gf3_52 rfl rfl dX3_keepAct_41 ?_
    refine zV_aload_nr dX3_keepAct_44 rfl rfl ?_
    refine gf3_35 rfl rfl dX3_keepAct_45 ?_
    refine zV_iadd dX3_keepAct_48 ?_
    refine zV_bipush dX3_keepAct_49 (by decide) ?_
    refine zV_irem dX3_keepAct_51 (by decide) ?_
    refine zV_bipush dX3_keepAct_52 (by decide) ?_
    refine zV_imul dX3_keepAct_54 ?_
    rw [e2, e3, zrem_eq (by omega) (by decide), Int.tmod_eq_emod_of_nonneg (by omega)]
    refine zV_teq (w := ziv (((o2 + a2) % 40 * 27 : Nat) : Int)) (by congr 1) ?_
    refine zV_callV (As := [zrv E 38, ziv (((o2 + a2) % 40 * 27 : Nat) : Int)]) lk3_55 (rfl) rfl rfl (c2_save (d - 1) 0 (by omega) (by omega)) ⟨by show _ + 1 ≤ d; omega, by show _ ≤ k; omega⟩ rfl (Nat.le_of_ble_eq_true rfl) dX3_keepAct_55 (fun _ _ z => z.elim) (fun r h' q => ?_)
    obtain ⟨rfl, q⟩ := q
    refine zV_aload_nr dX3_keepAct_58 rfl rfl ?_
    refine zV_dup dX3_keepAct_59 rfl ?_
    refine gf3_35 rfl rfl dX3_keepAct_60 ?_
    refine zV_iconst dX3_keepAct_63 ?_
    refine zV_iadd dX3_keepAct_64 ?_
    refine pf3_35 rfl (rfl) dX3_keepAct_65 ?_
    refine zV_vreturn dX3_keepAct_68 rfl (Nat.zero_le _) ⟨rfl, (o2 + a2) % 40 * 27, old, ac, ho, ha, by rw [hf], ?_⟩
    obtain ⟨q0, q1, q2, q3, q4, q5, q6, q7⟩ := q
    have w : ∀ c2 : Nat, c2 ≠ 31 → c2 ≠ 38 → h' c2 = h c2 := fun c2 a b => by rw [q0 c2 b]; exact hag c2 a
    rw [q0 31 (by decide)]
    refine ⟨⟨fun c2 a => ?_, fun i hi => ?_, fun i hi => ?_, fun i hi => ?_, ?_, ?_, ?_, fun i hi => ?_⟩, ?_, ?_, ?_⟩
    · by_cases e : c2 = 31
      · subst e; exact zst_same
      · rw [zst_ne e, zup_fn e]; exact w c2 e a
    · rw [zst_ne (by decide), zup_fn (by decide), q1 i hi, hag 33 (by decide)]
    · rw [zst_ne (by decide), zup_fn (by decide), q2 i hi, hag 35 (by decide)]
    · rw [zst_ne (by decide), zup_fn (by decide), q3 i hi, hag 36 (by decide)]
    · rw [zst_ne (by decide), zup_fn (by decide), q4, hag 32 (by decide)]
    · rw [zst_ne (by decide), zup_fn (by decide), q5, hag 32 (by decide)]
    · rw [zst_ne (by decide), zup_fn (by decide), q6, hag 32 (by decide)]
    · rw [zst_ne (by decide), zup_fn (by decide), q7 i hi, hag 38 (by decide)]
    · rw [zup_at, if_neg (by decide), q0 31 (by decide), e2, h2o]
    · rw [zup_at, if_pos rfl, e3, h2a]
    · rw [zup_at, if_neg (by decide), q0 31 (by decide), e6]
  refine zV_aload_nr dX3_keepAct_0 rfl rfl ?_
  refine gf3_35 rfl rfl dX3_keepAct_1 ?_
  refine zV_bipush dX3_keepAct_4 (by decide) ?_
  rw [ha]
  refine zR_icmp_ne (tgt := 32) dX3_keepAct_6 (by decide) (by omega) (by decide) (fun h6 => ?_) (fun h6 => ?_)
  · exact J32 old ac h ho ha rfl (fun _ _ => rfl) (by omega) (by rw [if_neg (by omega)]) (by rw [if_neg (by omega)]) (by rw [if_neg (by omega)]; omega)
  · refine zV_aload_nr dX3_keepAct_9 rfl rfl ?_
    refine zV_aload_nr dX3_keepAct_10 rfl rfl ?_
    refine gf3_52 rfl rfl dX3_keepAct_11 ?_
    refine zV_iconst dX3_keepAct_14 ?_
    refine zV_iadd dX3_keepAct_15 ?_
    refine zV_bipush dX3_keepAct_16 (by decide) ?_
    refine zV_irem dX3_keepAct_18 (by decide) ?_
    refine pf3_52 rfl (rfl) dX3_keepAct_19 ?_
    refine zV_aload_nr dX3_keepAct_22 rfl rfl ?_
    refine zV_dup dX3_keepAct_23 rfl ?_
    refine gf3_35 rfl rfl dX3_keepAct_24 ?_
    refine zV_iconst dX3_keepAct_27 ?_
    refine zV_isub dX3_keepAct_28 ?_
    refine pf3_35 rfl (rfl) dX3_keepAct_29 ?_
    refine zV_heq (h' := zup (zup h 31 2 (((old + 1) % 40 : Nat) : Int)) 31 3 39) (by simp only [zup_at, if_neg (show ¬ (3 : Nat) = 2 by decide)]; rw [ho, ha, zrem_eq (by omega) (by decide), Int.tmod_eq_emod_of_nonneg (by omega)]; congr 1; omega) ?_
    exact J32 ((old + 1) % 40) 39 _ (by simp [zup_at]) (by simp [zup_at]) (by simp [zup_at]) (fun c2 a => by rw [zup_fn a, zup_fn a]) (by omega) (by rw [if_pos (by omega)]; omega) (by rw [if_pos (by omega)]) (by rw [if_pos (by omega)]; rfl)
set_option maxRecDepth 100000 in
theorem c3_takeBackAct {E : zE} {h : zH} {old ac : Nat} (d k : Nat) (hd : 2 ≤ d) (ho : h 31 2 = (old : Int)) (ho2 : old < 40) (ha : h 31 3 = ((ac + 1 : Nat) : Int)) (ha2 : ac ≤ 39) : zCal E mX3_takeBackAct d k [zrv E 31] h (fun r h' => r = none ∧ undone1 h h') (fun _ _ => False) := by
  refine zCal_of (by decide) (Nat.le_of_ble_eq_true rfl) (fun a => ?_)
  show zV _ 0 0 [zrv E 31] [] _
  refine zV_aload_nr dX3_takeBackAct_0 rfl rfl ?_
  refine gf3_35 rfl rfl dX3_takeBackAct_1 ?_
  rw [ha]
  refine zR_if_le (tgt := 43) dX3_takeBackAct_4 (by decide) (by omega) (fun h4 => ?_) (fun h4 => ?_)
  · exact absurd h4 (by omega)
  · refine zV_aload_nr dX3_takeBackAct_7 rfl rfl ?_
    refine zV_dup dX3_takeBackAct_8 rfl ?_
    refine gf3_35 rfl rfl dX3_takeBackAct_9 ?_
    refine zV_iconst dX3_takeBackAct_12 ?_
    refine zV_isub dX3_takeBackAct_13 ?_
    refine pf3_35 rfl (rfl) dX3_takeBackAct_14 ?_
    refine zV_aload_nr dX3_takeBackAct_17 rfl rfl ?_
    refine gf3_12 rfl (rfl) dX3_takeBackAct_18 ?_
    refine zV_teq (w := zrv E 32) rfl ?_
    refine zV_aload_nr dX3_takeBackAct_21 rfl rfl ?_
    refine gf3_18 rfl (rfl) dX3_takeBackAct_22 ?_
    refine zV_teq (w := zrv E 38) rfl ?_
    refine zV_aload_nr dX3_takeBackAct_25 rfl rfl ?_
    refine gf3_52 rfl rfl dX3_takeBackAct_26 ?_
    refine zV_aload_nr dX3_takeBackAct_29 rfl rfl ?_
    refine gf3_35 rfl rfl dX3_takeBackAct_30 ?_
    refine zV_iadd dX3_takeBackAct_33 ?_
    refine zV_bipush dX3_takeBackAct_34 (by decide) ?_
    refine zV_irem dX3_takeBackAct_36 (by decide) ?_
    refine zV_bipush dX3_takeBackAct_37 (by decide) ?_
    refine zV_imul dX3_takeBackAct_39 ?_
    rw [zup_at, if_neg (by decide), zup_at, if_pos rfl, ho, ha, zrem_eq (by omega) (by decide), Int.tmod_eq_emod_of_nonneg (by omega)]
    refine zV_teq (w := ziv (((old + ac) % 40 * 27 : Nat) : Int)) (by congr 1; omega) ?_
    refine zV_callV (As := [zrv E 38, ziv (((old + ac) % 40 * 27 : Nat) : Int)]) lk3_59 (rfl) rfl rfl (c2_load (d - 1) 0 (by omega) (by omega)) ⟨by show _ + 1 ≤ d; omega, by show _ ≤ k; omega⟩ rfl (Nat.le_of_ble_eq_true rfl) dX3_takeBackAct_40 (fun _ _ z => z.elim) (fun r h' q => ?_)
    obtain ⟨rfl, q⟩ := q
    exact zV_vreturn dX3_takeBackAct_43 rfl (Nat.zero_le _) (by
        obtain ⟨q0, q1, q2, q3, q4, q5, q6, q7⟩ := q
        refine ⟨rfl, (old + ac) % 40 * 27, old, ac, ho, ha, rfl, ⟨fun c2 a0 a1 a2 a3 => ?_, fun i hi => ?_, fun i hi => ?_, fun i hi => ?_, ?_, ?_, ?_, ?_⟩, ?_, ?_, ?_⟩
        · by_cases e : c2 = 31
          · subst e; exact zst_same
          · rw [zst_ne e, q0 c2 a0 a1 a2 a3, zup_fn e]
        · rw [zst_ne (by decide), q1 i hi, zup_fn (by decide)]
        · rw [zst_ne (by decide), q2 i hi, zup_fn (by decide)]
        · rw [zst_ne (by decide), q3 i hi, zup_fn (by decide)]
        · rw [zst_ne (by decide), q4, zup_fn (by decide)]
        · rw [zst_ne (by decide), q5, zup_fn (by decide)]
        · rw [zst_ne (by decide), q6, zup_fn (by decide)]
        · rw [zst_ne (by decide), q7, zup_fn (by decide)]
        · rw [q0 31 (by decide) (by decide) (by decide) (by decide), zup_at, if_neg (by decide), ho]
        · rw [q0 31 (by decide) (by decide) (by decide) (by decide), zup_at, if_pos rfl]; omega
        · rw [q0 31 (by decide) (by decide) (by decide) (by decide), zup_at, if_neg (by decide)])
set_option maxRecDepth 100000 in
theorem c3_lastReadCase {E : zE} {h : zH} {rn : Nat} (d k : Nat) (hd : 1 ≤ d) (hr : h 31 6 = (rn : Int)) (hr2 : rn ≤ 8) (hrc : ∀ i, i < rn → 1 ≤ h 39 i ∧ h 39 i ≤ 20) : zCal E mX3_lastReadCase d k [zrv E 31] h (fun r h' => r = some (ziv (maxS (h 39) rn)) ∧ h' = h) (fun _ _ => False) := by
  refine zCal_of (by decide) (Nat.le_of_ble_eq_true rfl) (fun a => ?_)
  show zV _ 0 0 [zrv E 31, .null, .null] [] _
  refine zV_iconst dX3_lastReadCase_0 ?_
  refine zV_istore_n dX3_lastReadCase_1 rfl (Nat.le_of_ble_eq_true rfl) rfl ?_
  refine zV_iconst dX3_lastReadCase_2 ?_
  refine zV_istore_n dX3_lastReadCase_3 rfl (Nat.le_of_ble_eq_true rfl) rfl ?_
  have L4 : ∀ (m : Nat) (s : Nat), (rn + 1 ≤ s + m) → (s ≤ rn) → zV (E, mX3_lastReadCase, d, k, (fun r h' => r = some (ziv (maxS (h 39) rn)) ∧ h' = h), (fun _ _ => False), a) 0 4 [zrv E 31, ziv (maxS (h 39) s), ziv (s : Int)] [] h := by
    intro m
    induction m with
    | zero => intro s hm_ hsn; exfalso; omega
    | succ m ih =>
      intro s hm_ hsn
      refine zV_iload_n dX3_lastReadCase_4 rfl rfl ?_
      refine zV_aload_nr dX3_lastReadCase_5 rfl rfl ?_
      refine gf3_39 rfl rfl dX3_lastReadCase_6 ?_
      rw [hr]
      refine zR_icmp_ge (tgt := 29) dX3_lastReadCase_9 (by decide) (by omega) (by omega) (fun h9 => ?_) (fun h9 => ?_)
      · refine zV_iload_n dX3_lastReadCase_29 rfl rfl ?_
        exact zV_ireturn dX3_lastReadCase_30 rfl (Nat.zero_le _) ⟨by rw [show rn = s by omega], rfl⟩
      · refine zV_iload_n dX3_lastReadCase_12 rfl rfl ?_
        refine zV_aload_nr dX3_lastReadCase_13 rfl rfl ?_
        refine gf3_22 rfl (rfl) dX3_lastReadCase_14 ?_
        refine zV_teq (w := zrv E 39) rfl ?_
        refine zV_iload_n dX3_lastReadCase_17 rfl rfl ?_
        refine zV_ialoadN (i := s) (N := 8) (rfl) (by omega) (by decide) dX3_lastReadCase_18 ?_
        have b1 := maxS_lo s (fun i hi => hrc i (by omega))
        have b2 := hrc s (by omega)
        refine zV_callS (As := [ziv (maxS (h 39) s), ziv (h 39 s)]) lk3_62 (cJ_max (d - 1) 0 (by omega) (by omega)) ⟨by show _ + 1 ≤ d; omega, by show _ ≤ k; omega⟩ rfl (Nat.le_of_ble_eq_true rfl) dX3_lastReadCase_19 (fun _ _ z => z.elim) (fun r h' q => ?_)
        obtain ⟨rfl, hh⟩ := q
        rw [hh]
        refine zV_istore_n dX3_lastReadCase_22 rfl (Nat.le_of_ble_eq_true rfl) rfl ?_
        refine zV_iinc dX3_lastReadCase_23 rfl (Nat.le_of_ble_eq_true rfl) rfl ?_
        refine zV_goto (tgt := 4) dX3_lastReadCase_26 (by decide) ?_
        exact ih (s + 1) (by omega) (by omega)
  exact L4 (rn + 1) 0 (by omega) (by omega)
set_option maxRecDepth 100000 in
theorem c3_couldBe {E : zE} {h : zH} {rn : Nat} {x y : Int} (d k : Nat) (hr : h 31 6 = (rn : Int)) (hr2 : rn ≤ 8) (hx : -2147483648 ≤ x ∧ x ≤ 2147483647) (hy : -2147483648 ≤ y ∧ y ≤ 2147483647) (hrc : ∀ i, i < rn → 1 ≤ h 39 i ∧ h 39 i ≤ 20) (hrv : ∀ i, i < rn → 0 ≤ h 40 i ∧ h 40 i ≤ 4) : zCal E mX3_couldBe d k [zrv E 31, ziv x, ziv y] h (fun r h' => r = some (ziv (if couldB (h 39) (h 40) x y rn = true then 1 else 0)) ∧ h' = h) (fun _ _ => False) := by
  refine zCal_of (by decide) (Nat.le_of_ble_eq_true rfl) (fun a => ?_)
  show zV _ 0 0 [zrv E 31, ziv x, ziv y, .null] [] _
  refine zV_iconst dX3_couldBe_0 ?_
  refine zV_istore_n dX3_couldBe_1 rfl (Nat.le_of_ble_eq_true rfl) rfl ?_
  have L2 : ∀ (m : Nat) (s : Nat), (rn + 1 ≤ s + m) → (s ≤ rn) → (couldB (h 39) (h 40) x y s = true) → zV (E, mX3_couldBe, d, k, (fun r h' => r = some (ziv (if couldB (h 39) (h 40) x y rn = true then 1 else 0)) ∧ h' = h), (fun _ _ => False), a) 0 2 [zrv E 31, ziv x, ziv y, ziv (s : Int)] [] h := by
    intro m
    induction m with
    | zero => intro s hm_ hsn hk; exfalso; omega
    | succ m ih =>
      intro s hm_ hsn hk
      refine zV_iload_n dX3_couldBe_2 rfl rfl ?_
      refine zV_aload_nr dX3_couldBe_3 rfl rfl ?_
      refine gf3_39 rfl rfl dX3_couldBe_4 ?_
      rw [hr]
      refine zR_icmp_ge (tgt := 38) dX3_couldBe_7 (by decide) (by omega) (by omega) (fun h7 => ?_) (fun h7 => ?_)
      · refine zV_iconst dX3_couldBe_38 ?_
        exact zV_zreturn dX3_couldBe_39 rfl (Or.inr rfl) (Nat.zero_le _) ⟨by rw [show rn = s by omega, if_pos hk], rfl⟩
      · refine zV_aload_nr dX3_couldBe_10 rfl rfl ?_
        refine gf3_22 rfl (rfl) dX3_couldBe_11 ?_
        refine zV_teq (w := zrv E 39) rfl ?_
        refine zV_iload_n dX3_couldBe_14 rfl rfl ?_
        refine zV_ialoadN (i := s) (N := 8) (rfl) (by omega) (by decide) dX3_couldBe_15 ?_
        refine zV_iload_n dX3_couldBe_16 rfl rfl ?_
        have b1 := hrc s (by omega)
        have b2 := hrv s (by omega)
        refine zR_icmp_ne (tgt := 32) dX3_couldBe_17 (by decide) (by omega) hx (fun h17 => ?_) (fun h17 => ?_)
        · refine zV_iinc dX3_couldBe_32 rfl (Nat.le_of_ble_eq_true rfl) rfl ?_
          refine zV_goto (tgt := 2) dX3_couldBe_35 (by decide) ?_
          exact ih (s + 1) (by omega) (by omega) (by rw [couldB_s, hk, decide_eq_false h17]; rfl)
        · refine zV_aload_nr dX3_couldBe_20 rfl rfl ?_
          refine gf3_25 rfl (rfl) dX3_couldBe_21 ?_
          refine zV_teq (w := zrv E 40) rfl ?_
          refine zV_iload_n dX3_couldBe_24 rfl rfl ?_
          refine zV_ialoadN (i := s) (N := 8) (rfl) (by omega) (by decide) dX3_couldBe_25 ?_
          refine zV_iload_n dX3_couldBe_26 rfl rfl ?_
          refine zR_icmp_eq (tgt := 32) dX3_couldBe_27 (by decide) (by omega) hy (fun h27 => ?_) (fun h27 => ?_)
          · refine zV_iinc dX3_couldBe_32 rfl (Nat.le_of_ble_eq_true rfl) rfl ?_
            refine zV_goto (tgt := 2) dX3_couldBe_35 (by decide) ?_
            exact ih (s + 1) (by omega) (by omega) (by rw [couldB_s, hk, decide_eq_false (show ¬ h 40 s ≠ y from fun z => z h27)]; simp)
          · refine zV_iconst dX3_couldBe_30 ?_
            exact zV_zreturn dX3_couldBe_31 rfl (Or.inl rfl) (Nat.zero_le _) ⟨by
              have h1 := couldB_f (rc := h 39) (rv := h 40) (k := x) (v := y) (m := s + 1) (by rw [couldB_s, decide_eq_true h17, decide_eq_true (show h 40 s ≠ y from h27)]; simp) (rn - (s + 1))
              rw [show s + 1 + (rn - (s + 1)) = rn by omega] at h1
              rw [if_neg (by rw [h1]; decide)], rfl⟩
  exact L2 (rn + 1) 0 (by omega) (by omega) rfl
set_option maxRecDepth 100000 in
theorem c4_widestGap {E : zE} {h : zH} {n : Nat} {p : Nat → Int} (d k : Nat) (hd : 1 ≤ d) (hn : n ≤ 8) (hq : ∀ q : Nat, q < 12 → h 30 q = cntS p q n) : zCal E mX4_widestGap d k [zrv E 28] h (fun r h' => r = some (ziv (min (gapS p n 24).1 12)) ∧ h' = h) (fun _ _ => False) := by
  refine zCal_of (by decide) (Nat.le_of_ble_eq_true rfl) (fun a => ?_)
  show zV _ 0 0 [zrv E 28, .null, .null, .null] [] _
  refine zV_iconst dX4_widestGap_0 ?_
  refine zV_istore_n dX4_widestGap_1 rfl (Nat.le_of_ble_eq_true rfl) rfl ?_
  refine zV_iconst dX4_widestGap_2 ?_
  refine zV_istore_n dX4_widestGap_3 rfl (Nat.le_of_ble_eq_true rfl) rfl ?_
  refine zV_iconst dX4_widestGap_4 ?_
  refine zV_istore_n dX4_widestGap_5 rfl (Nat.le_of_ble_eq_true rfl) rfl ?_
  have L6 : ∀ (m : Nat) (s : Nat), (25 ≤ s + m) → (s ≤ 24) → zV (E, mX4_widestGap, d, k, (fun r h' => r = some (ziv (min (gapS p n 24).1 12)) ∧ h' = h), (fun _ _ => False), a) 0 6 [zrv E 28, ziv (gapS p n s).1, ziv (gapS p n s).2, ziv (s : Int)] [] h := by
    intro m
    induction m with
    | zero => intro s hm_ hsn; exfalso; omega
    | succ m ih =>
      intro s hm_ hsn
      refine zV_iload_n dX4_widestGap_6 rfl rfl ?_
      refine zV_bipush dX4_widestGap_7 (by decide) ?_
      refine zR_icmp_ge (tgt := 44) dX4_widestGap_9 (by decide) (by omega) (by omega) (fun h9 => ?_) (fun h9 => ?_)
      · refine zV_iload_n dX4_widestGap_44 rfl rfl ?_
        refine zV_bipush dX4_widestGap_45 (by decide) ?_
        have b2 := gapS_lo p n s
        refine zV_callS (As := [ziv (gapS p n s).1, ziv 12]) lk4_44 (cJ_min (d - 1) 0 (by omega) (by decide)) ⟨by show _ + 1 ≤ d; omega, by show _ ≤ k; omega⟩ rfl (Nat.le_of_ble_eq_true rfl) dX4_widestGap_47 (fun _ _ z => z.elim) (fun r h' q => ?_)
        obtain ⟨rfl, hh⟩ := q
        rw [hh]
        exact zV_ireturn dX4_widestGap_50 rfl (Nat.zero_le _) ⟨by rw [show s = 24 by omega], rfl⟩
      · have J31 : ∀ (v : Int), (v = if cntS p ((s % 12 : Nat) : Int) n = 0 then (gapS p n s).2 + 1 else 0) → zV (E, mX4_widestGap, d, k, (fun r h' => r = some (ziv (min (gapS p n 24).1 12)) ∧ h' = h), (fun _ _ => False), a) 0 31 [zrv E 28, ziv (gapS p n s).1, ziv (gapS p n s).2, ziv (s : Int)] [ziv v] h := by
          intro v hv
          refine zV_istore_n dX4_widestGap_31 rfl (Nat.le_of_ble_eq_true rfl) rfl ?_
          refine zV_iload_n dX4_widestGap_32 rfl rfl ?_
          refine zV_iload_n dX4_widestGap_33 rfl rfl ?_
          have b2 := gapS_lo p n s
          have b3 : 0 ≤ v ∧ v ≤ 25 := by rw [hv]; split <;> omega
          refine zV_callS (As := [ziv (gapS p n s).1, ziv v]) lk4_38 (cJ_max (d - 1) 0 (by omega) (by omega)) ⟨by show _ + 1 ≤ d; omega, by show _ ≤ k; omega⟩ rfl (Nat.le_of_ble_eq_true rfl) dX4_widestGap_34 (fun _ _ z => z.elim) (fun r h' q => ?_)
          obtain ⟨rfl, hh⟩ := q
          rw [hh, hv]
          refine zV_istore_n dX4_widestGap_37 rfl (Nat.le_of_ble_eq_true rfl) rfl ?_
          refine zV_iinc dX4_widestGap_38 rfl (Nat.le_of_ble_eq_true rfl) rfl ?_
          refine zV_goto (tgt := 6) dX4_widestGap_41 (by decide) ?_
          exact ih (s + 1) (by omega) (by omega)
        refine zV_aload_nr dX4_widestGap_12 rfl rfl ?_
        refine gf4_15 rfl (rfl) dX4_widestGap_13 ?_
        refine zV_teq (w := zrv E 30) rfl ?_
        refine zV_iload_n dX4_widestGap_16 rfl rfl ?_
        refine zV_bipush dX4_widestGap_17 (by decide) ?_
        refine zV_irem dX4_widestGap_19 (by decide) ?_
        rw [zrem_eq (by omega) (by decide), Int.tmod_eq_emod_of_nonneg (by omega)]
        refine zV_teq (w := ziv ((s % 12 : Nat) : Int)) (by congr 1) ?_
        refine zV_ialoadN (i := (s % 12)) (N := 12) (rfl) (by omega) (by decide) dX4_widestGap_20 ?_
        rw [hq (s % 12) (by omega)]
        have b1 := cntS_lo p ((s % 12 : Nat) : Int) n
        refine zR_if_ne (tgt := 30) dX4_widestGap_21 (by decide) (by omega) (fun h21 => ?_) (fun h21 => ?_)
        · refine zV_iconst dX4_widestGap_30 ?_
          exact J31 _ (by rw [if_neg h21])
        · refine zV_iload_n dX4_widestGap_24 rfl rfl ?_
          refine zV_iconst dX4_widestGap_25 ?_
          refine zV_iadd dX4_widestGap_26 ?_
          refine zV_goto (tgt := 31) dX4_widestGap_27 (by decide) ?_
          exact J31 _ (by rw [if_pos h21])
  exact L6 25 0 (by omega) (by omega)
