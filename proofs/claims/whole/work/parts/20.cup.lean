/-! THE CUP -/
def isCup (c : Nat) : Prop := c = 32 ∨ c = 43 ∨ c = 53
def isCourt (t : Nat) : Prop := t = 2 ∨ t = 16
theorem cup_0 {c : Nat} (hc : isCup c) : zsh[c]? = some (.inl 2) := by rcases hc with rfl | rfl | rfl <;> rfl
theorem cup_1 {c : Nat} (hc : isCup c) : zsh[c + 1]? = some (.inr (0, 8)) := by rcases hc with rfl | rfl | rfl <;> rfl
theorem cup_2 {c : Nat} (hc : isCup c) : zsh[c + 2]? = some (.inr (0, 8)) := by rcases hc with rfl | rfl | rfl <;> rfl
theorem cup_3 {c : Nat} (hc : isCup c) : zsh[c + 3]? = some (.inr (0, 8)) := by rcases hc with rfl | rfl | rfl <;> rfl
theorem cup_4 {c : Nat} (hc : isCup c) : zsh[c + 4]? = some (.inr (0, 8)) := by rcases hc with rfl | rfl | rfl <;> rfl
theorem cup_5 {c : Nat} (hc : isCup c) : zsh[c + 5]? = some (.inr (0, 8)) := by rcases hc with rfl | rfl | rfl <;> rfl
theorem court_0 {t : Nat} (ht : isCourt t) : zsh[t]? = some (.inl 1) := by rcases ht with rfl | rfl <;> rfl
theorem court_1 {t : Nat} (ht : isCourt t) : zsh[t + 1]? = some (.inr (0, 8)) := by rcases ht with rfl | rfl <;> rfl
theorem court_2 {t : Nat} (ht : isCourt t) : zsh[t + 2]? = some (.inr (0, 8)) := by rcases ht with rfl | rfl <;> rfl
theorem court_3 {t : Nat} (ht : isCourt t) : zsh[t + 3]? = some (.inr (0, 8)) := by rcases ht with rfl | rfl <;> rfl
theorem court_4 {t : Nat} (ht : isCourt t) : zsh[t + 4]? = some (.inr (0, 8)) := by rcases ht with rfl | rfl <;> rfl
theorem court_5 {t : Nat} (ht : isCourt t) : zsh[t + 5]? = some (.inr (0, 8)) := by rcases ht with rfl | rfl <;> rfl
theorem court_6 {t : Nat} (ht : isCourt t) : zsh[t + 6]? = some (.inr (1, 8)) := by rcases ht with rfl | rfl <;> rfl
theorem court_7 {t : Nat} (ht : isCourt t) : zsh[t + 7]? = some (.inr (0, 700)) := by rcases ht with rfl | rfl <;> rfl
theorem court_8 {t : Nat} (ht : isCourt t) : zsh[t + 8]? = some (.inr (0, 2)) := by rcases ht with rfl | rfl <;> rfl
theorem court_9 {t : Nat} (ht : isCourt t) : zsh[t + 9]? = some (.inr (0, 2)) := by rcases ht with rfl | rfl <;> rfl
theorem court_10 {t : Nat} (ht : isCourt t) : zsh[t + 10]? = some (.inr (1, 2)) := by rcases ht with rfl | rfl <;> rfl
theorem court_11 {t : Nat} (ht : isCourt t) : zsh[t + 11]? = some (.inr (1, 2)) := by rcases ht with rfl | rfl <;> rfl
/-- the first place from s on, of m places, that holds j, or -1 -/
def seatS (f : Nat → Int) (j : Int) : Nat → Nat → Int
  | _, 0 => -1
  | s, n + 1 => if f s = j then (s : Int) else seatS f j (s + 1) n

set_option maxRecDepth 100000 in
theorem c2_seatOf {E : zE} {h : zH} {c : Nat} {j : Int} {n : Nat} (d k : Nat) (hc : isCup c) (hj : -2147483648 ≤ j ∧ j ≤ 2147483647) (hn : n ≤ 8) (hs : ∀ i, i < 8 → 0 ≤ h (c + 4) i ∧ h (c + 4) i < 8) : zCal E mX2_seatOf d k [zrv E c, ziv j, ziv (n : Int)] h (fun r h' => r = some (ziv (seatS (h (c + 4)) j 0 n)) ∧ h' = h) (fun _ _ => False) := by
  refine zCal_of (by decide) (Nat.le_of_ble_eq_true rfl) (fun a => ?_)
  show zV _ 0 0 [zrv E c, ziv j, ziv (n : Int), .null] [] _
  refine zV_iconst dX2_seatOf_0 ?_
  refine zV_istore_n dX2_seatOf_1 rfl (Nat.le_of_ble_eq_true rfl) rfl ?_
  have L2 : ∀ (m : Nat) (s : Nat), (n + 1 ≤ s + m) → (s ≤ n) → (seatS (h (c + 4)) j 0 n = seatS (h (c + 4)) j s (n - s)) → zV (E, mX2_seatOf, d, k, (fun r h' => r = some (ziv (seatS (h (c + 4)) j 0 n)) ∧ h' = h), (fun _ _ => False), a) 0 2 [zrv E c, ziv j, ziv (n : Int), ziv (s : Int)] [] h := by
    intro m
    induction m with
    | zero => intro s hm_ hsn hi; exfalso; omega
    | succ m ih =>
      intro s hm_ hsn hi
      refine zV_iload_n dX2_seatOf_2 rfl rfl ?_
      refine zV_iload_n dX2_seatOf_3 rfl rfl ?_
      refine zR_icmp_ge (tgt := 25) dX2_seatOf_4 (by decide) (by omega) (by omega) (fun h4 => ?_) (fun h4 => ?_)
      · have e : s = n := by omega
        subst e
        refine zV_iconst dX2_seatOf_25 ?_
        exact zV_ireturn dX2_seatOf_26 rfl (Nat.zero_le _) ⟨by rw [hi, Nat.sub_self]; rfl, rfl⟩
      · refine zV_aload_nr dX2_seatOf_7 rfl rfl ?_
        refine gf2_21 rfl (cup_0 hc) dX2_seatOf_8 ?_
        refine zV_iload_n dX2_seatOf_11 rfl rfl ?_
        have hb := hs s (by omega)
        refine zV_iaload (N := 8) (cup_4 hc) (by omega) (by decide) dX2_seatOf_12 ?_
        refine zV_iload_n dX2_seatOf_13 rfl rfl ?_
        refine zR_icmp_ne (tgt := 19) dX2_seatOf_14 (by decide) (by rw [Int.toNat_natCast]; omega) hj (fun h14 => ?_) (fun h14 => ?_)
        · rw [Int.toNat_natCast] at h14
          have hi2 : seatS (h (c + 4)) j 0 n = seatS (h (c + 4)) j (s + 1) (n - (s + 1)) := by
            rw [hi, show n - s = (n - (s + 1)) + 1 by omega, seatS, if_neg h14]
          refine zV_iinc dX2_seatOf_19 rfl (Nat.le_of_ble_eq_true rfl) rfl ?_
          refine zV_goto (tgt := 2) dX2_seatOf_22 (by decide) ?_
          exact ih (s + 1) (by omega) (by omega) hi2
        · rw [Int.toNat_natCast] at h14
          refine zV_iload_n dX2_seatOf_17 rfl rfl ?_
          exact zV_ireturn dX2_seatOf_18 rfl (Nat.zero_le _) ⟨by rw [hi, show n - s = (n - s - 1) + 1 by omega, seatS, if_pos h14], rfl⟩
  exact L2 (n + 1) 0 (by omega) (by omega) rfl
