/-! WHAT IS NOW -/
def ptS (f : Nat → Int) (w : Int) : Nat → Int
  | 0 => 0
  | m + 1 => if f m = w then zor (ptS f w m) (zshl 1 m) else ptS f w m
def wtS (p w : Nat → Int) (q : Int) : Nat → Int
  | 0 => 0
  | m + 1 => if p m = q then wtS p w q m + w m else wtS p w q m
theorem wtS_lo {p w : Nat → Int} {q : Int} : ∀ m, (∀ l, l < m → 1 ≤ w l ∧ w l ≤ 9) → 0 ≤ wtS p w q m ∧ wtS p w q m ≤ 9 * m := by
  intro m
  induction m with
  | zero => intro _; simp [wtS]
  | succ m ih => intro h; have h1 := ih (fun l hl => h l (by omega)); have h2 := h m (by omega); unfold wtS; split <;> omega
def byteS (x : Int) (q : Nat) : Int := zand (zushr x (24 - 8 * (q : Int))) 255
def survV (h : zH) (n : Nat) (x : Int) : Int := if x = 5 then mostS (h 33) n else if x = 6 then whereS (h 33) n else if x = 7 then oddS (h 33) n else min (gapS (h 33) n 24).1 12
def cntV (h : zH) (t n : Nat) (x : Int) : Int := if x = 0 then h t 0 else if x = 1 then h t 3 else if x = 2 then h 32 6 else if x = 3 then h 32 5 else if x = 4 then h 32 7 else if x ≤ 8 then survV h n x else if x = 9 then h 31 3 else if x = 10 then h 31 6 else if x = 11 then h 0 1 else if x = 12 then h 41 0 else if x = 13 then h 41 1 else h 41 2
def judV (h : zH) (t jn : Nat) (x w : Int) : Int := if w = 0 then h (t + 3) x.toNat else if w = 1 then h 35 x.toNat else if w = 2 then h (t + 5) x.toNat else if w = 3 then seatS (h 36) x 0 jn else if w = 4 then (if h (t + 6) x.toNat = 0 then 0 else 1) else ptS (h (t + 5)) (h (t + 5) x.toNat) jn

set_option maxRecDepth 100000 in
theorem c5_partyOf {E : zE} {h : zH} {t n jn : Nat} {w : Int} (d k : Nat) (k0 : h 0 3 = (t : Int)) (hct : courtOK h t n jn) (hwi : ∀ j, j < jn → 0 ≤ h (t + 5) j ∧ h (t + 5) j ≤ 4) (hw : -2147483648 ≤ w ∧ w ≤ 2147483647) : zCal E mX5_partyOf d k [zrv E 0, ziv w] h (fun r h' => r = some (ziv (ptS (h (t + 5)) w jn)) ∧ h' = h) (fun _ _ => False) := by
  refine zCal_of (by decide) (Nat.le_of_ble_eq_true rfl) (fun a => ?_)
  show zV _ 0 0 [zrv E 0, ziv w, .null, .null] [] _
  have ht := hct.1
  have hjn8 := hct.2.2.1
  refine zV_iconst dX5_partyOf_0 ?_
  refine zV_istore_n dX5_partyOf_1 rfl (Nat.le_of_ble_eq_true rfl) rfl ?_
  refine zV_iconst dX5_partyOf_2 ?_
  refine zV_istore_n dX5_partyOf_3 rfl (Nat.le_of_ble_eq_true rfl) rfl ?_
  have L4 : ∀ (m : Nat) (s : Nat), (jn + 1 ≤ s + m) → (s ≤ jn) → zV (E, mX5_partyOf, d, k, (fun r h' => r = some (ziv (ptS (h (t + 5)) w jn)) ∧ h' = h), (fun _ _ => False), a) 0 4 [zrv E 0, ziv w, ziv (ptS (h (t + 5)) w s), ziv (s : Int)] [] h := by
    intro m
    induction m with
    | zero => intro s hm_ hsn; exfalso; omega
    | succ m ih =>
      intro s hm_ hsn
      refine zV_iload_n dX5_partyOf_4 rfl rfl ?_
      refine zV_aload_nr dX5_partyOf_5 rfl rfl ?_
      refine gf5_20 (t := t) (k0) rfl (rfl) dX5_partyOf_6 ?_
      refine gf5_109 rfl (court_0 ht) dX5_partyOf_9 ?_
      rw [hct.2.2.2.2.1]
      refine zR_icmp_ge (tgt := 40) dX5_partyOf_12 (by decide) (by omega) (by omega) (fun h12 => ?_) (fun h12 => ?_)
      · refine zV_iload_n dX5_partyOf_40 rfl rfl ?_
        exact zV_ireturn dX5_partyOf_41 rfl (Nat.zero_le _) ⟨by rw [show jn = s by omega], rfl⟩
      · refine zV_aload_nr dX5_partyOf_15 rfl rfl ?_
        refine gf5_20 (t := t) (k0) rfl (rfl) dX5_partyOf_16 ?_
        refine gf5_176 rfl (court_0 ht) dX5_partyOf_19 ?_
        refine zV_iload_n dX5_partyOf_22 rfl rfl ?_
        refine zV_ialoadN (i := s) (N := 8) (court_5 ht) (by omega) (by decide) dX5_partyOf_23 ?_
        refine zV_iload_n dX5_partyOf_24 rfl rfl ?_
        have b1 := hwi s (by omega)
        refine zR_icmp_ne (tgt := 34) dX5_partyOf_25 (by decide) (by omega) (by omega) (fun h25 => ?_) (fun h25 => ?_)
        · refine zV_iinc dX5_partyOf_34 rfl (Nat.le_of_ble_eq_true rfl) rfl ?_
          refine zV_goto (tgt := 4) dX5_partyOf_37 (by decide) ?_
          refine zV_lveq (lv' := [zrv E 0, ziv w, ziv (ptS (h (t + 5)) w (s + 1)), ziv ((s + 1 : Nat) : Int)]) (by rw [show ptS (h (t + 5)) w (s + 1) = ptS (h (t + 5)) w s from if_neg h25]; rfl) ?_
          exact ih (s + 1) (by omega) (by omega)
        · refine zV_iload_n dX5_partyOf_28 rfl rfl ?_
          refine zV_iconst dX5_partyOf_29 ?_
          refine zV_iload_n dX5_partyOf_30 rfl rfl ?_
          refine zV_ishl dX5_partyOf_31 ?_
          refine zV_ior dX5_partyOf_32 ?_
          refine zV_istore_n dX5_partyOf_33 rfl (Nat.le_of_ble_eq_true rfl) rfl ?_
          refine zV_iinc dX5_partyOf_34 rfl (Nat.le_of_ble_eq_true rfl) rfl ?_
          refine zV_goto (tgt := 4) dX5_partyOf_37 (by decide) ?_
          refine zV_lveq (lv' := [zrv E 0, ziv w, ziv (ptS (h (t + 5)) w (s + 1)), ziv ((s + 1 : Nat) : Int)]) (by rw [show ptS (h (t + 5)) w (s + 1) = zor (ptS (h (t + 5)) w s) (zshl 1 s) from if_pos h25]; rfl) ?_
          exact ih (s + 1) (by omega) (by omega)
  exact L4 (jn + 1) 0 (by omega) (by omega)
set_option maxRecDepth 100000 in
theorem c5_seat {E : zE} {h : zH} {t n jn : Nat} {x : Int} (hx : -2147483648 ≤ x ∧ x ≤ 2147483647) (hi : tInv h t n jn) : zCal E mX5_seat 12 4 [zrv E 0, ziv x] h (fun r h' => (0 ≤ x ∧ x < jn) ∧ r = some (ziv (h 36 x.toNat)) ∧ h' = h) (fun e h' => h' = h ∧ e = NSE ∧ ¬ (0 ≤ x ∧ x < jn)) := by
  refine zCal_of (by decide) (Nat.le_of_ble_eq_true rfl) (fun a => ?_)
  show zV _ 0 0 [zrv E 0, ziv x] [] _
  have ht := hi.2.1.1
  have k0 := hi.1
  have hnum := hi.2.2.2.2
  have hn8 := hi.2.1.2.1
  have hjn8 := hi.2.1.2.2.1
  refine zV_iload_n dX5_seat_0 rfl rfl ?_
  refine zR_if_lt (tgt := 15) dX5_seat_1 (by decide) (by omega) (fun h1 => ?_) (fun h1 => ?_)
  · exact zV_nse (i := 4) rfl rfl ⟨Nat.le_of_ble_eq_true rfl, Nat.le_of_ble_eq_true rfl⟩ dX5_seat_15 dX5_seat_18 dX5_seat_19 dX5_seat_21 dX5_seat_24 ⟨rfl, rfl, by omega⟩
  · refine zV_iload_n dX5_seat_4 rfl rfl ?_
    refine zV_aload_nr dX5_seat_5 rfl rfl ?_
    refine gf5_20 (t := t) (k0) rfl (rfl) dX5_seat_6 ?_
    refine gf5_109 rfl (court_0 ht) dX5_seat_9 ?_
    rw [hi.2.1.2.2.2.2.1]
    refine zR_icmp_lt (tgt := 25) dX5_seat_12 (by decide) (by omega) (by omega) (fun h12 => ?_) (fun h12 => ?_)
    · refine zV_aload_nr dX5_seat_25 rfl rfl ?_
      refine gf5_41 rfl (rfl) dX5_seat_26 ?_
      refine zV_teq (w := zrv E 31) rfl ?_
      refine gf5_112 rfl (rfl) dX5_seat_29 ?_
      refine zV_teq (w := zrv E 32) rfl ?_
      refine gf5_194 rfl (rfl) dX5_seat_32 ?_
      refine zV_teq (w := zrv E 36) rfl ?_
      refine zV_iload_n dX5_seat_35 rfl rfl ?_
      refine zV_iaload (N := 8) (rfl) (by omega) (by decide) dX5_seat_36 ?_
      exact zV_ireturn dX5_seat_37 rfl (Nat.le_of_ble_eq_true rfl) ⟨by omega, rfl, rfl⟩
    · exact zV_nse (i := 4) rfl rfl ⟨Nat.le_of_ble_eq_true rfl, Nat.le_of_ble_eq_true rfl⟩ dX5_seat_15 dX5_seat_18 dX5_seat_19 dX5_seat_21 dX5_seat_24 ⟨rfl, rfl, by omega⟩
set_option maxRecDepth 100000 in
theorem c5_heap {E : zE} {h : zH} {t n jn : Nat} {x : Int} (hx : -2147483648 ≤ x ∧ x ≤ 2147483647) (hi : tInv h t n jn) : zCal E mX5_heap 12 4 [zrv E 0, ziv x] h (fun r h' => (0 ≤ x ∧ x < 12) ∧ r = some (ziv (ptS (h 33) x n)) ∧ h' = h) (fun e h' => h' = h ∧ e = NSE ∧ ¬ (0 ≤ x ∧ x < 12)) := by
  refine zCal_of (by decide) (Nat.le_of_ble_eq_true rfl) (fun a => ?_)
  show zV _ 0 0 [zrv E 0, ziv x, .null, .null] [] _
  have ht := hi.2.1.1
  have k0 := hi.1
  have hnum := hi.2.2.2.2
  have hn8 := hi.2.1.2.1
  have hjn8 := hi.2.1.2.2.1
  refine zV_iload_n dX5_heap_0 rfl rfl ?_
  refine zV_callS (As := [ziv x]) lk5_197 (c5_needPlace (by omega)) ⟨Nat.le_of_ble_eq_true rfl, Nat.le_of_ble_eq_true rfl⟩ rfl (Nat.le_of_ble_eq_true rfl) dX5_heap_1 (fun e h2 z => ⟨z.2.1, z.1, z.2.2⟩) (fun r h' q => ?_)
  obtain ⟨rfl, hh, cp⟩ := q
  rw [hh]
  refine zV_iconst dX5_heap_4 ?_
  refine zV_istore_n dX5_heap_5 rfl (Nat.le_of_ble_eq_true rfl) rfl ?_
  refine zV_iconst dX5_heap_6 ?_
  refine zV_istore_n dX5_heap_7 rfl (Nat.le_of_ble_eq_true rfl) rfl ?_
  have L8 : ∀ (m : Nat) (s : Nat), (n + 1 ≤ s + m) → (s ≤ n) → zV (E, mX5_heap, 12, 4, (fun r h' => (0 ≤ x ∧ x < 12) ∧ r = some (ziv (ptS (h 33) x n)) ∧ h' = h), (fun e h' => h' = h ∧ e = NSE ∧ ¬ (0 ≤ x ∧ x < 12)), a) 1 8 [zrv E 0, ziv x, ziv (ptS (h 33) x s), ziv (s : Int)] [] h := by
    intro m
    induction m with
    | zero => intro s hm_ hsn; exfalso; omega
    | succ m ih =>
      intro s hm_ hsn
      refine zV_iload_n dX5_heap_8 rfl rfl ?_
      refine zV_aload_nr dX5_heap_9 rfl rfl ?_
      refine gf5_20 (t := t) (k0) rfl (rfl) dX5_heap_10 ?_
      refine gf5_106 rfl (court_0 ht) dX5_heap_13 ?_
      rw [hi.2.1.2.2.2.1]
      refine zR_icmp_ge (tgt := 47) dX5_heap_16 (by decide) (by omega) (by omega) (fun h16 => ?_) (fun h16 => ?_)
      · refine zV_iload_n dX5_heap_47 rfl rfl ?_
        exact zV_ireturn dX5_heap_48 rfl (Nat.le_of_ble_eq_true rfl) ⟨cp, by rw [show n = s by omega], rfl⟩
      · refine zV_aload_nr dX5_heap_19 rfl rfl ?_
        refine gf5_41 rfl (rfl) dX5_heap_20 ?_
        refine zV_teq (w := zrv E 31) rfl ?_
        refine gf5_112 rfl (rfl) dX5_heap_23 ?_
        refine zV_teq (w := zrv E 32) rfl ?_
        refine gf5_159 rfl (rfl) dX5_heap_26 ?_
        refine zV_teq (w := zrv E 33) rfl ?_
        refine zV_iload_n dX5_heap_29 rfl rfl ?_
        refine zV_ialoadN (i := s) (N := 8) (rfl) (by omega) (by decide) dX5_heap_30 ?_
        refine zV_iload_n dX5_heap_31 rfl rfl ?_
        have b1 : 0 ≤ h 33 s ∧ h 33 s < 12 := hi.2.2.1.2.1 s (by omega)
        refine zR_icmp_ne (tgt := 41) dX5_heap_32 (by decide) (by omega) (by omega) (fun h32 => ?_) (fun h32 => ?_)
        · refine zV_iinc dX5_heap_41 rfl (Nat.le_of_ble_eq_true rfl) rfl ?_
          refine zV_goto (tgt := 8) dX5_heap_44 (by decide) ?_
          refine zV_lveq (lv' := [zrv E 0, ziv x, ziv (ptS (h 33) x (s + 1)), ziv ((s + 1 : Nat) : Int)]) (by rw [show ptS (h 33) x (s + 1) = ptS (h 33) x s from if_neg h32]; rfl) ?_
          exact ih (s + 1) (by omega) (by omega)
        · refine zV_iload_n dX5_heap_35 rfl rfl ?_
          refine zV_iconst dX5_heap_36 ?_
          refine zV_iload_n dX5_heap_37 rfl rfl ?_
          refine zV_ishl dX5_heap_38 ?_
          refine zV_ior dX5_heap_39 ?_
          refine zV_istore_n dX5_heap_40 rfl (Nat.le_of_ble_eq_true rfl) rfl ?_
          refine zV_iinc dX5_heap_41 rfl (Nat.le_of_ble_eq_true rfl) rfl ?_
          refine zV_goto (tgt := 8) dX5_heap_44 (by decide) ?_
          refine zV_lveq (lv' := [zrv E 0, ziv x, ziv (ptS (h 33) x (s + 1)), ziv ((s + 1 : Nat) : Int)]) (by rw [show ptS (h 33) x (s + 1) = zor (ptS (h 33) x s) (zshl 1 s) from if_pos h32]; rfl) ?_
          exact ih (s + 1) (by omega) (by omega)
  exact L8 (n + 1) 0 (by omega) (by omega)
set_option maxRecDepth 100000 in
theorem c5_weight {E : zE} {h : zH} {t n jn : Nat} {x : Int} (hx : -2147483648 ≤ x ∧ x ≤ 2147483647) (hi : tInv h t n jn) : zCal E mX5_weight 12 4 [zrv E 0, ziv x] h (fun r h' => (0 ≤ x ∧ x < 12) ∧ r = some (ziv (wtS (h 33) (h (t + 2)) x n)) ∧ h' = h) (fun e h' => h' = h ∧ e = NSE ∧ ¬ (0 ≤ x ∧ x < 12)) := by
  refine zCal_of (by decide) (Nat.le_of_ble_eq_true rfl) (fun a => ?_)
  show zV _ 0 0 [zrv E 0, ziv x, .null, .null] [] _
  have ht := hi.2.1.1
  have k0 := hi.1
  have hnum := hi.2.2.2.2
  have hn8 := hi.2.1.2.1
  have hjn8 := hi.2.1.2.2.1
  refine zV_iload_n dX5_weight_0 rfl rfl ?_
  refine zV_callS (As := [ziv x]) lk5_197 (c5_needPlace (by omega)) ⟨Nat.le_of_ble_eq_true rfl, Nat.le_of_ble_eq_true rfl⟩ rfl (Nat.le_of_ble_eq_true rfl) dX5_weight_1 (fun e h2 z => ⟨z.2.1, z.1, z.2.2⟩) (fun r h' q => ?_)
  obtain ⟨rfl, hh, cp⟩ := q
  rw [hh]
  refine zV_iconst dX5_weight_4 ?_
  refine zV_istore_n dX5_weight_5 rfl (Nat.le_of_ble_eq_true rfl) rfl ?_
  refine zV_iconst dX5_weight_6 ?_
  refine zV_istore_n dX5_weight_7 rfl (Nat.le_of_ble_eq_true rfl) rfl ?_
  have L8 : ∀ (m : Nat) (s : Nat), (n + 1 ≤ s + m) → (s ≤ n) → zV (E, mX5_weight, 12, 4, (fun r h' => (0 ≤ x ∧ x < 12) ∧ r = some (ziv (wtS (h 33) (h (t + 2)) x n)) ∧ h' = h), (fun e h' => h' = h ∧ e = NSE ∧ ¬ (0 ≤ x ∧ x < 12)), a) 1 8 [zrv E 0, ziv x, ziv (wtS (h 33) (h (t + 2)) x s), ziv (s : Int)] [] h := by
    intro m
    induction m with
    | zero => intro s hm_ hsn; exfalso; omega
    | succ m ih =>
      intro s hm_ hsn
      refine zV_iload_n dX5_weight_8 rfl rfl ?_
      refine zV_aload_nr dX5_weight_9 rfl rfl ?_
      refine gf5_20 (t := t) (k0) rfl (rfl) dX5_weight_10 ?_
      refine gf5_106 rfl (court_0 ht) dX5_weight_13 ?_
      rw [hi.2.1.2.2.2.1]
      refine zR_icmp_ge (tgt := 53) dX5_weight_16 (by decide) (by omega) (by omega) (fun h16 => ?_) (fun h16 => ?_)
      · refine zV_iload_n dX5_weight_53 rfl rfl ?_
        exact zV_ireturn dX5_weight_54 rfl (Nat.le_of_ble_eq_true rfl) ⟨cp, by rw [show n = s by omega], rfl⟩
      · refine zV_aload_nr dX5_weight_19 rfl rfl ?_
        refine gf5_41 rfl (rfl) dX5_weight_20 ?_
        refine zV_teq (w := zrv E 31) rfl ?_
        refine gf5_112 rfl (rfl) dX5_weight_23 ?_
        refine zV_teq (w := zrv E 32) rfl ?_
        refine gf5_159 rfl (rfl) dX5_weight_26 ?_
        refine zV_teq (w := zrv E 33) rfl ?_
        refine zV_iload_n dX5_weight_29 rfl rfl ?_
        refine zV_ialoadN (i := s) (N := 8) (rfl) (by omega) (by decide) dX5_weight_30 ?_
        refine zV_iload_n dX5_weight_31 rfl rfl ?_
        have b1 : 0 ≤ h 33 s ∧ h 33 s < 12 := hi.2.2.1.2.1 s (by omega)
        refine zR_icmp_ne (tgt := 47) dX5_weight_32 (by decide) (by omega) (by omega) (fun h32 => ?_) (fun h32 => ?_)
        · refine zV_iinc dX5_weight_47 rfl (Nat.le_of_ble_eq_true rfl) rfl ?_
          refine zV_goto (tgt := 8) dX5_weight_50 (by decide) ?_
          refine zV_lveq (lv' := [zrv E 0, ziv x, ziv (wtS (h 33) (h (t + 2)) x (s + 1)), ziv ((s + 1 : Nat) : Int)]) (by rw [show wtS (h 33) (h (t + 2)) x (s + 1) = wtS (h 33) (h (t + 2)) x s from if_neg h32]; rfl) ?_
          exact ih (s + 1) (by omega) (by omega)
        · refine zV_iload_n dX5_weight_35 rfl rfl ?_
          refine zV_aload_nr dX5_weight_36 rfl rfl ?_
          refine gf5_20 (t := t) (k0) rfl (rfl) dX5_weight_37 ?_
          refine gf5_162 rfl (court_0 ht) dX5_weight_40 ?_
          refine zV_iload_n dX5_weight_43 rfl rfl ?_
          refine zV_ialoadN (i := s) (N := 8) (court_2 ht) (by omega) (by decide) dX5_weight_44 ?_
          refine zV_iadd dX5_weight_45 ?_
          refine zV_istore_n dX5_weight_46 rfl (Nat.le_of_ble_eq_true rfl) rfl ?_
          refine zV_iinc dX5_weight_47 rfl (Nat.le_of_ble_eq_true rfl) rfl ?_
          refine zV_goto (tgt := 8) dX5_weight_50 (by decide) ?_
          refine zV_lveq (lv' := [zrv E 0, ziv x, ziv (wtS (h 33) (h (t + 2)) x (s + 1)), ziv ((s + 1 : Nat) : Int)]) (by rw [show wtS (h 33) (h (t + 2)) x (s + 1) = wtS (h 33) (h (t + 2)) x s + h (t + 2) s from if_pos h32]; rfl) ?_
          exact ih (s + 1) (by omega) (by omega)
  exact L8 (n + 1) 0 (by omega) (by omega)
set_option maxRecDepth 100000 in
theorem c5_apart {E : zE} {h : zH} {t n jn : Nat} {x y : Int} (hx : -2147483648 ≤ x ∧ x ≤ 2147483647) (hy : -2147483648 ≤ y ∧ y ≤ 2147483647) (hi : tInv h t n jn) : zCal E mX5_apart 12 4 [zrv E 0, ziv x, ziv y] h (fun r h' => ((0 ≤ x ∧ x < n) ∧ (0 ≤ y ∧ y < n)) ∧ r = some (ziv (min (if 0 ≤ h 33 x.toNat - h 33 y.toNat then h 33 x.toNat - h 33 y.toNat else -(h 33 x.toNat - h 33 y.toNat)) (12 - (if 0 ≤ h 33 x.toNat - h 33 y.toNat then h 33 x.toNat - h 33 y.toNat else -(h 33 x.toNat - h 33 y.toNat))))) ∧ h' = h) (fun e h' => h' = h ∧ e = NSE ∧ ¬ ((0 ≤ x ∧ x < n) ∧ (0 ≤ y ∧ y < n))) := by
  refine zCal_of (by decide) (Nat.le_of_ble_eq_true rfl) (fun a => ?_)
  show zV _ 0 0 [zrv E 0, ziv x, ziv y, .null] [] _
  have ht := hi.2.1.1
  have k0 := hi.1
  have hnum := hi.2.2.2.2
  have hn8 := hi.2.1.2.1
  have hjn8 := hi.2.1.2.2.1
  refine zV_aload_nr dX5_apart_0 rfl rfl ?_
  refine zV_iload_n dX5_apart_1 rfl rfl ?_
  refine zV_callV (As := [ziv x]) lk5_156 (rfl) rfl rfl (c5_needLeaf ht k0 hi.2.1.2.2.2.1 hi.2.1.2.1 (by omega)) ⟨Nat.le_of_ble_eq_true rfl, Nat.le_of_ble_eq_true rfl⟩ rfl (Nat.le_of_ble_eq_true rfl) dX5_apart_2 (fun e h2 z => ⟨z.2.1, z.1, fun w => z.2.2 w.1⟩) (fun r h' q => ?_)
  obtain ⟨rfl, hh, cl⟩ := q
  rw [hh]
  refine zV_aload_nr dX5_apart_5 rfl rfl ?_
  refine zV_iload_n dX5_apart_6 rfl rfl ?_
  refine zV_callV (As := [ziv y]) lk5_156 (rfl) rfl rfl (c5_needLeaf ht k0 hi.2.1.2.2.2.1 hi.2.1.2.1 (by omega)) ⟨Nat.le_of_ble_eq_true rfl, Nat.le_of_ble_eq_true rfl⟩ rfl (Nat.le_of_ble_eq_true rfl) dX5_apart_7 (fun e h2 z => ⟨z.2.1, z.1, fun w => z.2.2 w.2⟩) (fun r h' q => ?_)
  obtain ⟨rfl, hh, cl2⟩ := q
  rw [hh]
  refine zV_aload_nr dX5_apart_10 rfl rfl ?_
  refine gf5_41 rfl (rfl) dX5_apart_11 ?_
  refine zV_teq (w := zrv E 31) rfl ?_
  refine gf5_112 rfl (rfl) dX5_apart_14 ?_
  refine zV_teq (w := zrv E 32) rfl ?_
  refine gf5_159 rfl (rfl) dX5_apart_17 ?_
  refine zV_teq (w := zrv E 33) rfl ?_
  refine zV_iload_n dX5_apart_20 rfl rfl ?_
  refine zV_iaload (N := 8) (rfl) (by omega) (by decide) dX5_apart_21 ?_
  refine zV_aload_nr dX5_apart_22 rfl rfl ?_
  refine gf5_41 rfl (rfl) dX5_apart_23 ?_
  refine zV_teq (w := zrv E 31) rfl ?_
  refine gf5_112 rfl (rfl) dX5_apart_26 ?_
  refine zV_teq (w := zrv E 32) rfl ?_
  refine gf5_159 rfl (rfl) dX5_apart_29 ?_
  refine zV_teq (w := zrv E 33) rfl ?_
  refine zV_iload_n dX5_apart_32 rfl rfl ?_
  refine zV_iaload (N := 8) (rfl) (by omega) (by decide) dX5_apart_33 ?_
  refine zV_isub dX5_apart_34 ?_
  have b1 : 0 ≤ h 33 x.toNat ∧ h 33 x.toNat < 12 := hi.2.2.1.2.1 x.toNat (by omega)
  have b2 : 0 ≤ h 33 y.toNat ∧ h 33 y.toNat < 12 := hi.2.2.1.2.1 y.toNat (by omega)
  refine zV_callS (As := [ziv (h 33 x.toNat - h 33 y.toNat)]) lk5_200 (cJ_abs 11 0 (by omega)) ⟨by show _ + 1 ≤ 12; omega, by show _ ≤ 4; omega⟩ rfl (Nat.le_of_ble_eq_true rfl) dX5_apart_35 (fun _ _ z => z.elim) (fun r h' q => ?_)
  obtain ⟨rfl, hh⟩ := q
  rw [hh]
  refine zV_istore_n dX5_apart_38 rfl (Nat.le_of_ble_eq_true rfl) rfl ?_
  refine zV_iload_n dX5_apart_39 rfl rfl ?_
  refine zV_bipush dX5_apart_40 (by decide) ?_
  refine zV_iload_n dX5_apart_42 rfl rfl ?_
  refine zV_isub dX5_apart_43 ?_
  refine zV_callS (As := [ziv (if 0 ≤ h 33 x.toNat - h 33 y.toNat then h 33 x.toNat - h 33 y.toNat else -(h 33 x.toNat - h 33 y.toNat)), ziv (12 - (if 0 ≤ h 33 x.toNat - h 33 y.toNat then h 33 x.toNat - h 33 y.toNat else -(h 33 x.toNat - h 33 y.toNat)))]) lk5_205 (cJ_min 11 0 (by split <;> omega) (by split <;> omega)) ⟨by show _ + 1 ≤ 12; omega, by show _ ≤ 4; omega⟩ rfl (Nat.le_of_ble_eq_true rfl) dX5_apart_44 (fun _ _ z => z.elim) (fun r h' q => ?_)
  obtain ⟨rfl, hh⟩ := q
  rw [hh]
  exact zV_ireturn dX5_apart_47 rfl (Nat.le_of_ble_eq_true rfl) ⟨⟨cl, cl2⟩, rfl, rfl⟩
set_option maxRecDepth 100000 in
theorem c5_stir {E : zE} {h : zH} {t n jn : Nat} {x y z : Int} (hx : -2147483648 ≤ x ∧ x ≤ 2147483647) (hy : -2147483648 ≤ y ∧ y ≤ 2147483647) (hz : -2147483648 ≤ z ∧ z ≤ 2147483647) (hi : tInv h t n jn) : zCal E mX5_stir 12 4 [zrv E 0, ziv x, ziv y, ziv z] h (fun r h' => ((0 ≤ x ∧ x < jn) ∧ (0 ≤ y ∧ y < n)) ∧ (0 ≤ z ∧ z ≤ 99) ∧ r = some (ziv (stirS (h 33 y.toNat) (pushS (h 35 x.toNat) z) (h (t + 2) y.toNat))) ∧ h' = h) (fun e h' => h' = h ∧ ((e = NSE ∧ ¬ ((0 ≤ x ∧ x < jn) ∧ (0 ≤ y ∧ y < n))) ∨ (e = IAE ∧ (((0 ≤ x ∧ x < jn) ∧ (0 ≤ y ∧ y < n)) ∧ ¬ (0 ≤ z ∧ z ≤ 99))))) := by
  refine zCal_of (by decide) (Nat.le_of_ble_eq_true rfl) (fun a => ?_)
  show zV _ 0 0 [zrv E 0, ziv x, ziv y, ziv z] [] _
  have ht := hi.2.1.1
  have k0 := hi.1
  have hnum := hi.2.2.2.2
  have hn8 := hi.2.1.2.1
  have hjn8 := hi.2.1.2.2.1
  refine zV_aload_nr dX5_stir_0 rfl rfl ?_
  refine zV_iload_n dX5_stir_1 rfl rfl ?_
  refine zV_callV (As := [ziv x]) lk5_167 (rfl) rfl rfl (c5_needJudge ht k0 hi.2.1.2.2.2.2.1 hi.2.1.2.2.1 (by omega)) ⟨Nat.le_of_ble_eq_true rfl, Nat.le_of_ble_eq_true rfl⟩ rfl (Nat.le_of_ble_eq_true rfl) dX5_stir_2 (fun e h2 z9 => ⟨z9.2.1, Or.inl ⟨z9.1, fun w => z9.2.2 w.1⟩⟩) (fun r h' q => ?_)
  obtain ⟨rfl, hh, cj⟩ := q
  rw [hh]
  refine zV_aload_nr dX5_stir_5 rfl rfl ?_
  refine zV_iload_n dX5_stir_6 rfl rfl ?_
  refine zV_callV (As := [ziv y]) lk5_156 (rfl) rfl rfl (c5_needLeaf ht k0 hi.2.1.2.2.2.1 hi.2.1.2.1 (by omega)) ⟨Nat.le_of_ble_eq_true rfl, Nat.le_of_ble_eq_true rfl⟩ rfl (Nat.le_of_ble_eq_true rfl) dX5_stir_7 (fun e h2 z9 => ⟨z9.2.1, Or.inl ⟨z9.1, fun w => z9.2.2 w.2⟩⟩) (fun r h' q => ?_)
  obtain ⟨rfl, hh, cl⟩ := q
  rw [hh]
  refine zV_iload_n dX5_stir_10 rfl rfl ?_
  refine zV_iconst dX5_stir_11 ?_
  refine zV_bipush dX5_stir_12 (by decide) ?_
  refine zV_callS (As := [ziv z, ziv 0, ziv 99]) lk5_208 (c5_needWithin (by omega) (by decide) (by decide)) ⟨Nat.le_of_ble_eq_true rfl, Nat.le_of_ble_eq_true rfl⟩ rfl (Nat.le_of_ble_eq_true rfl) dX5_stir_14 (fun e h2 z9 => ⟨z9.2.1, Or.inr ⟨z9.1, ⟨cj, cl⟩, z9.2.2⟩⟩) (fun r h' q => ?_)
  obtain ⟨rfl, hh, ci⟩ := q
  rw [hh]
  refine zV_aload_nr dX5_stir_17 rfl rfl ?_
  refine gf5_41 rfl (rfl) dX5_stir_18 ?_
  refine zV_teq (w := zrv E 31) rfl ?_
  refine gf5_112 rfl (rfl) dX5_stir_21 ?_
  refine zV_teq (w := zrv E 32) rfl ?_
  refine gf5_159 rfl (rfl) dX5_stir_24 ?_
  refine zV_teq (w := zrv E 33) rfl ?_
  refine zV_iload_n dX5_stir_27 rfl rfl ?_
  refine zV_iaload (N := 8) (rfl) (by omega) (by decide) dX5_stir_28 ?_
  refine zV_aload_nr dX5_stir_29 rfl rfl ?_
  refine gf5_41 rfl (rfl) dX5_stir_30 ?_
  refine zV_teq (w := zrv E 31) rfl ?_
  refine gf5_112 rfl (rfl) dX5_stir_33 ?_
  refine zV_teq (w := zrv E 32) rfl ?_
  refine gf5_173 rfl (rfl) dX5_stir_36 ?_
  refine zV_teq (w := zrv E 35) rfl ?_
  refine zV_iload_n dX5_stir_39 rfl rfl ?_
  refine zV_iaload (N := 8) (rfl) (by omega) (by decide) dX5_stir_40 ?_
  refine zV_iload_n dX5_stir_41 rfl rfl ?_
  refine zV_callS (As := [ziv (h 35 x.toNat), ziv z]) lk5_212 (c2_push 11 0 (hi.2.2.1.2.2.2.1 x.toNat (by omega)) ci) ⟨by show _ + 1 ≤ 12; omega, by show _ ≤ 4; omega⟩ rfl (Nat.le_of_ble_eq_true rfl) dX5_stir_42 (fun _ _ z => z.elim) (fun r h' q => ?_)
  obtain ⟨rfl, hh⟩ := q
  rw [hh]
  refine zV_aload_nr dX5_stir_45 rfl rfl ?_
  refine gf5_20 (t := t) (k0) rfl (rfl) dX5_stir_46 ?_
  refine gf5_162 rfl (court_0 ht) dX5_stir_49 ?_
  refine zV_iload_n dX5_stir_52 rfl rfl ?_
  refine zV_iaload (N := 8) (court_2 ht) (by omega) (by decide) dX5_stir_53 ?_
  refine zV_callS (As := [ziv (h 33 y.toNat), ziv (pushS (h 35 x.toNat) z), ziv (h (t + 2) y.toNat)]) lk5_215 (c2_stirred 11 0 (by decide) (by have b1 : 0 ≤ h 33 y.toNat ∧ h 33 y.toNat < 12 := hi.2.2.1.2.1 y.toNat (by omega); omega) (pushS_r (hi.2.2.1.2.2.2.1 x.toNat (by omega)) ci) (hi.2.1.2.2.2.2.2.1 y.toNat (by omega))) ⟨by show _ + 1 ≤ 12; omega, by show _ ≤ 4; omega⟩ rfl (Nat.le_of_ble_eq_true rfl) dX5_stir_54 (fun _ _ z => z.elim) (fun r h' q => ?_)
  obtain ⟨rfl, hh⟩ := q
  rw [hh]
  exact zV_ireturn dX5_stir_57 rfl (Nat.le_of_ble_eq_true rfl) ⟨⟨cj, cl⟩, ci, rfl, rfl⟩
set_option maxRecDepth 100000 in
theorem c5_leaf {E : zE} {h : zH} {t n jn : Nat} {x w : Int} (hx : -2147483648 ≤ x ∧ x ≤ 2147483647) (hw : -2147483648 ≤ w ∧ w ≤ 2147483647) (hi : tInv h t n jn) : zCal E mX5_leaf 12 4 [zrv E 0, ziv x, ziv w] h (fun r h' => ((0 ≤ x ∧ x < n) ∧ (0 ≤ w ∧ w ≤ 1)) ∧ r = some (ziv (if w = 0 then h 33 x.toNat else h (t + 2) x.toNat)) ∧ h' = h) (fun e h' => h' = h ∧ e = NSE ∧ ¬ ((0 ≤ x ∧ x < n) ∧ (0 ≤ w ∧ w ≤ 1))) := by
  refine zCal_of (by decide) (Nat.le_of_ble_eq_true rfl) (fun a => ?_)
  show zV _ 0 0 [zrv E 0, ziv x, ziv w] [] _
  have ht := hi.2.1.1
  have k0 := hi.1
  have hnum := hi.2.2.2.2
  have hn8 := hi.2.1.2.1
  have hjn8 := hi.2.1.2.2.1
  refine zV_aload_nr dX5_leaf_0 rfl rfl ?_
  refine zV_iload_n dX5_leaf_1 rfl rfl ?_
  refine zV_callV (As := [ziv x]) lk5_156 (rfl) rfl rfl (c5_needLeaf ht k0 hi.2.1.2.2.2.1 hi.2.1.2.1 (by omega)) ⟨Nat.le_of_ble_eq_true rfl, Nat.le_of_ble_eq_true rfl⟩ rfl (Nat.le_of_ble_eq_true rfl) dX5_leaf_2 (fun e h2 z => ⟨z.2.1, z.1, fun w9 => z.2.2 w9.1⟩) (fun r h' q => ?_)
  obtain ⟨rfl, hh, cl⟩ := q
  rw [hh]
  refine zV_iload_n dX5_leaf_5 rfl rfl ?_
  rcases (show w = 0 ∨ w = 1 ∨ (w ≠ 0 ∧ w ≠ 1) by omega) with hv6 | hv6 | hv6
  · refine zV_teq (congrArg ziv hv6.symm) ?_
    refine zV_lookup (off := 26) (tgt := 32) dX5_leaf_6 (by decide) (by decide) (by decide) ?_
    refine zV_aload_nr dX5_leaf_32 rfl rfl ?_
    refine gf5_41 rfl (rfl) dX5_leaf_33 ?_
    refine zV_teq (w := zrv E 31) rfl ?_
    refine gf5_112 rfl (rfl) dX5_leaf_36 ?_
    refine zV_teq (w := zrv E 32) rfl ?_
    refine gf5_159 rfl (rfl) dX5_leaf_39 ?_
    refine zV_teq (w := zrv E 33) rfl ?_
    refine zV_iload_n dX5_leaf_42 rfl rfl ?_
    refine zV_iaload (N := 8) (rfl) (by omega) (by decide) dX5_leaf_43 ?_
    exact zV_ireturn dX5_leaf_44 rfl (Nat.le_of_ble_eq_true rfl) ⟨⟨cl, by omega⟩, by rw [if_pos hv6], rfl⟩
  · refine zV_teq (congrArg ziv hv6.symm) ?_
    refine zV_lookup (off := 39) (tgt := 45) dX5_leaf_6 (by decide) (by decide) (by decide) ?_
    refine zV_aload_nr dX5_leaf_45 rfl rfl ?_
    refine gf5_20 (t := t) (k0) rfl (rfl) dX5_leaf_46 ?_
    refine gf5_162 rfl (court_0 ht) dX5_leaf_49 ?_
    refine zV_iload_n dX5_leaf_52 rfl rfl ?_
    refine zV_iaload (N := 8) (court_2 ht) (by omega) (by decide) dX5_leaf_53 ?_
    exact zV_ireturn dX5_leaf_54 rfl (Nat.le_of_ble_eq_true rfl) ⟨⟨cl, by omega⟩, by rw [if_neg (by omega)], rfl⟩
  · refine zV_lookup (off := 49) (tgt := 55) dX5_leaf_6 (by decide) (by rw [zn_of (by omega) (by omega)]; simp [Op.lookupswitch.offset, hv6]; try omega) (by decide) ?_
    exact zV_nse (i := 2) rfl rfl ⟨Nat.le_of_ble_eq_true rfl, Nat.le_of_ble_eq_true rfl⟩ dX5_leaf_55 dX5_leaf_58 dX5_leaf_59 dX5_leaf_61 dX5_leaf_64 ⟨rfl, rfl, by omega⟩
set_option maxRecDepth 100000 in
theorem c5_judge {E : zE} {h : zH} {t n jn : Nat} {x w : Int} (hx : -2147483648 ≤ x ∧ x ≤ 2147483647) (hw : -2147483648 ≤ w ∧ w ≤ 2147483647) (hwi : ∀ j, j < jn → 0 ≤ h (t + 5) j ∧ h (t + 5) j ≤ 4) (hi : tInv h t n jn) : zCal E mX5_judge 12 4 [zrv E 0, ziv x, ziv w] h (fun r h' => ((0 ≤ x ∧ x < jn) ∧ (0 ≤ w ∧ w ≤ 5)) ∧ r = some (ziv (judV h t jn x w)) ∧ h' = h) (fun e h' => h' = h ∧ e = NSE ∧ ¬ ((0 ≤ x ∧ x < jn) ∧ (0 ≤ w ∧ w ≤ 5))) := by
  refine zCal_of (by decide) (Nat.le_of_ble_eq_true rfl) (fun a => ?_)
  show zV _ 0 0 [zrv E 0, ziv x, ziv w] [] _
  have ht := hi.2.1.1
  have k0 := hi.1
  have hnum := hi.2.2.2.2
  have hn8 := hi.2.1.2.1
  have hjn8 := hi.2.1.2.2.1
  refine zV_aload_nr dX5_judge_0 rfl rfl ?_
  refine zV_iload_n dX5_judge_1 rfl rfl ?_
  refine zV_callV (As := [ziv x]) lk5_167 (rfl) rfl rfl (c5_needJudge ht k0 hi.2.1.2.2.2.2.1 hi.2.1.2.2.1 (by omega)) ⟨Nat.le_of_ble_eq_true rfl, Nat.le_of_ble_eq_true rfl⟩ rfl (Nat.le_of_ble_eq_true rfl) dX5_judge_2 (fun e h2 z => ⟨z.2.1, z.1, fun w9 => z.2.2 w9.1⟩) (fun r h' q => ?_)
  obtain ⟨rfl, hh, cj⟩ := q
  rw [hh]
  refine zV_iload_n dX5_judge_5 rfl rfl ?_
  rcases (show w = 0 ∨ w = 1 ∨ w = 2 ∨ w = 3 ∨ w = 4 ∨ w = 5 ∨ (w < 0 ∨ 5 < w) by omega) with hv6 | hv6 | hv6 | hv6 | hv6 | hv6 | hv6
  · refine zV_teq (congrArg ziv hv6.symm) ?_
    refine zV_tableIn (off := 38) (tgt := 44) dX5_judge_6 (by decide) (by decide) (by decide) (by decide) ?_
    refine zV_aload_nr dX5_judge_44 rfl rfl ?_
    refine gf5_20 (t := t) (k0) rfl (rfl) dX5_judge_45 ?_
    refine gf5_170 rfl (court_0 ht) dX5_judge_48 ?_
    refine zV_iload_n dX5_judge_51 rfl rfl ?_
    refine zV_iaload (N := 8) (court_3 ht) (by omega) (by decide) dX5_judge_52 ?_
    exact zV_ireturn dX5_judge_53 rfl (Nat.le_of_ble_eq_true rfl) ⟨⟨cj, by omega⟩, by rw [hv6]; rfl, rfl⟩
  · refine zV_teq (congrArg ziv hv6.symm) ?_
    refine zV_tableIn (off := 48) (tgt := 54) dX5_judge_6 (by decide) (by decide) (by decide) (by decide) ?_
    refine zV_aload_nr dX5_judge_54 rfl rfl ?_
    refine gf5_41 rfl (rfl) dX5_judge_55 ?_
    refine zV_teq (w := zrv E 31) rfl ?_
    refine gf5_112 rfl (rfl) dX5_judge_58 ?_
    refine zV_teq (w := zrv E 32) rfl ?_
    refine gf5_173 rfl (rfl) dX5_judge_61 ?_
    refine zV_teq (w := zrv E 35) rfl ?_
    refine zV_iload_n dX5_judge_64 rfl rfl ?_
    refine zV_iaload (N := 8) (rfl) (by omega) (by decide) dX5_judge_65 ?_
    exact zV_ireturn dX5_judge_66 rfl (Nat.le_of_ble_eq_true rfl) ⟨⟨cj, by omega⟩, by rw [hv6]; rfl, rfl⟩
  · refine zV_teq (congrArg ziv hv6.symm) ?_
    refine zV_tableIn (off := 61) (tgt := 67) dX5_judge_6 (by decide) (by decide) (by decide) (by decide) ?_
    refine zV_aload_nr dX5_judge_67 rfl rfl ?_
    refine gf5_20 (t := t) (k0) rfl (rfl) dX5_judge_68 ?_
    refine gf5_176 rfl (court_0 ht) dX5_judge_71 ?_
    refine zV_iload_n dX5_judge_74 rfl rfl ?_
    refine zV_iaload (N := 8) (court_5 ht) (by omega) (by decide) dX5_judge_75 ?_
    exact zV_ireturn dX5_judge_76 rfl (Nat.le_of_ble_eq_true rfl) ⟨⟨cj, by omega⟩, by rw [hv6]; rfl, rfl⟩
  · refine zV_teq (congrArg ziv hv6.symm) ?_
    refine zV_tableIn (off := 71) (tgt := 77) dX5_judge_6 (by decide) (by decide) (by decide) (by decide) ?_
    refine zV_aload_nr dX5_judge_77 rfl rfl ?_
    refine gf5_41 rfl (rfl) dX5_judge_78 ?_
    refine zV_teq (w := zrv E 31) rfl ?_
    refine gf5_112 rfl (rfl) dX5_judge_81 ?_
    refine zV_teq (w := zrv E 32) rfl ?_
    refine zV_iload_n dX5_judge_84 rfl rfl ?_
    refine zV_aload_nr dX5_judge_85 rfl rfl ?_
    refine gf5_20 (t := t) (k0) rfl (rfl) dX5_judge_86 ?_
    refine gf5_109 rfl (court_0 ht) dX5_judge_89 ?_
    rw [hi.2.1.2.2.2.2.1]
    refine zV_callV (As := [ziv x, ziv (jn : Int)]) lk5_179 (rfl) rfl rfl (c2_seatOf 11 0 (Or.inl rfl) (by omega) hjn8 (fun i hi9 => by have b1 := hi.2.2.1.2.2.2.2.1 i hi9; omega)) ⟨by show _ + 1 ≤ 12; omega, by show _ ≤ 4; omega⟩ rfl (Nat.le_of_ble_eq_true rfl) dX5_judge_92 (fun _ _ z => z.elim) (fun r h' q => ?_)
    obtain ⟨rfl, hh⟩ := q
    rw [hh]
    exact zV_ireturn dX5_judge_95 rfl (Nat.le_of_ble_eq_true rfl) ⟨⟨cj, by omega⟩, by rw [hv6]; rfl, rfl⟩
  · refine zV_teq (congrArg ziv hv6.symm) ?_
    refine zV_tableIn (off := 90) (tgt := 96) dX5_judge_6 (by decide) (by decide) (by decide) (by decide) ?_
    refine zV_aload_nr dX5_judge_96 rfl rfl ?_
    refine gf5_20 (t := t) (k0) rfl (rfl) dX5_judge_97 ?_
    refine gf5_183 rfl (court_0 ht) dX5_judge_100 ?_
    refine zV_iload_n dX5_judge_103 rfl rfl ?_
    refine zV_zaload (N := 8) (court_6 ht) (by omega) (by decide) dX5_judge_104 ?_
    have bb := hi.2.1.2.2.2.2.2.2.1 x.toNat (by omega)
    refine zR_if_eq (tgt := 112) dX5_judge_105 (by decide) (by omega) (fun h105 => ?_) (fun h105 => ?_)
    · refine zV_iconst dX5_judge_112 ?_
      exact zV_ireturn dX5_judge_113 rfl (Nat.le_of_ble_eq_true rfl) ⟨⟨cj, by omega⟩, by rw [hv6]; first | exact congrArg (fun v => some (ziv v)) (if_pos h105).symm | exact congrArg (fun v => some (ziv v)) (if_neg h105).symm, rfl⟩
    · refine zV_iconst dX5_judge_108 ?_
      refine zV_goto (tgt := 113) dX5_judge_109 (by decide) ?_
      exact zV_ireturn dX5_judge_113 rfl (Nat.le_of_ble_eq_true rfl) ⟨⟨cj, by omega⟩, by rw [hv6]; first | exact congrArg (fun v => some (ziv v)) (if_pos h105).symm | exact congrArg (fun v => some (ziv v)) (if_neg h105).symm, rfl⟩
  · refine zV_teq (congrArg ziv hv6.symm) ?_
    refine zV_tableIn (off := 108) (tgt := 114) dX5_judge_6 (by decide) (by decide) (by decide) (by decide) ?_
    refine zV_aload_nr dX5_judge_114 rfl rfl ?_
    refine zV_aload_nr dX5_judge_115 rfl rfl ?_
    refine gf5_20 (t := t) (k0) rfl (rfl) dX5_judge_116 ?_
    refine gf5_176 rfl (court_0 ht) dX5_judge_119 ?_
    refine zV_iload_n dX5_judge_122 rfl rfl ?_
    refine zV_iaload (N := 8) (court_5 ht) (by omega) (by decide) dX5_judge_123 ?_
    refine zV_callV (As := [ziv (h (t + 5) x.toNat)]) lk5_187 (rfl) rfl rfl (c5_partyOf 11 0 k0 hi.2.1 hwi (by have b1 := hwi x.toNat (by omega); omega)) ⟨by show _ + 1 ≤ 12; omega, by show _ ≤ 4; omega⟩ rfl (Nat.le_of_ble_eq_true rfl) dX5_judge_124 (fun _ _ z => z.elim) (fun r h' q => ?_)
    obtain ⟨rfl, hh⟩ := q
    rw [hh]
    exact zV_ireturn dX5_judge_127 rfl (Nat.le_of_ble_eq_true rfl) ⟨⟨cj, by omega⟩, by rw [hv6]; rfl, rfl⟩
  · refine zV_tableOut (tgt := 128) dX5_judge_6 (by rw [zn_of (by omega) (by omega)]; omega) (by decide) ?_
    exact zV_nse (i := 3) rfl rfl ⟨Nat.le_of_ble_eq_true rfl, Nat.le_of_ble_eq_true rfl⟩ dX5_judge_128 dX5_judge_131 dX5_judge_132 dX5_judge_134 dX5_judge_137 ⟨rfl, rfl, by omega⟩
set_option maxRecDepth 100000 in
theorem c5_surveyed {E : zE} {h : zH} {t n jn : Nat} {x : Int} (d k : Nat) (hd : 3 ≤ d) (hi : tInv h t n jn) (hx : 5 ≤ x ∧ x ≤ 8) : zCal E mX5_surveyed d k [zrv E 0, ziv x] h (fun r h' => r = some (ziv (survV h n x)) ∧ qr h h') (fun _ _ => False) := by
  refine zCal_of (by decide) (Nat.le_of_ble_eq_true rfl) (fun a => ?_)
  show zV _ 0 0 [zrv E 0, ziv x] [] _
  have ht := hi.2.1.1
  have k0 := hi.1
  have g9 := surv_r (h 33) hi.2.1.2.1
  refine zV_aload_nr dX5_surveyed_0 rfl rfl ?_
  refine gf5_34 rfl (rfl) dX5_surveyed_1 ?_
  refine zV_teq (w := zrv E 28) rfl ?_
  refine zV_aload_nr dX5_surveyed_4 rfl rfl ?_
  refine gf5_20 (t := t) (k0) rfl (rfl) dX5_surveyed_5 ?_
  refine zV_aload_nr dX5_surveyed_8 rfl rfl ?_
  refine gf5_41 rfl (rfl) dX5_surveyed_9 ?_
  refine zV_teq (w := zrv E 31) rfl ?_
  refine gf5_112 rfl (rfl) dX5_surveyed_12 ?_
  refine zV_teq (w := zrv E 32) rfl ?_
  refine zV_callV (As := [zrv E t, zrv E 32]) lk5_139 (rfl) rfl rfl (c4_survey (d - 1) 0 (Or.inl rfl) ht hi.2.1.2.1 hi.2.1.2.2.2.1 hi.2.2.1.2.1) ⟨by show _ + 1 ≤ d; omega, by show _ ≤ k; omega⟩ rfl (Nat.le_of_ble_eq_true rfl) dX5_surveyed_15 (fun _ _ z => z.elim) (fun r h' q => ?_)
  obtain ⟨rfl, q0, q1, q2, q3, q4⟩ := q
  have hqr : qr h h' := ⟨fun c2 hh => q0 c2 (by omega) (by omega), fun j j1 j2 => by
    rcases (show j = 2 ∨ j = 3 ∨ j = 4 by omega) with rfl | rfl | rfl
    · rw [q1]; exact ⟨g9.1.1, by have := g9.1.2; exact Int.le_trans this (by decide)⟩
    · rw [q2]; exact ⟨g9.2.1.1, by have := g9.2.1.2; exact Int.le_trans this (by decide)⟩
    · rw [q3]; exact ⟨g9.2.2.1, by have := g9.2.2.2; exact Int.le_trans this (by decide)⟩⟩
  refine zV_iload_n dX5_surveyed_18 rfl rfl ?_
  rcases (show x = 5 ∨ x = 6 ∨ x = 7 ∨ (x < 5 ∨ 7 < x) by omega) with hv19 | hv19 | hv19 | hv19
  · refine zV_teq (congrArg ziv hv19.symm) ?_
    refine zV_tableIn (off := 25) (tgt := 44) dX5_surveyed_19 (by decide) (by decide) (by decide) (by decide) ?_
    refine zV_aload_nr dX5_surveyed_44 rfl rfl ?_
    refine gf5_34 rfl (rfl) dX5_surveyed_45 ?_
    refine zV_teq (w := zrv E 28) rfl ?_
    refine gf5_143 rfl rfl dX5_surveyed_48 ?_
    exact zV_ireturn dX5_surveyed_51 rfl (Nat.zero_le _) ⟨by rw [hv19, q1]; rfl, hqr⟩
  · refine zV_teq (congrArg ziv hv19.symm) ?_
    refine zV_tableIn (off := 33) (tgt := 52) dX5_surveyed_19 (by decide) (by decide) (by decide) (by decide) ?_
    refine zV_aload_nr dX5_surveyed_52 rfl rfl ?_
    refine gf5_34 rfl (rfl) dX5_surveyed_53 ?_
    refine zV_teq (w := zrv E 28) rfl ?_
    refine gf5_146 rfl rfl dX5_surveyed_56 ?_
    exact zV_ireturn dX5_surveyed_59 rfl (Nat.zero_le _) ⟨by rw [hv19, q2]; rfl, hqr⟩
  · refine zV_teq (congrArg ziv hv19.symm) ?_
    refine zV_tableIn (off := 41) (tgt := 60) dX5_surveyed_19 (by decide) (by decide) (by decide) (by decide) ?_
    refine zV_aload_nr dX5_surveyed_60 rfl rfl ?_
    refine gf5_34 rfl (rfl) dX5_surveyed_61 ?_
    refine zV_teq (w := zrv E 28) rfl ?_
    refine gf5_149 rfl rfl dX5_surveyed_64 ?_
    exact zV_ireturn dX5_surveyed_67 rfl (Nat.zero_le _) ⟨by rw [hv19, q3]; rfl, hqr⟩
  · refine zV_tableOut (tgt := 68) dX5_surveyed_19 (by rw [zn_of (by omega) (by omega)]; omega) (by decide) ?_
    refine zV_aload_nr dX5_surveyed_68 rfl rfl ?_
    refine gf5_34 rfl (rfl) dX5_surveyed_69 ?_
    refine zV_teq (w := zrv E 28) rfl ?_
    refine zV_callV (As := []) lk5_152 (rfl) rfl rfl (c4_widestGap (d - 1) 0 (by omega) hi.2.1.2.1 q4) ⟨by show _ + 1 ≤ d; omega, by show _ ≤ k; omega⟩ rfl (Nat.le_of_ble_eq_true rfl) dX5_surveyed_72 (fun _ _ z => z.elim) (fun r h' q => ?_)
    obtain ⟨rfl, hh⟩ := q
    rw [hh]
    exact zV_ireturn dX5_surveyed_75 rfl (Nat.zero_le _) ⟨by unfold survV; rw [if_neg (by omega), if_neg (by omega), if_neg (by omega)], hqr⟩
set_option maxRecDepth 100000 in
theorem c5_count {E : zE} {h : zH} {t n jn : Nat} {x : Int} (hx : -2147483648 ≤ x ∧ x ≤ 2147483647) (hi : tInv h t n jn) : zCal E mX5_count 12 4 [zrv E 0, ziv x] h (fun r h' => (0 ≤ x ∧ x ≤ 14) ∧ r = some (ziv (cntV h t n x)) ∧ qry h h') (fun e h' => h' = h ∧ e = NSE ∧ ¬ (0 ≤ x ∧ x ≤ 14)) := by
  refine zCal_of (by decide) (Nat.le_of_ble_eq_true rfl) (fun a => ?_)
  show zV _ 0 0 [zrv E 0, ziv x] [] _
  have ht := hi.2.1.1
  have k0 := hi.1
  have hnum := hi.2.2.2.2
  have hn8 := hi.2.1.2.1
  have hjn8 := hi.2.1.2.2.1
  refine zV_iload_n dX5_count_0 rfl rfl ?_
  rcases (show x = 0 ∨ x = 1 ∨ x = 2 ∨ x = 3 ∨ x = 4 ∨ x = 5 ∨ x = 6 ∨ x = 7 ∨ x = 8 ∨ x = 9 ∨ x = 10 ∨ x = 11 ∨ x = 12 ∨ x = 13 ∨ x = 14 ∨ (x < 0 ∨ 14 < x) by omega) with hv1 | hv1 | hv1 | hv1 | hv1 | hv1 | hv1 | hv1 | hv1 | hv1 | hv1 | hv1 | hv1 | hv1 | hv1 | hv1
  · refine zV_teq (congrArg ziv hv1.symm) ?_
    refine zV_tableIn (off := 75) (tgt := 76) dX5_count_1 (by decide) (by decide) (by decide) (by decide) ?_
    refine zV_aload_nr dX5_count_76 rfl rfl ?_
    refine gf5_20 (t := t) (k0) rfl (rfl) dX5_count_77 ?_
    refine gf5_106 rfl (court_0 ht) dX5_count_80 ?_
    exact zV_ireturn dX5_count_83 rfl (Nat.le_of_ble_eq_true rfl) ⟨by omega, by rw [hv1]; rfl, qr_qry (qr_rfl hi)⟩
  · refine zV_teq (congrArg ziv hv1.symm) ?_
    refine zV_tableIn (off := 83) (tgt := 84) dX5_count_1 (by decide) (by decide) (by decide) (by decide) ?_
    refine zV_aload_nr dX5_count_84 rfl rfl ?_
    refine gf5_20 (t := t) (k0) rfl (rfl) dX5_count_85 ?_
    refine gf5_109 rfl (court_0 ht) dX5_count_88 ?_
    exact zV_ireturn dX5_count_91 rfl (Nat.le_of_ble_eq_true rfl) ⟨by omega, by rw [hv1]; rfl, qr_qry (qr_rfl hi)⟩
  · refine zV_teq (congrArg ziv hv1.symm) ?_
    refine zV_tableIn (off := 91) (tgt := 92) dX5_count_1 (by decide) (by decide) (by decide) (by decide) ?_
    refine zV_aload_nr dX5_count_92 rfl rfl ?_
    refine gf5_41 rfl (rfl) dX5_count_93 ?_
    refine zV_teq (w := zrv E 31) rfl ?_
    refine gf5_112 rfl (rfl) dX5_count_96 ?_
    refine zV_teq (w := zrv E 32) rfl ?_
    refine gf5_115 rfl rfl dX5_count_99 ?_
    exact zV_ireturn dX5_count_102 rfl (Nat.le_of_ble_eq_true rfl) ⟨by omega, by rw [hv1]; rfl, qr_qry (qr_rfl hi)⟩
  · refine zV_teq (congrArg ziv hv1.symm) ?_
    refine zV_tableIn (off := 102) (tgt := 103) dX5_count_1 (by decide) (by decide) (by decide) (by decide) ?_
    refine zV_aload_nr dX5_count_103 rfl rfl ?_
    refine gf5_41 rfl (rfl) dX5_count_104 ?_
    refine zV_teq (w := zrv E 31) rfl ?_
    refine gf5_112 rfl (rfl) dX5_count_107 ?_
    refine zV_teq (w := zrv E 32) rfl ?_
    refine gf5_118 rfl rfl dX5_count_110 ?_
    exact zV_ireturn dX5_count_113 rfl (Nat.le_of_ble_eq_true rfl) ⟨by omega, by rw [hv1]; rfl, qr_qry (qr_rfl hi)⟩
  · refine zV_teq (congrArg ziv hv1.symm) ?_
    refine zV_tableIn (off := 113) (tgt := 114) dX5_count_1 (by decide) (by decide) (by decide) (by decide) ?_
    refine zV_aload_nr dX5_count_114 rfl rfl ?_
    refine gf5_41 rfl (rfl) dX5_count_115 ?_
    refine zV_teq (w := zrv E 31) rfl ?_
    refine gf5_112 rfl (rfl) dX5_count_118 ?_
    refine zV_teq (w := zrv E 32) rfl ?_
    refine gf5_121 rfl rfl dX5_count_121 ?_
    exact zV_ireturn dX5_count_124 rfl (Nat.le_of_ble_eq_true rfl) ⟨by omega, by rw [hv1]; rfl, qr_qry (qr_rfl hi)⟩
  · refine zV_teq (congrArg ziv hv1.symm) ?_
    refine zV_tableIn (off := 124) (tgt := 125) dX5_count_1 (by decide) (by decide) (by decide) (by decide) ?_
    refine zV_aload_nr dX5_count_125 rfl rfl ?_
    refine zV_iload_n dX5_count_126 rfl rfl ?_
    refine zV_callV (As := [ziv x]) lk5_124 (rfl) rfl rfl (c5_surveyed 11 0 (by decide) hi (by omega)) ⟨by show _ + 1 ≤ 12; omega, by show _ ≤ 4; omega⟩ rfl (Nat.le_of_ble_eq_true rfl) dX5_count_127 (fun _ _ z => z.elim) (fun r h' q => ?_)
    obtain ⟨rfl, q⟩ := q
    exact zV_ireturn dX5_count_130 rfl (Nat.le_of_ble_eq_true rfl) ⟨by omega, by rw [hv1]; rfl, qr_qry q⟩
  · refine zV_teq (congrArg ziv hv1.symm) ?_
    refine zV_tableIn (off := 124) (tgt := 125) dX5_count_1 (by decide) (by decide) (by decide) (by decide) ?_
    refine zV_aload_nr dX5_count_125 rfl rfl ?_
    refine zV_iload_n dX5_count_126 rfl rfl ?_
    refine zV_callV (As := [ziv x]) lk5_124 (rfl) rfl rfl (c5_surveyed 11 0 (by decide) hi (by omega)) ⟨by show _ + 1 ≤ 12; omega, by show _ ≤ 4; omega⟩ rfl (Nat.le_of_ble_eq_true rfl) dX5_count_127 (fun _ _ z => z.elim) (fun r h' q => ?_)
    obtain ⟨rfl, q⟩ := q
    exact zV_ireturn dX5_count_130 rfl (Nat.le_of_ble_eq_true rfl) ⟨by omega, by rw [hv1]; rfl, qr_qry q⟩
  · refine zV_teq (congrArg ziv hv1.symm) ?_
    refine zV_tableIn (off := 124) (tgt := 125) dX5_count_1 (by decide) (by decide) (by decide) (by decide) ?_
    refine zV_aload_nr dX5_count_125 rfl rfl ?_
    refine zV_iload_n dX5_count_126 rfl rfl ?_
    refine zV_callV (As := [ziv x]) lk5_124 (rfl) rfl rfl (c5_surveyed 11 0 (by decide) hi (by omega)) ⟨by show _ + 1 ≤ 12; omega, by show _ ≤ 4; omega⟩ rfl (Nat.le_of_ble_eq_true rfl) dX5_count_127 (fun _ _ z => z.elim) (fun r h' q => ?_)
    obtain ⟨rfl, q⟩ := q
    exact zV_ireturn dX5_count_130 rfl (Nat.le_of_ble_eq_true rfl) ⟨by omega, by rw [hv1]; rfl, qr_qry q⟩
  · refine zV_teq (congrArg ziv hv1.symm) ?_
    refine zV_tableIn (off := 124) (tgt := 125) dX5_count_1 (by decide) (by decide) (by decide) (by decide) ?_
    refine zV_aload_nr dX5_count_125 rfl rfl ?_
    refine zV_iload_n dX5_count_126 rfl rfl ?_
    refine zV_callV (As := [ziv x]) lk5_124 (rfl) rfl rfl (c5_surveyed 11 0 (by decide) hi (by omega)) ⟨by show _ + 1 ≤ 12; omega, by show _ ≤ 4; omega⟩ rfl (Nat.le_of_ble_eq_true rfl) dX5_count_127 (fun _ _ z => z.elim) (fun r h' q => ?_)
    obtain ⟨rfl, q⟩ := q
    exact zV_ireturn dX5_count_130 rfl (Nat.le_of_ble_eq_true rfl) ⟨by omega, by rw [hv1]; rfl, qr_qry q⟩
  · refine zV_teq (congrArg ziv hv1.symm) ?_
    refine zV_tableIn (off := 130) (tgt := 131) dX5_count_1 (by decide) (by decide) (by decide) (by decide) ?_
    refine zV_aload_nr dX5_count_131 rfl rfl ?_
    refine gf5_41 rfl (rfl) dX5_count_132 ?_
    refine zV_teq (w := zrv E 31) rfl ?_
    refine gf5_128 rfl rfl dX5_count_135 ?_
    exact zV_ireturn dX5_count_138 rfl (Nat.le_of_ble_eq_true rfl) ⟨by omega, by rw [hv1]; rfl, qr_qry (qr_rfl hi)⟩
  · refine zV_teq (congrArg ziv hv1.symm) ?_
    refine zV_tableIn (off := 138) (tgt := 139) dX5_count_1 (by decide) (by decide) (by decide) (by decide) ?_
    refine zV_aload_nr dX5_count_139 rfl rfl ?_
    refine gf5_41 rfl (rfl) dX5_count_140 ?_
    refine zV_teq (w := zrv E 31) rfl ?_
    refine gf5_131 rfl rfl dX5_count_143 ?_
    exact zV_ireturn dX5_count_146 rfl (Nat.le_of_ble_eq_true rfl) ⟨by omega, by rw [hv1]; rfl, qr_qry (qr_rfl hi)⟩
  · refine zV_teq (congrArg ziv hv1.symm) ?_
    refine zV_tableIn (off := 146) (tgt := 147) dX5_count_1 (by decide) (by decide) (by decide) (by decide) ?_
    refine zV_aload_nr dX5_count_147 rfl rfl ?_
    refine gf5_70 rfl rfl dX5_count_148 ?_
    exact zV_ireturn dX5_count_151 rfl (Nat.le_of_ble_eq_true rfl) ⟨by omega, by rw [hv1]; rfl, qr_qry (qr_rfl hi)⟩
  · refine zV_teq (congrArg ziv hv1.symm) ?_
    refine zV_tableIn (off := 151) (tgt := 152) dX5_count_1 (by decide) (by decide) (by decide) (by decide) ?_
    refine zV_aload_nr dX5_count_152 rfl rfl ?_
    refine gf5_41 rfl (rfl) dX5_count_153 ?_
    refine zV_teq (w := zrv E 31) rfl ?_
    refine gf5_91 rfl (rfl) dX5_count_156 ?_
    refine zV_teq (w := zrv E 41) rfl ?_
    refine zV_iconst dX5_count_159 ?_
    refine zV_ialoadN (i := 0) (N := 3) (rfl) (by decide) (by decide) dX5_count_160 ?_
    exact zV_ireturn dX5_count_161 rfl (Nat.le_of_ble_eq_true rfl) ⟨by omega, by rw [hv1]; rfl, qr_qry (qr_rfl hi)⟩
  · refine zV_teq (congrArg ziv hv1.symm) ?_
    refine zV_tableIn (off := 161) (tgt := 162) dX5_count_1 (by decide) (by decide) (by decide) (by decide) ?_
    refine zV_aload_nr dX5_count_162 rfl rfl ?_
    refine gf5_41 rfl (rfl) dX5_count_163 ?_
    refine zV_teq (w := zrv E 31) rfl ?_
    refine gf5_91 rfl (rfl) dX5_count_166 ?_
    refine zV_teq (w := zrv E 41) rfl ?_
    refine zV_iconst dX5_count_169 ?_
    refine zV_ialoadN (i := 1) (N := 3) (rfl) (by decide) (by decide) dX5_count_170 ?_
    exact zV_ireturn dX5_count_171 rfl (Nat.le_of_ble_eq_true rfl) ⟨by omega, by rw [hv1]; rfl, qr_qry (qr_rfl hi)⟩
  · refine zV_teq (congrArg ziv hv1.symm) ?_
    refine zV_tableIn (off := 171) (tgt := 172) dX5_count_1 (by decide) (by decide) (by decide) (by decide) ?_
    refine zV_aload_nr dX5_count_172 rfl rfl ?_
    refine gf5_41 rfl (rfl) dX5_count_173 ?_
    refine zV_teq (w := zrv E 31) rfl ?_
    refine gf5_91 rfl (rfl) dX5_count_176 ?_
    refine zV_teq (w := zrv E 41) rfl ?_
    refine zV_iconst dX5_count_179 ?_
    refine zV_ialoadN (i := 2) (N := 3) (rfl) (by decide) (by decide) dX5_count_180 ?_
    exact zV_ireturn dX5_count_181 rfl (Nat.le_of_ble_eq_true rfl) ⟨by omega, by rw [hv1]; rfl, qr_qry (qr_rfl hi)⟩
  · refine zV_tableOut (tgt := 182) dX5_count_1 (by rw [zn_of (by omega) (by omega)]; omega) (by decide) ?_
    exact zV_nse (i := 1) rfl rfl ⟨Nat.le_of_ble_eq_true rfl, Nat.le_of_ble_eq_true rfl⟩ dX5_count_182 dX5_count_185 dX5_count_186 dX5_count_188 dX5_count_191 ⟨rfl, rfl, by omega⟩
set_option maxRecDepth 100000 in
theorem c5_fault {E : zE} {h : zH} {t n jn : Nat}  (hi : tInv h t n jn) : zCal E mX5_fault 12 4 [zrv E 0] h (fun r h' => r = some (ziv (h 0 2)) ∧ h' = h) (fun _ _ => False) := by
  refine zCal_of (by decide) (Nat.le_of_ble_eq_true rfl) (fun a => ?_)
  show zV _ 0 0 [zrv E 0] [] _
  have ht := hi.2.1.1
  have k0 := hi.1
  have hnum := hi.2.2.2.2
  have hn8 := hi.2.1.2.1
  have hjn8 := hi.2.1.2.2.1
  refine zV_aload_nr dX5_fault_0 rfl rfl ?_
  refine gf5_13 rfl rfl dX5_fault_1 ?_
  exact zV_ireturn dX5_fault_4 rfl (Nat.le_of_ble_eq_true rfl) ⟨rfl, rfl⟩
