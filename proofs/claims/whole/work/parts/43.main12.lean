/-! A GAME -/
def gnV (o : Nat → Int) (x w tn : Int) : Int := (if o x.toNat = w then 5 else 0) - tn
def restB (o : Nat → Int) (c : Nat) (w w2 : Int) : Bool := decide (gnV o (zxor c 2) w (zxor (zshr c 1) 1) ≤ gnV o c w (zshr c 1)) && decide (gnV o (zxor c 1) w2 (zxor (zand c 1) 1) ≤ gnV o c w2 (zand c 1))
theorem gn_c : ∀ c : Nat, c < 4 → (0 ≤ zshr c 1 ∧ zshr c 1 ≤ 1) ∧ (0 ≤ zand c 1 ∧ zand c 1 ≤ 1) ∧ (0 ≤ zxor c 2 ∧ zxor c 2 < 4) ∧ (0 ≤ zxor c 1 ∧ zxor c 1 < 4) ∧ (0 ≤ zxor (zshr c 1) 1 ∧ zxor (zshr c 1) 1 ≤ 1) ∧ (0 ≤ zxor (zand c 1) 1 ∧ zxor (zand c 1) 1 ≤ 1) := by decide
theorem gnV_lo {o : Nat → Int} {x w tn : Int} (h : 0 ≤ tn ∧ tn ≤ 1) : -1 ≤ gnV o x w tn ∧ gnV o x w tn ≤ 5 := by unfold gnV; split <;> omega
def gmO (h : zH) (t n jn : Nat) (x y : Int) : Nat → Int := fun c => turnV h t n jn (zor (zshl (zshr c 1) x) (zshl (zand c 1) y))
def gmB (h : zH) (t n jn : Nat) (x y : Int) : Nat → Bool := fun c => restB (gmO h t n jn x y) c (h (t + 5) x.toNat) (h (t + 5) y.toNat)
def gmV (h : zH) (t n jn : Nat) (x y w : Int) : Int := if w = 0 then cntB (gmB h t n jn x y) 4 else if fstB (gmB h t n jn x y) 0 4 = -1 then -1 else 10 * zshr (fstB (gmB h t n jn x y) 0 4) 1 + zand (fstB (gmB h t n jn x y) 0 4) 1
theorem gmO_lo (h : zH) (t n jn : Nat) (x y : Int) (c : Nat) : 0 ≤ gmO h t n jn x y c ∧ gmO h t n jn x y c < 5 := oneV_lo _ _ _ _ _
theorem restB_congr {o q : Nat → Int} {w w2 : Int} (h : ∀ c, c < 4 → o c = q c) : ∀ c, c < 4 → restB o c w w2 = restB q c w w2 := by
  intro c hc
  have b := gn_c c hc
  unfold restB gnV
  rw [h (zxor c 2).toNat (by omega), h (zxor c 1).toNat (by omega), h ((c : Int).toNat) (by omega)]

set_option maxRecDepth 100000 in
theorem c5_verdictIfTurned2 {E : zE} {h : zH} {t n jn : Nat} {b : Int} (d k : Nat) (hd : 5 ≤ d) (hi : tInv h t n jn) : zCal E mX5_verdictIfTurned d k [zrv E 0, ziv b] h (fun r h' => r = some (ziv (turnV h t n jn b)) ∧ qr h h' ∧ ∀ c2 : Nat, 59 ≤ c2 → c2 ≤ 63 → h' c2 = h c2) (fun _ _ => False) := by
  refine zCal_of (by decide) (Nat.le_of_ble_eq_true rfl) (fun a => ?_)
  show zV _ 0 0 [zrv E 0, ziv b, .null] [] _
  have ht := hi.2.1.1
  have ht9 : t = 2 ∨ t = 16 := ht
  have hjn8 := hi.2.1.2.2.1
  refine zV_aload_nr dX5_verdictIfTurned_0 rfl rfl ?_
  refine zV_callV (As := []) lk5_248 (rfl) rfl rfl (c5_startTrial (d - 1) 0 (by omega)) ⟨by show _ + 1 ≤ d; omega, by show _ ≤ k; omega⟩ rfl (Nat.le_of_ble_eq_true rfl) dX5_verdictIfTurned_1 (fun _ _ z => z.elim) (fun r h5 q => ?_)
  have q8 := q.2
  obtain ⟨rfl, q⟩ := q
  have tr := tri_0 hi q
  have k0 : h5 0 3 = (t : Int) := by rw [tr.1 0 (by omega)]; exact hi.1
  have hj3 : h5 t 3 = (jn : Int) := (tri_ct hi.2.1 tr).2.2.2.2.1
  refine zV_iconst dX5_verdictIfTurned_4 ?_
  refine zV_istore_n dX5_verdictIfTurned_5 rfl (Nat.le_of_ble_eq_true rfl) rfl ?_
  have L6 : ∀ (m : Nat) (s : Nat), (jn + 1 ≤ s + m) → (s ≤ jn) → zV (E, mX5_verdictIfTurned, d, k, (fun r h' => r = some (ziv (turnV h t n jn b)) ∧ qr h h' ∧ ∀ c2 : Nat, 59 ≤ c2 → c2 ≤ 63 → h' c2 = h c2), (fun _ _ => False), a) 0 6 [zrv E 0, ziv b, ziv (s : Int)] [] (zst h5 56 (turnP (h5 56) b s)) := by
    intro m
    induction m with
    | zero => intro s hm_ hsn; exfalso; omega
    | succ m ih =>
      intro s hm_ hsn
      have k0 : (zst h5 56 (turnP (h5 56) b s)) 0 3 = (t : Int) := by rw [zst_ne (by omega)]; exact k0
      refine zV_iload_n dX5_verdictIfTurned_6 rfl rfl ?_
      refine zV_aload_nr dX5_verdictIfTurned_7 rfl rfl ?_
      refine gf5_20 (t := t) (k0) rfl (rfl) dX5_verdictIfTurned_8 ?_
      refine gf5_109 rfl (court_0 ht) dX5_verdictIfTurned_11 ?_
      rw [zst_ne (by omega), hj3]
      refine zR_icmp_ge (tgt := 53) dX5_verdictIfTurned_14 (by decide) (by omega) (by omega) (fun h14 => ?_) (fun h14 => ?_)
      · have e : jn = s := by omega
        subst e
        have m9 := mod56 (f := turnP (h5 56) b jn) hi tr (fun j hj => by have h9 : 0 ≤ h5 56 j ∧ h5 56 j ≤ 12 := tr.2.2.2.2.2.1.2.2.2.1 j hj; unfold turnP; split <;> omega)
        refine zV_aload_nr dX5_verdictIfTurned_53 rfl rfl ?_
        refine zV_callV (As := []) lk5_264 (rfl) rfl rfl (c5_nextVerdict (d - 1) 0 (by omega) m9.1 m9.2.1 m9.2.2.2.2.1 m9.2.2.2.1) ⟨by show _ + 1 ≤ d; omega, by show _ ≤ k; omega⟩ rfl (Nat.le_of_ble_eq_true rfl) dX5_verdictIfTurned_54 (fun _ _ z => z.elim) (fun r h' q => ?_)
        obtain ⟨rfl, q9⟩ := q
        have w9 := tri_one (p := h 33) (g := gHa (gOf h 32 t) (turnP (h 35) b jn)) hi m9.2.2.1 (by rw [zst_ne (by omega)]; exact tr.2.1) (m9.2.2.2.2.2.2 _ (turnP_congr tr.2.2.2.1.2.1)) m9.2.2.2.2.2.1 m9.2.2.2.2.1 m9.2.2.2.1 q9
        rw [w9.1]
        exact zV_ireturn dX5_verdictIfTurned_57 rfl (Nat.zero_le _) ⟨rfl, w9.2, fun c2 x1 x2 => by rw [q9.1 c2 (by omega) (by omega) (by omega) (by omega) (by omega) (by omega), zst_ne (by omega), q8.1 c2 (by omega) (by omega) (by omega) (by omega) (by omega)]⟩
      · refine zV_iload_n dX5_verdictIfTurned_17 rfl rfl ?_
        refine zV_iload_n dX5_verdictIfTurned_18 rfl rfl ?_
        refine zV_ishr dX5_verdictIfTurned_19 ?_
        refine zV_iconst dX5_verdictIfTurned_20 ?_
        refine zV_iand dX5_verdictIfTurned_21 ?_
        refine zV_iconst dX5_verdictIfTurned_22 ?_
        have zr := zand_r (zshr b (s : Int)) 1
        refine zR_icmp_ne (tgt := 47) dX5_verdictIfTurned_23 (by decide) (by omega) (by omega) (fun h23 => ?_) (fun h23 => ?_)
        · refine zV_iinc dX5_verdictIfTurned_47 rfl (Nat.le_of_ble_eq_true rfl) rfl ?_
          refine zV_goto (tgt := 6) dX5_verdictIfTurned_50 (by decide) ?_
          refine zV_heq (h' := zst h5 56 (turnP (h5 56) b (s + 1))) ?_ ?_
          · congr 1
            funext j
            unfold turnP
            by_cases e : j = s
            · subst e; rw [if_neg (fun z => h23 z.2), if_neg (by omega)]
            · by_cases e2 : j < s ∧ zand (zshr b j) 1 = 1
              · rw [if_pos ⟨by omega, e2.2⟩, if_pos e2]
              · rw [if_neg (fun z => e2 ⟨by omega, z.2⟩), if_neg e2]
          · exact ih (s + 1) (by omega) (by omega)
        · refine zV_aload_nr dX5_verdictIfTurned_26 rfl rfl ?_
          refine gf5_51 rfl (rfl) dX5_verdictIfTurned_27 ?_
          refine zV_teq (w := zrv E 53) rfl ?_
          refine gf5_173 rfl (rfl) dX5_verdictIfTurned_30 ?_
          refine zV_teq (w := zrv E 56) rfl ?_
          refine zV_iload_n dX5_verdictIfTurned_33 rfl rfl ?_
          refine zV_bipush dX5_verdictIfTurned_34 (by decide) ?_
          refine zV_aload_nr dX5_verdictIfTurned_36 rfl rfl ?_
          refine gf5_51 rfl (rfl) dX5_verdictIfTurned_37 ?_
          refine zV_teq (w := zrv E 53) rfl ?_
          refine gf5_173 rfl (rfl) dX5_verdictIfTurned_40 ?_
          refine zV_teq (w := zrv E 56) rfl ?_
          refine zV_iload_n dX5_verdictIfTurned_43 rfl rfl ?_
          refine zV_ialoadN (i := s) (N := 8) (rfl) (by omega) (by decide) dX5_verdictIfTurned_44 ?_
          rw [zst_same, show turnP (h5 56) b s s = h5 56 s by unfold turnP; rw [if_neg (by omega)]]
          refine zV_isub dX5_verdictIfTurned_45 ?_
          refine zV_iastoreN (i := s) (N := 8) (rfl) (by omega) (by decide) dX5_verdictIfTurned_46 ?_
          refine zV_iinc dX5_verdictIfTurned_47 rfl (Nat.le_of_ble_eq_true rfl) rfl ?_
          refine zV_goto (tgt := 6) dX5_verdictIfTurned_50 (by decide) ?_
          refine zV_heq (h' := zst h5 56 (turnP (h5 56) b (s + 1))) ?_ ?_
          · rw [zup_zst]
            congr 1
            funext j
            unfold turnP
            by_cases e : j = s
            · subst e; rw [if_pos ⟨by omega, h23⟩, if_pos rfl]
            · rw [if_neg e]
              by_cases e2 : j < s ∧ zand (zshr b j) 1 = 1
              · rw [if_pos ⟨by omega, e2.2⟩, if_pos e2]
              · rw [if_neg (fun z => e2 ⟨by omega, z.2⟩), if_neg e2]
          · exact ih (s + 1) (by omega) (by omega)
  refine zV_heq (h' := zst h5 56 (turnP (h5 56) b 0)) (by rw [show turnP (h5 56) b 0 = h5 56 from funext fun j => by unfold turnP; rw [if_neg (by omega)], zst_self]) ?_
  exact L6 (jn + 1) 0 (by omega) (by omega)
set_option maxRecDepth 100000 in
theorem c5_gain {E : zE} {h : zH} {x w tn : Int} (d k : Nat) (hx : 0 ≤ x ∧ x < 4) (hw : 0 ≤ w ∧ w ≤ 4) (ho : 0 ≤ h 63 x.toNat ∧ h 63 x.toNat < 5) : zCal E mX5_gain d k [zrv E 0, ziv x, ziv w, ziv tn] h (fun r h' => r = some (ziv (gnV (h 63) x w tn)) ∧ h' = h) (fun _ _ => False) := by
  refine zCal_of (by decide) (Nat.le_of_ble_eq_true rfl) (fun a => ?_)
  show zV _ 0 0 [zrv E 0, ziv x, ziv w, ziv tn, .null] [] _
  refine zV_iload_n dX5_gain_0 rfl rfl ?_
  refine zR_if_lt (tgt := 17) dX5_gain_1 (by decide) (by omega) (fun h1 => ?_) (fun h1 => ?_)
  · exact absurd h1 (by omega)
  · refine zV_iload_n dX5_gain_4 rfl rfl ?_
    refine zV_aload_nr dX5_gain_5 rfl rfl ?_
    refine gf5_67 rfl (rfl) dX5_gain_6 ?_
    refine zV_teq (w := zrv E 63) rfl ?_
    refine zV_alen (t := 0) (N := 4) (rfl) dX5_gain_9 ?_
    refine zR_icmp_ge (tgt := 17) dX5_gain_10 (by decide) (by omega) (by omega) (fun h10 => ?_) (fun h10 => ?_)
    · exact absurd h10 (by omega)
    · refine zV_iconst dX5_gain_13 ?_
      refine zV_goto (tgt := 18) dX5_gain_14 (by decide) ?_
      refine zV_istore dX5_gain_18 (Nat.le_of_ble_eq_true rfl) rfl ?_
      refine zV_iload dX5_gain_20 rfl ?_
      refine zR_if_eq (tgt := 39) dX5_gain_22 (by decide) (by omega) (fun h22 => ?_) (fun h22 => ?_)
      · exact absurd h22 (by decide)
      · refine zV_aload_nr dX5_gain_25 rfl rfl ?_
        refine gf5_67 rfl (rfl) dX5_gain_26 ?_
        refine zV_teq (w := zrv E 63) rfl ?_
        refine zV_iload_n dX5_gain_29 rfl rfl ?_
        refine zV_iaload (N := 4) (rfl) (by omega) (by decide) dX5_gain_30 ?_
        refine zV_iload_n dX5_gain_31 rfl rfl ?_
        refine zR_icmp_ne (tgt := 39) dX5_gain_32 (by decide) (by omega) (by omega) (fun h32 => ?_) (fun h32 => ?_)
        · refine zV_iconst dX5_gain_39 ?_
          refine zV_iload_n dX5_gain_40 rfl rfl ?_
          refine zV_isub dX5_gain_41 ?_
          exact zV_ireturn dX5_gain_42 rfl (Nat.zero_le _) ⟨by unfold gnV; rw [if_neg h32], rfl⟩
        · refine zV_iconst dX5_gain_35 ?_
          refine zV_goto (tgt := 40) dX5_gain_36 (by decide) ?_
          refine zV_iload_n dX5_gain_40 rfl rfl ?_
          refine zV_isub dX5_gain_41 ?_
          exact zV_ireturn dX5_gain_42 rfl (Nat.zero_le _) ⟨by unfold gnV; rw [if_pos h32], rfl⟩
set_option maxRecDepth 100000 in
theorem c5_rests {E : zE} {h : zH} {c : Nat} {w w2 : Int} (d k : Nat) (hd : 1 ≤ d) (hc : c < 4) (hw : 0 ≤ w ∧ w ≤ 4) (hw2 : 0 ≤ w2 ∧ w2 ≤ 4) (ho : ∀ i, i < 4 → 0 ≤ h 63 i ∧ h 63 i < 5) : zCal E mX5_rests d k [zrv E 0, ziv (c : Int), ziv w, ziv w2] h (fun r h' => r = some (ziv (if restB (h 63) c w w2 = true then 1 else 0)) ∧ h' = h) (fun _ _ => False) := by
  refine zCal_of (by decide) (Nat.le_of_ble_eq_true rfl) (fun a => ?_)
  show zV _ 0 0 [zrv E 0, ziv (c : Int), ziv w, ziv w2] [] _
  have gc := gn_c c hc
  refine zV_aload_nr dX5_rests_0 rfl rfl ?_
  refine zV_iload_n dX5_rests_1 rfl rfl ?_
  refine zV_iload_n dX5_rests_2 rfl rfl ?_
  refine zV_iload_n dX5_rests_3 rfl rfl ?_
  refine zV_iconst dX5_rests_4 ?_
  refine zV_ishr dX5_rests_5 ?_
  refine zV_callV (As := [ziv (c : Int), ziv w, ziv (zshr c 1)]) lk5_337 (rfl) rfl rfl (c5_gain (d - 1) 0 (by omega) hw (ho ((c : Int)).toNat (by omega))) ⟨by show _ + 1 ≤ d; omega, by show _ ≤ k; omega⟩ rfl (Nat.le_of_ble_eq_true rfl) dX5_rests_6 (fun _ _ z => z.elim) (fun r h' q => ?_)
  obtain ⟨rfl, hh⟩ := q
  rw [hh]
  refine zV_aload_nr dX5_rests_9 rfl rfl ?_
  refine zV_iload_n dX5_rests_10 rfl rfl ?_
  refine zV_iconst dX5_rests_11 ?_
  refine zV_ixor dX5_rests_12 ?_
  refine zV_iload_n dX5_rests_13 rfl rfl ?_
  refine zV_iload_n dX5_rests_14 rfl rfl ?_
  refine zV_iconst dX5_rests_15 ?_
  refine zV_ishr dX5_rests_16 ?_
  refine zV_iconst dX5_rests_17 ?_
  refine zV_ixor dX5_rests_18 ?_
  refine zV_callV (As := [ziv (zxor c 2), ziv w, ziv (zxor (zshr c 1) 1)]) lk5_337 (rfl) rfl rfl (c5_gain (d - 1) 0 (by omega) hw (ho ((zxor c 2)).toNat (by omega))) ⟨by show _ + 1 ≤ d; omega, by show _ ≤ k; omega⟩ rfl (Nat.le_of_ble_eq_true rfl) dX5_rests_19 (fun _ _ z => z.elim) (fun r h' q => ?_)
  obtain ⟨rfl, hh⟩ := q
  rw [hh]
  have l1 := gnV_lo (o := h 63) (x := (c : Int)) (w := w) gc.1
  have l2 := gnV_lo (o := h 63) (x := zxor c 2) (w := w) gc.2.2.2.2.1
  refine zR_icmp_lt (tgt := 54) dX5_rests_22 (by decide) (by omega) (by omega) (fun h22 => ?_) (fun h22 => ?_)
  · refine zV_iconst dX5_rests_54 ?_
    exact zV_zreturn dX5_rests_55 rfl (by simp) (Nat.zero_le _) ⟨by unfold restB; rw [decide_eq_false (by omega), Bool.false_and]; rfl, rfl⟩
  · refine zV_aload_nr dX5_rests_25 rfl rfl ?_
    refine zV_iload_n dX5_rests_26 rfl rfl ?_
    refine zV_iload_n dX5_rests_27 rfl rfl ?_
    refine zV_iload_n dX5_rests_28 rfl rfl ?_
    refine zV_iconst dX5_rests_29 ?_
    refine zV_iand dX5_rests_30 ?_
    refine zV_callV (As := [ziv (c : Int), ziv w2, ziv (zand c 1)]) lk5_337 (rfl) rfl rfl (c5_gain (d - 1) 0 (by omega) hw2 (ho ((c : Int)).toNat (by omega))) ⟨by show _ + 1 ≤ d; omega, by show _ ≤ k; omega⟩ rfl (Nat.le_of_ble_eq_true rfl) dX5_rests_31 (fun _ _ z => z.elim) (fun r h' q => ?_)
    obtain ⟨rfl, hh⟩ := q
    rw [hh]
    refine zV_aload_nr dX5_rests_34 rfl rfl ?_
    refine zV_iload_n dX5_rests_35 rfl rfl ?_
    refine zV_iconst dX5_rests_36 ?_
    refine zV_ixor dX5_rests_37 ?_
    refine zV_iload_n dX5_rests_38 rfl rfl ?_
    refine zV_iload_n dX5_rests_39 rfl rfl ?_
    refine zV_iconst dX5_rests_40 ?_
    refine zV_iand dX5_rests_41 ?_
    refine zV_iconst dX5_rests_42 ?_
    refine zV_ixor dX5_rests_43 ?_
    refine zV_callV (As := [ziv (zxor c 1), ziv w2, ziv (zxor (zand c 1) 1)]) lk5_337 (rfl) rfl rfl (c5_gain (d - 1) 0 (by omega) hw2 (ho ((zxor c 1)).toNat (by omega))) ⟨by show _ + 1 ≤ d; omega, by show _ ≤ k; omega⟩ rfl (Nat.le_of_ble_eq_true rfl) dX5_rests_44 (fun _ _ z => z.elim) (fun r h' q => ?_)
    obtain ⟨rfl, hh⟩ := q
    rw [hh]
    have l3 := gnV_lo (o := h 63) (x := (c : Int)) (w := w2) gc.2.1
    have l4 := gnV_lo (o := h 63) (x := zxor c 1) (w := w2) gc.2.2.2.2.2
    refine zR_icmp_lt (tgt := 54) dX5_rests_47 (by decide) (by omega) (by omega) (fun h47 => ?_) (fun h47 => ?_)
    · refine zV_iconst dX5_rests_54 ?_
      exact zV_zreturn dX5_rests_55 rfl (by simp) (Nat.zero_le _) ⟨by unfold restB; rw [decide_eq_true (show gnV (h 63) (zxor c 2) w (zxor (zshr c 1) 1) ≤ gnV (h 63) c w (zshr c 1) by omega), decide_eq_false (show ¬ gnV (h 63) (zxor c 1) w2 (zxor (zand c 1) 1) ≤ gnV (h 63) c w2 (zand c 1) by omega)]; rfl, rfl⟩
    · refine zV_iconst dX5_rests_50 ?_
      refine zV_goto (tgt := 55) dX5_rests_51 (by decide) ?_
      exact zV_zreturn dX5_rests_55 rfl (by simp) (Nat.zero_le _) ⟨by unfold restB; rw [decide_eq_true (show gnV (h 63) (zxor c 2) w (zxor (zshr c 1) 1) ≤ gnV (h 63) c w (zshr c 1) by omega), decide_eq_true (show gnV (h 63) (zxor c 1) w2 (zxor (zand c 1) 1) ≤ gnV (h 63) c w2 (zand c 1) by omega)]; rfl, rfl⟩
set_option maxRecDepth 100000 in
theorem c5_game {E : zE} {h : zH} {t n jn : Nat} {x y w : Int} (hx : -2147483648 ≤ x ∧ x ≤ 2147483647) (hy : -2147483648 ≤ y ∧ y ≤ 2147483647) (hw : -2147483648 ≤ w ∧ w ≤ 2147483647) (hwi : ∀ j, j < jn → 0 ≤ h (t + 5) j ∧ h (t + 5) j ≤ 4) (hi : tInv h t n jn) : zCal E mX5_game 12 4 [zrv E 0, ziv x, ziv y, ziv w] h (fun r h' => ((0 ≤ x ∧ x < jn) ∧ (0 ≤ y ∧ y < jn) ∧ (0 ≤ w ∧ w ≤ 1)) ∧ x ≠ y ∧ r = some (ziv (gmV h t n jn x y w)) ∧ qry h h') (fun e h' => h' = h ∧ ((e = NSE ∧ ¬ ((0 ≤ x ∧ x < jn) ∧ (0 ≤ y ∧ y < jn) ∧ (0 ≤ w ∧ w ≤ 1))) ∨ (e = IAE ∧ ((0 ≤ x ∧ x < jn) ∧ (0 ≤ y ∧ y < jn) ∧ (0 ≤ w ∧ w ≤ 1)) ∧ x = y))) := by
  refine zCal_of (by decide) (Nat.le_of_ble_eq_true rfl) (fun a => ?_)
  show zV _ 0 0 [zrv E 0, ziv x, ziv y, ziv w, .null, .null] [] _
  have ht := hi.2.1.1
  have k0 := hi.1
  have hnum := hi.2.2.2.2
  have hn8 := hi.2.1.2.1
  have hjn8 := hi.2.1.2.2.1
  refine zV_aload_nr dX5_game_0 rfl rfl ?_
  refine zV_iload_n dX5_game_1 rfl rfl ?_
  refine zV_callV (As := [ziv x]) lk5_167 (rfl) rfl rfl (c5_needJudge ht k0 hi.2.1.2.2.2.2.1 hi.2.1.2.2.1 (by omega)) ⟨Nat.le_of_ble_eq_true rfl, Nat.le_of_ble_eq_true rfl⟩ rfl (Nat.le_of_ble_eq_true rfl) dX5_game_2 (fun e h2 z => ⟨z.2.1, Or.inl ⟨z.1, fun w => z.2.2 w.1⟩⟩) (fun r h' q => ?_)
  obtain ⟨rfl, hh, cj⟩ := q
  rw [hh]
  refine zV_aload_nr dX5_game_5 rfl rfl ?_
  refine zV_iload_n dX5_game_6 rfl rfl ?_
  refine zV_callV (As := [ziv y]) lk5_167 (rfl) rfl rfl (c5_needJudge ht k0 hi.2.1.2.2.2.2.1 hi.2.1.2.2.1 (by omega)) ⟨Nat.le_of_ble_eq_true rfl, Nat.le_of_ble_eq_true rfl⟩ rfl (Nat.le_of_ble_eq_true rfl) dX5_game_7 (fun e h2 z => ⟨z.2.1, Or.inl ⟨z.1, fun w => z.2.2 w.2.1⟩⟩) (fun r h' q => ?_)
  obtain ⟨rfl, hh, cj2⟩ := q
  rw [hh]
  refine zV_iload_n dX5_game_10 rfl rfl ?_
  refine zV_iconst dX5_game_11 ?_
  refine zV_callS (As := [ziv w, ziv 1]) lk5_251 (c5_needWhat (by omega) (by decide)) ⟨Nat.le_of_ble_eq_true rfl, Nat.le_of_ble_eq_true rfl⟩ rfl (Nat.le_of_ble_eq_true rfl) dX5_game_12 (fun e h2 z => ⟨z.2.1, Or.inl ⟨z.1, fun w => z.2.2 w.2.2⟩⟩) (fun r h' q => ?_)
  obtain ⟨rfl, hh, cw⟩ := q
  rw [hh]
  refine zV_iload_n dX5_game_15 rfl rfl ?_
  refine zV_iload_n dX5_game_16 rfl rfl ?_
  refine zR_icmp_ne (tgt := 31) dX5_game_17 (by decide) (by omega) (by omega) (fun h17 => ?_) (fun h17 => ?_)
  · refine zV_iconst dX5_game_31 ?_
    refine zV_istore dX5_game_32 (Nat.le_of_ble_eq_true rfl) rfl ?_
    have L34 : ∀ (m : Nat) (s : Nat) (h1 : zH), (5 ≤ s + m) → (s ≤ 4) → (qr h h1) → (∀ c, c < s → h1 63 c = gmO h t n jn x y c) → zV (E, mX5_game, 12, 4, (fun r h' => ((0 ≤ x ∧ x < jn) ∧ (0 ≤ y ∧ y < jn) ∧ (0 ≤ w ∧ w ≤ 1)) ∧ x ≠ y ∧ r = some (ziv (gmV h t n jn x y w)) ∧ qry h h'), (fun e h' => h' = h ∧ ((e = NSE ∧ ¬ ((0 ≤ x ∧ x < jn) ∧ (0 ≤ y ∧ y < jn) ∧ (0 ≤ w ∧ w ≤ 1))) ∨ (e = IAE ∧ ((0 ≤ x ∧ x < jn) ∧ (0 ≤ y ∧ y < jn) ∧ (0 ≤ w ∧ w ≤ 1)) ∧ x = y))), a) 3 34 [zrv E 0, ziv x, ziv y, ziv w, ziv (s : Int), .null] [] h1 := by
      intro m
      induction m with
      | zero => intro s h1 hm_ hsn hq ho; exfalso; omega
      | succ m ih =>
        intro s h1 hm_ hsn hq ho
        obtain ⟨hi1, g1, g2, g3⟩ := qr_inv hi hq
        have k0 : h1 0 3 = (t : Int) := hi1.1
        refine zV_iload dX5_game_34 rfl ?_
        refine zV_aload_nr dX5_game_36 rfl rfl ?_
        refine gf5_67 rfl (rfl) dX5_game_37 ?_
        refine zV_teq (w := zrv E 63) rfl ?_
        refine zV_alen (t := 0) (N := 4) (rfl) dX5_game_40 ?_
        refine zR_icmp_ge (tgt := 74) dX5_game_41 (by decide) (by omega) (by omega) (fun h41 => ?_) (fun h41 => ?_)
        · have ho4 : ∀ c, c < 4 → h1 63 c = gmO h t n jn x y c := fun c hc => ho c (by omega)
          refine zV_iconst dX5_game_74 ?_
          refine zV_istore dX5_game_75 (Nat.le_of_ble_eq_true rfl) rfl ?_
          refine zV_iconst dX5_game_77 ?_
          refine zV_istore dX5_game_78 (Nat.le_of_ble_eq_true rfl) rfl ?_
          have L80 : ∀ (m2 : Nat) (s : Nat) (c : Int), (5 ≤ s + m2) → (s ≤ 4) → (w = 0 → c = cntB (gmB h t n jn x y) s) → (w = 1 → fstB (gmB h t n jn x y) 0 4 = fstB (gmB h t n jn x y) s (4 - s)) → zV (E, mX5_game, 12, 4, (fun r h' => ((0 ≤ x ∧ x < jn) ∧ (0 ≤ y ∧ y < jn) ∧ (0 ≤ w ∧ w ≤ 1)) ∧ x ≠ y ∧ r = some (ziv (gmV h t n jn x y w)) ∧ qry h h'), (fun e h' => h' = h ∧ ((e = NSE ∧ ¬ ((0 ≤ x ∧ x < jn) ∧ (0 ≤ y ∧ y < jn) ∧ (0 ≤ w ∧ w ≤ 1))) ∨ (e = IAE ∧ ((0 ≤ x ∧ x < jn) ∧ (0 ≤ y ∧ y < jn) ∧ (0 ≤ w ∧ w ≤ 1)) ∧ x = y))), a) 3 80 [zrv E 0, ziv x, ziv y, ziv w, ziv c, ziv (s : Int)] [] h1 := by
            intro m2
            induction m2 with
            | zero => intro s c hm_ hs4 hc hf; exfalso; omega
            | succ m2 ih2 =>
              intro s c hm_ hs4 hc hf
              refine zV_iload dX5_game_80 rfl ?_
              refine zV_aload_nr dX5_game_82 rfl rfl ?_
              refine gf5_67 rfl (rfl) dX5_game_83 ?_
              refine zV_teq (w := zrv E 63) rfl ?_
              refine zV_alen (t := 0) (N := 4) (rfl) dX5_game_86 ?_
              refine zR_icmp_ge (tgt := 144) dX5_game_87 (by decide) (by omega) (by omega) (fun h87 => ?_) (fun h87 => ?_)
              · refine zV_iload_n dX5_game_144 rfl rfl ?_
                refine zR_if_ne (tgt := 153) dX5_game_145 (by decide) (by omega) (fun h145 => ?_) (fun h145 => ?_)
                · refine zV_iconst dX5_game_153 ?_
                  exact zV_ireturn dX5_game_154 rfl (Nat.le_of_ble_eq_true rfl) ⟨⟨cj, cj2, cw⟩, h17, by
                      have e1 : fstB (gmB h t n jn x y) 0 4 = -1 := by rw [hf (by omega), show 4 - s = 0 by omega]; rfl
                      unfold gmV
                      rw [if_neg h145, if_pos e1], qr_qry hq⟩
                · refine zV_iload dX5_game_148 rfl ?_
                  refine zV_goto (tgt := 154) dX5_game_150 (by decide) ?_
                  exact zV_ireturn dX5_game_154 rfl (Nat.le_of_ble_eq_true rfl) ⟨⟨cj, cj2, cw⟩, h17, by unfold gmV; rw [if_pos h145, hc h145, show s = 4 by omega], qr_qry hq⟩
              · refine zV_aload_nr dX5_game_90 rfl rfl ?_
                refine zV_iload dX5_game_91 rfl ?_
                refine zV_aload_nr dX5_game_93 rfl rfl ?_
                refine gf5_20 (t := t) (k0) rfl (rfl) dX5_game_94 ?_
                refine gf5_176 rfl (court_0 ht) dX5_game_97 ?_
                refine zV_iload_n dX5_game_100 rfl rfl ?_
                refine zV_iaload (N := 8) (court_5 ht) (by omega) (by decide) dX5_game_101 ?_
                refine zV_aload_nr dX5_game_102 rfl rfl ?_
                refine gf5_20 (t := t) (k0) rfl (rfl) dX5_game_103 ?_
                refine gf5_176 rfl (court_0 ht) dX5_game_106 ?_
                refine zV_iload_n dX5_game_109 rfl rfl ?_
                refine zV_iaload (N := 8) (court_5 ht) (by omega) (by decide) dX5_game_110 ?_
                have ht9 : t = 2 ∨ t = 16 := ht
                rw [hq.1 (t + 5) (by omega)]
                refine zV_callV (As := [ziv (s : Int), ziv (h (t + 5) x.toNat), ziv (h (t + 5) y.toNat)]) lk5_333 (rfl) rfl rfl (c5_rests 11 0 (by decide) (by omega) (hwi x.toNat (by omega)) (hwi y.toNat (by omega)) (fun i hi9 => by rw [ho4 i hi9]; exact gmO_lo h t n jn x y i)) ⟨by show _ + 1 ≤ 12; omega, by show _ ≤ 4; omega⟩ rfl (Nat.le_of_ble_eq_true rfl) dX5_game_111 (fun _ _ z => z.elim) (fun r h' q => ?_)
                obtain ⟨rfl, hh⟩ := q
                rw [hh, restB_congr (fun c9 hc9 => ho4 c9 hc9) s (by omega), show restB (gmO h t n jn x y) s (h (t + 5) x.toNat) (h (t + 5) y.toNat) = gmB h t n jn x y s from rfl]
                refine zR_if_eq (tgt := 138) dX5_game_114 (by decide) (by split <;> omega) (fun h114 => ?_) (fun h114 => ?_)
                · have hb2 : ¬ (gmB h t n jn x y) s = true := fun z => by
                    have h46 : (if (gmB h t n jn x y) s = true then (1 : Int) else 0) = 0 := h114
                    rw [if_pos z] at h46
                    exact absurd h46 (by decide)
                  refine zV_iinc dX5_game_138 rfl (Nat.le_of_ble_eq_true rfl) rfl ?_
                  refine zV_goto (tgt := 80) dX5_game_141 (by decide) ?_
                  exact ih2 (s + 1) c (by omega) (by omega) (fun z => by rw [hc z, cntB_s, if_neg hb2]) (fun z => by rw [hf z, show 4 - s = (4 - (s + 1)) + 1 by omega, fstB_s, if_neg hb2])
                · have hb2 : (gmB h t n jn x y) s = true := Decidable.byContradiction fun z => h114 (if_neg z)
                  refine zV_iload_n dX5_game_117 rfl rfl ?_
                  refine zV_iconst dX5_game_118 ?_
                  refine zR_icmp_ne (tgt := 135) dX5_game_119 (by decide) (by omega) (by omega) (fun h119 => ?_) (fun h119 => ?_)
                  · refine zV_iinc dX5_game_135 rfl (Nat.le_of_ble_eq_true rfl) rfl ?_
                    refine zV_iinc dX5_game_138 rfl (Nat.le_of_ble_eq_true rfl) rfl ?_
                    refine zV_goto (tgt := 80) dX5_game_141 (by decide) ?_
                    exact ih2 (s + 1) _ (by omega) (by omega) (fun z => by rw [hc z, cntB_s, if_pos hb2]) (fun z => absurd z h119)
                  · refine zV_bipush dX5_game_122 (by decide) ?_
                    refine zV_iload dX5_game_124 rfl ?_
                    refine zV_iconst dX5_game_126 ?_
                    refine zV_ishr dX5_game_127 ?_
                    refine zV_imul dX5_game_128 ?_
                    refine zV_iload dX5_game_129 rfl ?_
                    refine zV_iconst dX5_game_131 ?_
                    refine zV_iand dX5_game_132 ?_
                    refine zV_iadd dX5_game_133 ?_
                    exact zV_ireturn dX5_game_134 rfl (Nat.le_of_ble_eq_true rfl) ⟨⟨cj, cj2, cw⟩, h17, by
                      have e1 : fstB (gmB h t n jn x y) 0 4 = (s : Int) := by rw [hf h119, show 4 - s = (4 - s - 1) + 1 by omega, fstB_s, if_pos hb2]
                      unfold gmV
                      rw [if_neg (by omega), e1, if_neg (by omega)], qr_qry hq⟩
          exact L80 5 0 0 (by omega) (by omega) (fun _ => rfl) (fun _ => rfl)
        · refine zV_aload_nr dX5_game_44 rfl rfl ?_
          refine gf5_67 rfl (rfl) dX5_game_45 ?_
          refine zV_teq (w := zrv E 63) rfl ?_
          refine zV_iload dX5_game_48 rfl ?_
          refine zV_aload_nr dX5_game_50 rfl rfl ?_
          refine zV_iload dX5_game_51 rfl ?_
          refine zV_iconst dX5_game_53 ?_
          refine zV_ishr dX5_game_54 ?_
          refine zV_iload_n dX5_game_55 rfl rfl ?_
          refine zV_ishl dX5_game_56 ?_
          refine zV_iload dX5_game_57 rfl ?_
          refine zV_iconst dX5_game_59 ?_
          refine zV_iand dX5_game_60 ?_
          refine zV_iload_n dX5_game_61 rfl rfl ?_
          refine zV_ishl dX5_game_62 ?_
          refine zV_ior dX5_game_63 ?_
          refine zV_callV (As := [ziv (zor (zshl (zshr (s : Int) 1) x) (zshl (zand (s : Int) 1) y))]) lk5_299 (rfl) rfl rfl (c5_verdictIfTurned2 11 0 (by decide) hi1) ⟨by show _ + 1 ≤ 12; omega, by show _ ≤ 4; omega⟩ rfl (Nat.le_of_ble_eq_true rfl) dX5_game_64 (fun _ _ z => z.elim) (fun r h' q => ?_)
          obtain ⟨rfl, q9, q8⟩ := q
          rw [turnV_q hi hq, show turnV h t n jn (zor (zshl (zshr (s : Int) 1) x) (zshl (zand (s : Int) 1) y)) = gmO h t n jn x y s from rfl]
          refine zV_iastoreN (i := s) (N := 4) (rfl) (by omega) (by decide) dX5_game_67 ?_
          refine zV_iinc dX5_game_68 rfl (Nat.le_of_ble_eq_true rfl) rfl ?_
          refine zV_goto (tgt := 34) dX5_game_71 (by decide) ?_
          exact ih (s + 1) _ (by omega) (by omega) (qr_trans hq ⟨fun c2 hh => by rw [zup_fn (by omega)]; exact q9.1 c2 hh, fun j j1 j2 => by rw [zup_fn (by decide)]; exact q9.2 j j1 j2⟩) (fun c hc => by
            rw [zup_at]
            by_cases e : c = s
            · rw [if_pos e, e]
            · rw [if_neg e, q8 63 (by omega) (by omega)]; exact ho c (by omega))
    exact L34 5 0 h (by omega) (by omega) (qr_rfl hi) (fun c hc => absurd hc (by omega))
  · exact zV_iaew (i := 11) rfl rfl ⟨Nat.le_of_ble_eq_true rfl, Nat.le_of_ble_eq_true rfl⟩ dX5_game_20 dX5_game_23 dX5_game_24 dX5_game_27 dX5_game_30 ⟨rfl, Or.inr ⟨rfl, ⟨cj, cj2, cw⟩, h17⟩⟩
