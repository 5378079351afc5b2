/-! THE REFERENCE: a game -/
def gmOM (h : zH) (n jn : Nat) (x y : Int) : Nat → Int := fun c => turnM h n jn (zor (zshl (zshr c 1) x) (zshl (zand c 1) y))
def gmBM (h : zH) (n jn : Nat) (x y : Int) : Nat → Bool := fun c => restB (gmOM h n jn x y) c (h 74 x.toNat) (h 74 y.toNat)
def fF (b : Nat → Bool) (s : Nat) : Int := if fstB b 0 s = -1 then -1 else 10 * zshr (fstB b 0 s) 1 + zand (fstB b 0 s) 1
def gmVM (h : zH) (n jn : Nat) (x y w : Int) : Int := if w = 0 then cntB (gmBM h n jn x y) 4 else fF (gmBM h n jn x y) 4
theorem fstB_sn (b : Nat → Bool) : ∀ m s, fstB b s (m + 1) = if fstB b s m = -1 then (if b (s + m) = true then ((s + m : Nat) : Int) else -1) else fstB b s m := by
  intro m
  induction m with
  | zero => intro s; rfl
  | succ m ih =>
    intro s
    rw [fstB_s b s (m + 1), ih (s + 1), fstB_s b s m]
    by_cases e : b s = true
    · rw [if_pos e, if_pos e, if_neg (by omega)]
    · rw [if_neg e, if_neg e, show s + 1 + m = s + (m + 1) by omega]
theorem fstB_nn (b : Nat → Bool) : ∀ m s, fstB b s m = -1 ∨ ∃ p : Nat, fstB b s m = (p : Int) ∧ p < s + m := by
  intro m
  induction m with
  | zero => intro s; exact Or.inl rfl
  | succ m ih =>
    intro s
    rw [fstB_s]
    split
    · exact Or.inr ⟨s, rfl, by omega⟩
    · rcases ih (s + 1) with h | ⟨p, h1, h2⟩
      · exact Or.inl h
      · exact Or.inr ⟨p, h1, by omega⟩
theorem gc4 : ∀ c : Nat, c < 4 → ((c / 2 : Nat) : Int) = zshr c 1 ∧ ((c % 2 : Nat) : Int) = zand c 1 ∧ 1 - ((c / 2 : Nat) : Int) = zxor (zshr c 1) 1 ∧ 1 - ((c % 2 : Nat) : Int) = zxor (zand c 1) 1 ∧ zxor c 2 = (((zxor c 2).toNat : Nat) : Int) ∧ (zxor c 2).toNat < 4 ∧ zxor c 1 = (((zxor c 1).toNat : Nat) : Int) ∧ (zxor c 1).toNat < 4 := by decide
theorem gb4 : ∀ s : Nat, s < 4 → ∀ x : Nat, x < 8 → ∀ y : Nat, y < 8 → zor (if s / 2 = 1 then zshl 1 (x : Int) else 0) (if s % 2 = 1 then zshl 1 (y : Int) else 0) = zor (zshl (zshr s 1) (x : Int)) (zshl (zand s 1) (y : Int)) := by decide +kernel
theorem fF_n {b : Nat → Bool} {s : Nat} (h : b s = false) : fF b (s + 1) = fF b s := by
  unfold fF
  rw [fstB_sn b s 0, Nat.zero_add, h]
  by_cases e : fstB b 0 s = -1
  · rw [if_pos e, if_neg (show ¬ (false = true) by decide), if_pos rfl, if_pos e]
  · rw [if_neg e]
theorem fF_y {b : Nat → Bool} {s : Nat} (hs : s < 4) (h : b s = true) : fF b (s + 1) = if fF b s = -1 then 10 * ((s / 2 : Nat) : Int) + ((s % 2 : Nat) : Int) else fF b s := by
  have hk : fstB b 0 s = -1 ∨ fF b s ≠ -1 := by
    rcases fstB_nn b s 0 with e | ⟨p, e, hp⟩
    · exact Or.inl e
    · right
      unfold fF
      rw [e, if_neg (by omega)]
      have := gc4 p (by omega)
      omega
  rcases hk with e | e
  · have e2 : fF b s = -1 := by unfold fF; rw [if_pos e]
    rw [if_pos e2]
    unfold fF
    rw [fstB_sn b s 0, if_pos e, Nat.zero_add, if_pos h, if_neg (by omega)]
    have := gc4 s hs
    omega
  · have e2 : fstB b 0 s ≠ -1 := fun z => e (by unfold fF; rw [if_pos z])
    rw [if_neg e]
    unfold fF
    rw [fstB_sn b s 0, if_neg e2]
theorem gmOM_lo (h : zH) (n jn : Nat) (x y : Int) (c : Nat) : 0 ≤ gmOM h n jn x y c ∧ gmOM h n jn x y c < 5 := oneV_lo _ _ _ _ _
theorem mq_97 (h : zH) (i : Nat) (v : Int) : mq h (zup h 97 i v) := ⟨fun c2 hc => zup_fn (by omega), fun c2 hc => by rw [zup_fn (by omega)]; exact agn_rfl _ _, fun j hj => by rw [zup_fn (by decide)]⟩

theorem fF_r (b : Nat → Bool) (s : Nat) (hs : s ≤ 4) : -1 ≤ fF b s ∧ fF b s ≤ 11 := by
  unfold fF
  rcases fstB_nn b s 0 with e | ⟨p, e, hp⟩
  · rw [if_pos e]; decide
  · rw [e, if_neg (by omega)]
    have := gc4 p (by omega)
    omega

set_option maxRecDepth 100000 in
theorem c6_game {E : zE} {h : zH} {n jn : Nat} {x y w : Int} (hx : -2147483648 ≤ x ∧ x ≤ 2147483647) (hy : -2147483648 ≤ y ∧ y ≤ 2147483647) (hw : -2147483648 ≤ w ∧ w ≤ 2147483647) (hm : mInv h n jn) : zCal E mX6_game 12 4 [zrv E 64, ziv x, ziv y, ziv w] h (mA h (if (0 ≤ x ∧ x < jn) ∧ (0 ≤ y ∧ y < jn) ∧ (0 ≤ w ∧ w ≤ 1) then (if x = y then 2 else 0) else 1) (gmVM h n jn x y w)) (fun _ _ => False) := by
  refine zCal_of (by decide) (Nat.le_of_ble_eq_true rfl) (fun a => ?_)
  show zV _ 0 0 [zrv E 64, ziv x, ziv y, ziv w, .null, .null, .null, .null, .null] [] _
  refine zV_aload_nr dX6_game_0 rfl rfl ?_
  refine zV_iconst dX6_game_1 ?_
  refine pf6_157 rfl (rfl) dX6_game_2 ?_
  obtain ⟨h0, hh0, q0, z0, i0, e0, e4, r0, g0⟩ := st0 hm
  rw [hh0]
  refine zV_aload_nr dX6_game_5 rfl rfl ?_
  refine zV_iload_n dX6_game_6 rfl rfl ?_
  refine zV_callV (As := [ziv x]) lk6_385 (rfl) rfl rfl (c6_isJudge (jn := jn) 11 0 (by decide) hx i0.1.1.2.2.2 i0.1.1.2.1) ⟨by show _ + 1 ≤ 12; omega, by show _ ≤ 4; omega⟩ rfl (Nat.le_of_ble_eq_true rfl) dX6_game_7 (fun _ _ z => z.elim) (fun r h9 q => ?_)
  obtain ⟨rfl, hh⟩ := q
  rw [hh]
  clear hh
  refine zR_if_eq (tgt := 31) dX6_game_10 (by decide) (by split <;> omega) (fun h10 => ?_) (fun h10 => ?_)
  · have n10 := ipF h10
    refine zV_aload_nr dX6_game_31 rfl rfl ?_
    refine zV_iconst dX6_game_32 ?_
    refine zV_callV (As := [ziv 1]) lk6_300 (rfl) rfl rfl (c6_fail 11 0) ⟨by show _ + 1 ≤ 12; omega, by show _ ≤ 4; omega⟩ rfl (Nat.le_of_ble_eq_true rfl) dX6_game_33 (fun _ _ z => z.elim) (fun r h9 q => ?_)
    obtain ⟨rfl, hh⟩ := q
    rw [hh]
    clear hh
    exact zV_ireturn dX6_game_36 rfl (Nat.zero_le _) (mA_f q0 (by decide) (by rw [if_neg (by omega)]))
  · have y10 := ipT h10
    refine zV_aload_nr dX6_game_13 rfl rfl ?_
    refine zV_iload_n dX6_game_14 rfl rfl ?_
    refine zV_callV (As := [ziv y]) lk6_385 (rfl) rfl rfl (c6_isJudge (jn := jn) 11 0 (by decide) hy i0.1.1.2.2.2 i0.1.1.2.1) ⟨by show _ + 1 ≤ 12; omega, by show _ ≤ 4; omega⟩ rfl (Nat.le_of_ble_eq_true rfl) dX6_game_15 (fun _ _ z => z.elim) (fun r h9 q => ?_)
    obtain ⟨rfl, hh⟩ := q
    rw [hh]
    clear hh
    refine zR_if_eq (tgt := 31) dX6_game_18 (by decide) (by split <;> omega) (fun h18 => ?_) (fun h18 => ?_)
    · have n18 := ipF h18
      refine zV_aload_nr dX6_game_31 rfl rfl ?_
      refine zV_iconst dX6_game_32 ?_
      refine zV_callV (As := [ziv 1]) lk6_300 (rfl) rfl rfl (c6_fail 11 0) ⟨by show _ + 1 ≤ 12; omega, by show _ ≤ 4; omega⟩ rfl (Nat.le_of_ble_eq_true rfl) dX6_game_33 (fun _ _ z => z.elim) (fun r h9 q => ?_)
      obtain ⟨rfl, hh⟩ := q
      rw [hh]
      clear hh
      exact zV_ireturn dX6_game_36 rfl (Nat.zero_le _) (mA_f q0 (by decide) (by rw [if_neg (by omega)]))
    · have y18 := ipT h18
      refine zV_iload_n dX6_game_21 rfl rfl ?_
      refine zV_i2l dX6_game_22 (by omega) ?_
      refine zV_lconst dX6_game_23 ?_
      refine zV_lconst dX6_game_24 ?_
      refine zV_callS (As := [zlv w, zlv ((0 : Nat) : Int), zlv ((1 : Nat) : Int)]) lk6_160 (c6_isIn 11 0 (by omega) (by omega) (by omega)) ⟨by show _ + 1 ≤ 12; omega, by show _ ≤ 4; omega⟩ rfl (Nat.le_of_ble_eq_true rfl) dX6_game_25 (fun _ _ z => z.elim) (fun r h9 q => ?_)
      obtain ⟨rfl, hh⟩ := q
      rw [hh]
      clear hh
      refine zR_if_ne (tgt := 37) dX6_game_28 (by decide) (by split <;> omega) (fun h28 => ?_) (fun h28 => ?_)
      · have y28 := ipT h28
        refine zV_iload_n dX6_game_37 rfl rfl ?_
        refine zV_iload_n dX6_game_38 rfl rfl ?_
        refine zR_icmp_ne (tgt := 48) dX6_game_39 (by decide) (by omega) (by omega) (fun h39 => ?_) (fun h39 => ?_)
        · have j8 := hm.1.1.2.1
          refine zV_iconst dX6_game_48 ?_
          refine zV_istore dX6_game_49 (Nat.le_of_ble_eq_true rfl) rfl ?_
          have L51 : ∀ (m : Nat) (s : Nat) (h2 : zH), (5 ≤ s + m) → (s ≤ 4) → (mq h h2) → (h2 64 4 = 0) → (∀ c, c < s → h2 97 c = gmOM h n jn x y c) → zV (E, mX6_game, 12, 4, (mA h (if (0 ≤ x ∧ x < jn) ∧ (0 ≤ y ∧ y < jn) ∧ (0 ≤ w ∧ w ≤ 1) then (if x = y then 2 else 0) else 1) (gmVM h n jn x y w)), (fun _ _ => False), a) 0 51 [zrv E 64, ziv x, ziv y, ziv w, ziv (s : Int), .null, .null, .null, .null] [] h2 := by
            intro m
            induction m with
            | zero => intro s h2 hm_ hs mq2 z2 o2; exfalso; omega
            | succ m ih =>
              intro s h2 hm_ hs mq2 z2 o2
              obtain ⟨i2, -⟩ := oneM_q hm mq2
              refine zV_iload dX6_game_51 rfl ?_
              refine zV_iconst dX6_game_53 ?_
              refine zR_icmp_ge (tgt := 119) dX6_game_54 (by decide) (by omega) (by omega) (fun h54 => ?_) (fun h54 => ?_)
              · have g97 : ∀ c, c < 4 → h2 97 c = gmOM h n jn x y c := fun c hc => o2 c (by omega)
                have g74 : h2 74 = h 74 := mq2.1 74 (by omega)
                have j8 := hm.1.1.2.1
                have w1 : 0 ≤ h2 74 x.toNat ∧ h2 74 x.toNat ≤ 4 := by rw [g74]; exact hm.1.2.2.2.1 _ (by omega)
                have w2 : 0 ≤ h2 74 y.toNat ∧ h2 74 y.toNat ≤ 4 := by rw [g74]; exact hm.1.2.2.2.1 _ (by omega)
                refine zV_iconst dX6_game_119 ?_
                refine zV_istore dX6_game_120 (Nat.le_of_ble_eq_true rfl) rfl ?_
                refine zV_iconst dX6_game_122 ?_
                refine zV_istore dX6_game_123 (Nat.le_of_ble_eq_true rfl) rfl ?_
                refine zV_iconst dX6_game_125 ?_
                refine zV_istore dX6_game_126 (Nat.le_of_ble_eq_true rfl) rfl ?_
                have L128 : ∀ (m3 : Nat) (s : Nat), (5 ≤ s + m3) → (s ≤ 4) → zV (E, mX6_game, 12, 4, (mA h (if (0 ≤ x ∧ x < jn) ∧ (0 ≤ y ∧ y < jn) ∧ (0 ≤ w ∧ w ≤ 1) then (if x = y then 2 else 0) else 1) (gmVM h n jn x y w)), (fun _ _ => False), a) 0 128 [zrv E 64, ziv ((x.toNat : Nat) : Int), ziv ((y.toNat : Nat) : Int), ziv w, ziv (cntB (gmBM h n jn x y) s), ziv (fF (gmBM h n jn x y) s), ziv (s : Int), .null, .null] [] h2 := by
                  intro m3
                  induction m3 with
                  | zero => intro s hm_ hs; exfalso; omega
                  | succ m3 ih3 =>
                    intro s hm_ hs
                    have fr := fF_r (gmBM h n jn x y) s hs
                    refine zV_iload dX6_game_128 rfl ?_
                    refine zV_iconst dX6_game_130 ?_
                    refine zR_icmp_ge (tgt := 229) dX6_game_131 (by decide) (by omega) (by omega) (fun h131 => ?_) (fun h131 => ?_)
                    · refine zV_iload_n dX6_game_229 rfl rfl ?_
                      refine zR_if_ne (tgt := 238) dX6_game_230 (by decide) (by omega) (fun h230 => ?_) (fun h230 => ?_)
                      · refine zV_iload dX6_game_238 rfl ?_
                        exact zV_ireturn dX6_game_240 rfl (Nat.zero_le _) (mA_ok mq2 z2 (by rw [if_pos (by omega), if_neg h39]) (by unfold gmVM; rw [show s = 4 by omega]; rw [if_neg h230]))
                      · refine zV_iload dX6_game_233 rfl ?_
                        refine zV_goto (tgt := 240) dX6_game_235 (by decide) ?_
                        exact zV_ireturn dX6_game_240 rfl (Nat.zero_le _) (mA_ok mq2 z2 (by rw [if_pos (by omega), if_neg h39]) (by unfold gmVM; rw [show s = 4 by omega]; rw [if_pos h230]))
                    · have gc := gc4 s (by omega)
                      have gn := gn_c s (by omega)
                      refine zV_iload dX6_game_134 rfl ?_
                      refine zV_iconst dX6_game_136 ?_
                      refine zV_idiv dX6_game_137 (by decide) ?_
                      refine zV_teq (w := ziv (zshr s 1)) (congrArg ziv (by rw [zdiv_eq (by omega) (by decide), Int.tdiv_eq_ediv_of_nonneg (by omega), ← gc.1]; omega)) ?_
                      refine zV_istore dX6_game_138 (Nat.le_of_ble_eq_true rfl) rfl ?_
                      refine zV_iload dX6_game_140 rfl ?_
                      refine zV_iconst dX6_game_142 ?_
                      refine zV_irem dX6_game_143 (by decide) ?_
                      refine zV_teq (w := ziv (zand s 1)) (congrArg ziv (by rw [zrem_eq (by omega) (by decide), Int.tmod_eq_emod_of_nonneg (by omega), ← gc.2.1]; omega)) ?_
                      refine zV_lveq (lv' := [zrv E 64, ziv ((x.toNat : Nat) : Int), ziv ((y.toNat : Nat) : Int), ziv w, ziv (cntB (gmBM h n jn x y) s), ziv (fF (gmBM h n jn x y) s), ziv (s : Int), ziv (zshr s 1), .null]) (by rw [show ((x.toNat : Nat) : Int) = x by omega, show ((y.toNat : Nat) : Int) = y by omega]; rfl) ?_
                      refine zV_istore dX6_game_144 (Nat.le_of_ble_eq_true rfl) rfl ?_
                      refine zV_aload_nr dX6_game_146 rfl rfl ?_
                      refine zV_iload_n dX6_game_147 rfl rfl ?_
                      refine zV_iload dX6_game_148 rfl ?_
                      refine zV_iconst dX6_game_150 ?_
                      refine zV_ixor dX6_game_151 ?_
                      rw [gc.2.2.2.2.1]
                      refine zV_iconst dX6_game_152 ?_
                      refine zV_iload dX6_game_153 rfl ?_
                      refine zV_isub dX6_game_155 ?_
                      refine zV_teq (w := ziv (zxor (zshr s 1) 1)) (congrArg ziv (by rw [← gc.2.2.1, gc.1])) ?_
                      refine zV_callV (As := [ziv (((x).toNat : Nat) : Int), ziv (((zxor s 2).toNat : Nat) : Int), ziv (zxor (zshr s 1) 1)]) lk6_476 (rfl) rfl rfl (c6_gainOf (j := (x).toNat) (c := (zxor s 2).toNat) 11 0 (by omega) gc.2.2.2.2.2.1 w1 (by rw [g97 _ gc.2.2.2.2.2.1]; exact gmOM_lo h n jn x y _)) ⟨by show _ + 1 ≤ 12; omega, by show _ ≤ 4; omega⟩ rfl (Nat.le_of_ble_eq_true rfl) dX6_game_156 (fun _ _ z => z.elim) (fun r h9 q => ?_)
                      obtain ⟨rfl, hh⟩ := q
                      rw [hh]
                      clear hh
                      rw [g97 _ gc.2.2.2.2.2.1, g74]
                      refine zV_aload_nr dX6_game_159 rfl rfl ?_
                      refine zV_iload_n dX6_game_160 rfl rfl ?_
                      refine zV_iload dX6_game_161 rfl ?_
                      refine zV_iload dX6_game_163 rfl ?_
                      refine zV_callV (As := [ziv (((x).toNat : Nat) : Int), ziv ((s : Nat) : Int), ziv (zshr s 1)]) lk6_476 (rfl) rfl rfl (c6_gainOf (j := (x).toNat) (c := s) 11 0 (by omega) (by omega) w1 (by rw [g97 _ (by omega)]; exact gmOM_lo h n jn x y _)) ⟨by show _ + 1 ≤ 12; omega, by show _ ≤ 4; omega⟩ rfl (Nat.le_of_ble_eq_true rfl) dX6_game_165 (fun _ _ z => z.elim) (fun r h9 q => ?_)
                      obtain ⟨rfl, hh⟩ := q
                      rw [hh]
                      clear hh
                      rw [g97 _ (by omega), g74]
                      refine zR_icmp_gt (tgt := 223) dX6_game_168 (by decide) (by split <;> omega) (by split <;> omega) (fun h168 => ?_) (fun h168 => ?_)
                      · refine zV_iinc dX6_game_223 rfl (Nat.le_of_ble_eq_true rfl) rfl ?_
                        refine zV_goto (tgt := 128) dX6_game_226 (by decide) ?_
                        have hb : (gmBM h n jn x y) s = false := by
                          show restB _ _ _ _ = false
                          unfold restB gnV
                          rw [decide_eq_false (by rw [Int.toNat_natCast]; omega)]
                          rfl
                        refine zV_drop 7 ?_
                        refine zV_drop 8 ?_
                        refine zV_lveq (lv' := [zrv E 64, ziv ((x.toNat : Nat) : Int), ziv ((y.toNat : Nat) : Int), ziv w, ziv (cntB (gmBM h n jn x y) (s + 1)), ziv (fF (gmBM h n jn x y) (s + 1)), ziv ((s : Int) + 1), .null, .null]) (by rw [cntB_s, if_neg (by rw [hb]; decide), fF_n hb]; rfl) ?_
                        exact ih3 (s + 1) (by omega) (by omega)
                      · refine zV_aload_nr dX6_game_171 rfl rfl ?_
                        refine zV_iload_n dX6_game_172 rfl rfl ?_
                        refine zV_iload dX6_game_173 rfl ?_
                        refine zV_iconst dX6_game_175 ?_
                        refine zV_ixor dX6_game_176 ?_
                        rw [gc.2.2.2.2.2.2.1]
                        refine zV_iconst dX6_game_177 ?_
                        refine zV_iload dX6_game_178 rfl ?_
                        refine zV_isub dX6_game_180 ?_
                        refine zV_teq (w := ziv (zxor (zand s 1) 1)) (congrArg ziv (by rw [← gc.2.2.2.1, gc.2.1])) ?_
                        refine zV_callV (As := [ziv (((y).toNat : Nat) : Int), ziv (((zxor s 1).toNat : Nat) : Int), ziv (zxor (zand s 1) 1)]) lk6_476 (rfl) rfl rfl (c6_gainOf (j := (y).toNat) (c := (zxor s 1).toNat) 11 0 (by omega) gc.2.2.2.2.2.2.2 w2 (by rw [g97 _ gc.2.2.2.2.2.2.2]; exact gmOM_lo h n jn x y _)) ⟨by show _ + 1 ≤ 12; omega, by show _ ≤ 4; omega⟩ rfl (Nat.le_of_ble_eq_true rfl) dX6_game_181 (fun _ _ z => z.elim) (fun r h9 q => ?_)
                        obtain ⟨rfl, hh⟩ := q
                        rw [hh]
                        clear hh
                        rw [g97 _ gc.2.2.2.2.2.2.2, g74]
                        refine zV_aload_nr dX6_game_184 rfl rfl ?_
                        refine zV_iload_n dX6_game_185 rfl rfl ?_
                        refine zV_iload dX6_game_186 rfl ?_
                        refine zV_iload dX6_game_188 rfl ?_
                        refine zV_callV (As := [ziv (((y).toNat : Nat) : Int), ziv ((s : Nat) : Int), ziv (zand s 1)]) lk6_476 (rfl) rfl rfl (c6_gainOf (j := (y).toNat) (c := s) 11 0 (by omega) (by omega) w2 (by rw [g97 _ (by omega)]; exact gmOM_lo h n jn x y _)) ⟨by show _ + 1 ≤ 12; omega, by show _ ≤ 4; omega⟩ rfl (Nat.le_of_ble_eq_true rfl) dX6_game_190 (fun _ _ z => z.elim) (fun r h9 q => ?_)
                        obtain ⟨rfl, hh⟩ := q
                        rw [hh]
                        clear hh
                        rw [g97 _ (by omega), g74]
                        refine zR_icmp_le (tgt := 199) dX6_game_193 (by decide) (by split <;> omega) (by split <;> omega) (fun h193 => ?_) (fun h193 => ?_)
                        · refine zV_iinc dX6_game_199 rfl (Nat.le_of_ble_eq_true rfl) rfl ?_
                          refine zV_iload dX6_game_202 rfl ?_
                          refine zV_iconst dX6_game_204 ?_
                          have J221 : ∀ (B : Int), (B = if fF (gmBM h n jn x y) s = -1 then 10 * ((s / 2 : Nat) : Int) + ((s % 2 : Nat) : Int) else fF (gmBM h n jn x y) s) → zV (E, mX6_game, 12, 4, (mA h (if (0 ≤ x ∧ x < jn) ∧ (0 ≤ y ∧ y < jn) ∧ (0 ≤ w ∧ w ≤ 1) then (if x = y then 2 else 0) else 1) (gmVM h n jn x y w)), (fun _ _ => False), a) 0 221 [zrv E 64, ziv ((x.toNat : Nat) : Int), ziv ((y.toNat : Nat) : Int), ziv w, ziv (cntB (gmBM h n jn x y) s + 1), ziv (fF (gmBM h n jn x y) s), ziv (s : Int), ziv (zshr s 1), ziv (zand s 1)] [ziv B] h2 := by
                            intro B hB
                            refine zV_istore dX6_game_221 (Nat.le_of_ble_eq_true rfl) rfl ?_
                            refine zV_iinc dX6_game_223 rfl (Nat.le_of_ble_eq_true rfl) rfl ?_
                            refine zV_goto (tgt := 128) dX6_game_226 (by decide) ?_
                            have hb : (gmBM h n jn x y) s = true := by
                              show restB _ _ _ _ = true
                              unfold restB gnV
                              rw [Int.toNat_natCast, decide_eq_true (by omega), decide_eq_true (by omega)]
                              rfl
                            refine zV_drop 7 ?_
                            refine zV_drop 8 ?_
                            refine zV_lveq (lv' := [zrv E 64, ziv ((x.toNat : Nat) : Int), ziv ((y.toNat : Nat) : Int), ziv w, ziv (cntB (gmBM h n jn x y) (s + 1)), ziv (fF (gmBM h n jn x y) (s + 1)), ziv ((s : Int) + 1), .null, .null]) (by rw [cntB_s, if_pos hb, fF_y (by omega) hb, ← hB]; rfl) ?_
                            exact ih3 (s + 1) (by omega) (by omega)
                          refine zR_icmp_ne (tgt := 219) dX6_game_205 (by decide) (by omega) (by decide) (fun h205 => ?_) (fun h205 => ?_)
                          · refine zV_iload dX6_game_219 rfl ?_
                            exact J221 _ (by rw [if_neg h205])
                          · refine zV_bipush dX6_game_208 (by decide) ?_
                            refine zV_iload dX6_game_210 rfl ?_
                            refine zV_imul dX6_game_212 ?_
                            refine zV_iload dX6_game_213 rfl ?_
                            refine zV_iadd dX6_game_215 ?_
                            refine zV_goto (tgt := 221) dX6_game_216 (by decide) ?_
                            exact J221 _ (by rw [if_pos h205, gc.1, gc.2.1])
                        · refine zV_goto (tgt := 223) dX6_game_196 (by decide) ?_
                          refine zV_iinc dX6_game_223 rfl (Nat.le_of_ble_eq_true rfl) rfl ?_
                          refine zV_goto (tgt := 128) dX6_game_226 (by decide) ?_
                          have hb : (gmBM h n jn x y) s = false := by
                            show restB _ _ _ _ = false
                            unfold restB gnV
                            rw [Bool.and_comm, decide_eq_false (by rw [Int.toNat_natCast]; omega)]
                            rfl
                          refine zV_drop 7 ?_
                          refine zV_drop 8 ?_
                          refine zV_lveq (lv' := [zrv E 64, ziv ((x.toNat : Nat) : Int), ziv ((y.toNat : Nat) : Int), ziv w, ziv (cntB (gmBM h n jn x y) (s + 1)), ziv (fF (gmBM h n jn x y) (s + 1)), ziv ((s : Int) + 1), .null, .null]) (by rw [cntB_s, if_neg (by rw [hb]; decide), fF_n hb]; rfl) ?_
                          exact ih3 (s + 1) (by omega) (by omega)
                refine zV_lveq (lv' := [zrv E 64, ziv ((x.toNat : Nat) : Int), ziv ((y.toNat : Nat) : Int), ziv w, ziv 0, ziv (-1), ziv 0, .null, .null]) (by rw [show ((x.toNat : Nat) : Int) = x by omega, show ((y.toNat : Nat) : Int) = y by omega]; rfl) ?_
                exact L128 5 0 (by omega) (by omega)
              · refine zV_iload dX6_game_57 rfl ?_
                refine zV_iconst dX6_game_59 ?_
                refine zV_idiv dX6_game_60 (by decide) ?_
                refine zV_teq (w := ziv ((s / 2 : Nat) : Int)) (congrArg ziv (by rw [zdiv_eq (by omega) (by decide), Int.tdiv_eq_ediv_of_nonneg (by omega)]; omega)) ?_
                refine zV_iconst dX6_game_61 ?_
                have J72 : ∀ (A : Int), (A = if s / 2 = 1 then zshl 1 x else 0) → zV (E, mX6_game, 12, 4, (mA h (if (0 ≤ x ∧ x < jn) ∧ (0 ≤ y ∧ y < jn) ∧ (0 ≤ w ∧ w ≤ 1) then (if x = y then 2 else 0) else 1) (gmVM h n jn x y w)), (fun _ _ => False), a) 0 72 [zrv E 64, ziv x, ziv y, ziv w, ziv (s : Int), .null, .null, .null, .null] [ziv A] h2 := by
                  intro A hA
                  refine zV_iload dX6_game_72 rfl ?_
                  refine zV_iconst dX6_game_74 ?_
                  refine zV_irem dX6_game_75 (by decide) ?_
                  refine zV_teq (w := ziv ((s % 2 : Nat) : Int)) (congrArg ziv (by rw [zrem_eq (by omega) (by decide), Int.tmod_eq_emod_of_nonneg (by omega)]; omega)) ?_
                  refine zV_iconst dX6_game_76 ?_
                  have J87 : ∀ (B : Int), (B = if s % 2 = 1 then zshl 1 y else 0) → zV (E, mX6_game, 12, 4, (mA h (if (0 ≤ x ∧ x < jn) ∧ (0 ≤ y ∧ y < jn) ∧ (0 ≤ w ∧ w ≤ 1) then (if x = y then 2 else 0) else 1) (gmVM h n jn x y w)), (fun _ _ => False), a) 0 87 [zrv E 64, ziv x, ziv y, ziv w, ziv (s : Int), .null, .null, .null, .null] [ziv B, ziv A] h2 := by
                    intro B hB
                    refine zV_ior dX6_game_87 ?_
                    have gb := gb4 s (by omega) x.toNat (by omega) y.toNat (by omega)
                    rw [show ((x.toNat : Nat) : Int) = x by omega, show ((y.toNat : Nat) : Int) = y by omega] at gb
                    rw [hA, hB, gb]
                    refine zV_istore dX6_game_88 (Nat.le_of_ble_eq_true rfl) rfl ?_
                    refine zV_aload_nr dX6_game_90 rfl rfl ?_
                    refine zV_iload dX6_game_91 rfl ?_
                    refine zV_callV (As := [ziv (zor (zshl (zshr s 1) x) (zshl (zand s 1) y))]) lk6_455 (rfl) rfl rfl (c6_turnAll (jn := jn) 11 0 (by decide) i2.1.1.2.2.2 i2.1.1.2.1) ⟨by show _ + 1 ≤ 12; omega, by show _ ≤ 4; omega⟩ rfl (Nat.le_of_ble_eq_true rfl) dX6_game_93 (fun _ _ z => z.elim) (fun r h3 q => ?_)
                    obtain ⟨rfl, t3⟩ := q
                    obtain ⟨i3, tv⟩ := turn_in hm mq2 t3
                    refine zV_aload_nr dX6_game_96 rfl rfl ?_
                    refine gf6_133 rfl (rfl) dX6_game_97 ?_
                    refine zV_teq (w := zrv E 97) rfl ?_
                    refine zV_iload dX6_game_100 rfl ?_
                    refine zV_aload_nr dX6_game_102 rfl rfl ?_
                    refine zV_callV (As := []) lk6_433 (rfl) rfl rfl (c6_nextVerdict (n := n) (jn := jn) 11 0 (by decide) i3.1 i3.2.1 i3.2.2) ⟨by show _ + 1 ≤ 12; omega, by show _ ≤ 4; omega⟩ rfl (Nat.le_of_ble_eq_true rfl) dX6_game_103 (fun _ _ z => z.elim) (fun r h4 q => ?_)
                    obtain ⟨rfl, nv4⟩ := q
                    rw [tv]
                    refine zV_iastoreN (i := s) (N := 4) (rfl) (by omega) (by decide) dX6_game_106 ?_
                    obtain ⟨h6, hh6⟩ : ∃ h6, h6 = zup h4 97 s (turnM h n jn (zor (zshl (zshr s 1) x) (zshl (zand s 1) y))) := ⟨_, rfl⟩
                    rw [← hh6]
                    have mq6 : mq h3 h6 := by rw [hh6]; exact mq_trans nv4.1 (mq_97 _ _ _)
                    obtain ⟨i4, -⟩ := oneM_q i3 mq6
                    refine zV_aload_nr dX6_game_107 rfl rfl ?_
                    refine zV_iload dX6_game_108 rfl ?_
                    refine zV_callV (As := [ziv (zor (zshl (zshr s 1) x) (zshl (zand s 1) y))]) lk6_455 (rfl) rfl rfl (c6_turnAll (jn := jn) 11 0 (by decide) i4.1.1.2.2.2 i4.1.1.2.1) ⟨by show _ + 1 ≤ 12; omega, by show _ ≤ 4; omega⟩ rfl (Nat.le_of_ble_eq_true rfl) dX6_game_110 (fun _ _ z => z.elim) (fun r h5 q => ?_)
                    obtain ⟨rfl, t5⟩ := q
                    refine zV_iinc dX6_game_113 rfl (Nat.le_of_ble_eq_true rfl) rfl ?_
                    refine zV_goto (tgt := 51) dX6_game_116 (by decide) ?_
                    refine zV_drop 5 ?_
                    exact ih (s + 1) h5 (by omega) (by omega) (mq_trans mq2 (turn_out t3 mq6 t5)) (by rw [t5, zst_ne (by decide), hh6, zup_fn (by decide), nv4.2.1, t3, zst_ne (by decide)]; exact z2) (fun c hc => by
                      rw [t5, zst_ne (by decide), hh6, zup_at]
                      by_cases e : c = s
                      · rw [if_pos e, e]; rfl
                      · rw [if_neg e, nv4.2.2.1 97 (by decide) (by decide) (by decide) (by decide) (by decide) (by decide) (by decide) (by decide), t3, zst_ne (by decide)]; exact o2 c (by omega))
                  refine zR_icmp_ne (tgt := 86) dX6_game_77 (by decide) (by omega) (by omega) (fun h77 => ?_) (fun h77 => ?_)
                  · refine zV_iconst dX6_game_86 ?_
                    exact J87 0 (by rw [if_neg (by omega)])
                  · refine zV_iconst dX6_game_80 ?_
                    refine zV_iload_n dX6_game_81 rfl rfl ?_
                    refine zV_ishl dX6_game_82 ?_
                    refine zV_goto (tgt := 87) dX6_game_83 (by decide) ?_
                    exact J87 _ (by rw [if_pos (by omega)])
                refine zR_icmp_ne (tgt := 71) dX6_game_62 (by decide) (by omega) (by omega) (fun h62 => ?_) (fun h62 => ?_)
                · refine zV_iconst dX6_game_71 ?_
                  exact J72 0 (by rw [if_neg (by omega)])
                · refine zV_iconst dX6_game_65 ?_
                  refine zV_iload_n dX6_game_66 rfl rfl ?_
                  refine zV_ishl dX6_game_67 ?_
                  refine zV_goto (tgt := 72) dX6_game_68 (by decide) ?_
                  exact J72 _ (by rw [if_pos (by omega)])
          exact L51 5 0 h0 (by omega) (by omega) q0 z0 (fun c hc => absurd hc (Nat.not_lt_zero c))
        · refine zV_aload_nr dX6_game_42 rfl rfl ?_
          refine zV_iconst dX6_game_43 ?_
          refine zV_callV (As := [ziv 2]) lk6_300 (rfl) rfl rfl (c6_fail 11 0) ⟨by show _ + 1 ≤ 12; omega, by show _ ≤ 4; omega⟩ rfl (Nat.le_of_ble_eq_true rfl) dX6_game_44 (fun _ _ z => z.elim) (fun r h9 q => ?_)
          obtain ⟨rfl, hh⟩ := q
          rw [hh]
          clear hh
          exact zV_ireturn dX6_game_47 rfl (Nat.zero_le _) (mA_f q0 (by decide) (by rw [if_pos (by omega), if_pos h39]))
      · have n28 := ipF h28
        refine zV_aload_nr dX6_game_31 rfl rfl ?_
        refine zV_iconst dX6_game_32 ?_
        refine zV_callV (As := [ziv 1]) lk6_300 (rfl) rfl rfl (c6_fail 11 0) ⟨by show _ + 1 ≤ 12; omega, by show _ ≤ 4; omega⟩ rfl (Nat.le_of_ble_eq_true rfl) dX6_game_33 (fun _ _ z => z.elim) (fun r h9 q => ?_)
        obtain ⟨rfl, hh⟩ := q
        rw [hh]
        clear hh
        exact zV_ireturn dX6_game_36 rfl (Nat.zero_le _) (mA_f q0 (by decide) (by rw [if_neg (by omega)]))
