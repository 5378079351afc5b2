/-! THE REFERENCE: tokens -/
def mrk (c : Int) : Bool := decide (c = 59 ∨ c = 40 ∨ c = 41 ∨ c = 43 ∨ c = 45 ∨ c = 42 ∨ c = 47 ∨ c = 60 ∨ c = 61)
def mclk (h : zH) (T : Nat → Int) (n : Nat) : Prop := h 64 19 = (n : Int) ∧ n ≤ 700 ∧ h 79 = T ∧ ∀ i, i < n → 0 ≤ T i ∧ T i ≤ 255
def tQ (T : Nat → Int) (n p : Nat) : Int := if tK T n p = 3 then (if mrk (T (tA T n p)) = true then 3 else 4) else tK T n p
def mtok (h : zH) (T : Nat → Int) (n p : Nat) : Prop := h 64 22 = (tA T n p : Int) ∧ h 64 23 = (tB T n p : Int) ∧ h 64 18 = (tB T n p : Int) ∧ h 64 20 = tQ T n p ∧ (tK T n p = 2 → h 64 21 = (dgM T n (n - tA T n p) (tA T n p) 0).2)
def mst (h h' : zH) : Prop := (∀ c2 : Nat, c2 ≠ 64 → h' c2 = h c2) ∧ ∀ j, j ≠ 18 → j ≠ 20 → j ≠ 21 → j ≠ 22 → j ≠ 23 → h' 64 j = h 64 j
theorem mst_rfl (h : zH) : mst h h := ⟨fun _ _ => rfl, fun _ _ _ _ _ _ => rfl⟩
theorem mst_up {h h1 : zH} {j : Nat} {v : Int} (a : mst h h1) (hj : j = 18 ∨ j = 20 ∨ j = 21 ∨ j = 22 ∨ j = 23) : mst h (zup h1 64 j v) := ⟨fun c2 hc => by rw [zup_fn hc]; exact a.1 c2 hc, fun i b c d e f => by rw [zup_at, if_neg (by omega)]; exact a.2 i b c d e f⟩
theorem mclk_st {h h1 : zH} {T : Nat → Int} {n : Nat} (hk : mclk h T n) (a : mst h h1) : mclk h1 T n := by
  obtain ⟨k1, k2, k3, k4⟩ := hk
  exact ⟨by rw [a.2 19 (by decide) (by decide) (by decide) (by decide) (by decide)]; exact k1, k2, by rw [a.1 79 (by decide)]; exact k3, k4⟩
theorem tQ_lo (T : Nat → Int) (n p : Nat) : 0 ≤ tQ T n p ∧ tQ T n p ≤ 4 := by
  have := tK_lo T n p
  unfold tQ; split
  · split <;> decide
  · omega
theorem tQ_1 {T : Nat → Int} {n p : Nat} : tQ T n p = 1 ↔ tK T n p = 1 := by
  unfold tQ; split
  · rename_i e; rw [e]; split <;> decide
  · exact Iff.rfl
theorem tQ_2 {T : Nat → Int} {n p : Nat} : tQ T n p = 2 ↔ tK T n p = 2 := by
  unfold tQ; split
  · rename_i e; rw [e]; split <;> decide
  · exact Iff.rfl
theorem tQ_0 {T : Nat → Int} {n p : Nat} : tQ T n p = 0 ↔ tK T n p = 0 := by
  unfold tQ; split
  · rename_i e; rw [e]; split <;> decide
  · exact Iff.rfl
theorem tQ_3 {T : Nat → Int} {n p : Nat} : tQ T n p = 3 ↔ (tK T n p = 3 ∧ mrk (T (tA T n p)) = true) := by
  unfold tQ; split
  · rename_i e
    split
    · rename_i e2; exact ⟨fun _ => ⟨e, e2⟩, fun _ => rfl⟩
    · rename_i e2; exact ⟨fun z => absurd z (by decide), fun z => absurd z.2 e2⟩
  · rename_i e; exact ⟨fun z => absurd z e, fun z => absurd z.1 e⟩
theorem tK_3 {T : Nat → Int} {n p : Nat} (h : tK T n p = 3) : tA T n p < n ∧ tV T n p = T (tA T n p) := by
  unfold tK at h
  unfold tV
  split at h
  · exact absurd h (by decide)
  · rename_i h1
    split at h
    · exact absurd h (by decide)
    · rename_i h2
      split at h
      · exact absurd h (by decide)
      · rename_i h3
        rw [if_neg h1, if_neg h2, if_neg h3]; exact ⟨by omega, rfl⟩
theorem tK_n {T : Nat → Int} {n p : Nat} (h : tK T n p ≠ 0) : tA T n p < n := by
  unfold tK at h
  split at h
  · exact absurd rfl h
  · omega

theorem wh_stop {b : Int → Bool} {T : Nat → Int} {n p : Nat} (h : ¬ (p < n ∧ b (T p) = true)) : whF b T n (n - p) p = p := by
  cases e : n - p with
  | zero => rfl
  | succ k => rw [whF_s, if_neg h]
theorem wh_go {b : Int → Bool} {T : Nat → Int} {n p : Nat} (h : p < n ∧ b (T p) = true) : whF b T n (n - p) p = whF b T n (n - (p + 1)) (p + 1) := by
  rw [show n - p = (n - (p + 1)) + 1 by omega, whF_s, if_pos h]
theorem dg_stop {T : Nat → Int} {n p : Nat} {v : Int} (h : ¬ (p < n ∧ dgt (T p) = true)) : dgM T n (n - p) p v = (p, v) := by
  cases e : n - p with
  | zero => rfl
  | succ k => rw [dgM_s, if_neg h]
theorem bv {h : zH} {T : Nat → Int} {n : Nat} (hk : mclk h T n) (p : Nat) : -1 ≤ (if p < n then T p else -1) ∧ (if p < n then T p else -1) ≤ 255 := by
  split
  · rename_i e; have := hk.2.2.2 p e; omega
  · decide
theorem lt_of {b : Int → Bool} {T : Nat → Int} {n q : Nat} (h : b (if q < n then T q else -1) = true) (h0 : b (-1) = false) : q < n ∧ b (T q) = true := by
  split at h
  · rename_i e; exact ⟨e, h⟩
  · rw [h0] at h; cases h
theorem tB_l {T : Nat → Int} {n p p1 : Nat} (hA : tA T n p = p1) (hl : p1 < n) (h : ltr (T p1) = true) : tK T n p = 1 ∧ tB T n p = whF ltr T n (n - p1) p1 := by
  exact ⟨by unfold tK; rw [hA, if_neg (show ¬ n ≤ p1 by omega), if_pos h], by unfold tB; rw [hA, if_neg (show ¬ n ≤ p1 by omega), if_pos h]⟩
theorem tB_d {T : Nat → Int} {n p p1 : Nat} (hA : tA T n p = p1) (hl : p1 < n) (h : ¬ ltr (T p1) = true) (h2 : dgt (T p1) = true) : tK T n p = 2 ∧ tB T n p = (dgM T n (n - p1) p1 0).1 := by
  exact ⟨by unfold tK; rw [hA, if_neg (show ¬ n ≤ p1 by omega), if_neg h, if_pos h2], by unfold tB; rw [hA, if_neg (show ¬ n ≤ p1 by omega), if_neg h, if_pos h2, dgF_p, dgM_p]⟩
theorem tB_s {T : Nat → Int} {n p p1 : Nat} (hA : tA T n p = p1) (hl : p1 < n) (h : ¬ ltr (T p1) = true) (h2 : ¬ dgt (T p1) = true) : tK T n p = 3 ∧ tB T n p = p1 + 1 := by
  exact ⟨by unfold tK; rw [hA, if_neg (show ¬ n ≤ p1 by omega), if_neg h, if_neg h2], by unfold tB; rw [hA, if_neg (show ¬ n ≤ p1 by omega), if_neg h, if_neg h2]⟩
theorem tB_e {T : Nat → Int} {n p p1 : Nat} (hA : tA T n p = p1) (hl : n ≤ p1) : tK T n p = 0 ∧ tB T n p = p1 := by
  exact ⟨by unfold tK; rw [hA, if_pos hl], by unfold tB; rw [hA, if_pos hl]⟩

set_option maxRecDepth 100000 in
theorem c6_byteAt {E : zE} {h : zH} {T : Nat → Int} {n x : Nat} (d k : Nat) (hk : mclk h T n) (hx : x ≤ 1000) : zCal E mX6_byteAt d k [zrv E 64, ziv (x : Int)] h (fun r h' => r = some (ziv (if x < n then T x else -1)) ∧ h' = h) (fun _ _ => False) := by
  refine zCal_of (by decide) (Nat.le_of_ble_eq_true rfl) (fun a => ?_)
  show zV _ 0 0 [zrv E 64, ziv (x : Int)] [] _
  obtain ⟨k1, k2, k3, k4⟩ := hk
  refine zV_iload_n dX6_byteAt_0 rfl rfl ?_
  refine zV_aload_nr dX6_byteAt_1 rfl rfl ?_
  refine gf6_171 rfl rfl dX6_byteAt_2 ?_
  rw [k1]
  refine zR_icmp_ge (tgt := 17) dX6_byteAt_5 (by decide) (by omega) (by omega) (fun h5 => ?_) (fun h5 => ?_)
  · refine zV_iconst dX6_byteAt_17 ?_
    exact zV_ireturn dX6_byteAt_18 rfl (Nat.zero_le _) ⟨by rw [if_neg (by omega)], rfl⟩
  · refine zV_aload_nr dX6_byteAt_8 rfl rfl ?_
    refine gf6_75 rfl (rfl) dX6_byteAt_9 ?_
    refine zV_teq (w := zrv E 79) rfl ?_
    refine zV_iload_n dX6_byteAt_12 rfl rfl ?_
    refine zV_ialoadN (i := x) (N := 700) (rfl) (by omega) (by decide) dX6_byteAt_13 ?_
    rw [k3]
    refine zV_goto (tgt := 18) dX6_byteAt_14 (by decide) ?_
    exact zV_ireturn dX6_byteAt_18 rfl (Nat.zero_le _) ⟨by rw [if_pos (by omega)], rfl⟩
set_option maxRecDepth 100000 in
theorem c6_isLetter {E : zE} {h : zH} {x : Int} (d k : Nat) (hx : -2147483648 ≤ x ∧ x ≤ 2147483647) : zCal E mX6_isLetter d k [ziv x] h (fun r h' => r = some (ziv (if ltr x = true then 1 else 0)) ∧ h' = h) (fun _ _ => False) := by
  refine zCal_of (by decide) (Nat.le_of_ble_eq_true rfl) (fun a => ?_)
  show zV _ 0 0 [ziv x] [] _
  refine zV_iload_n dX6_isLetter_0 rfl rfl ?_
  refine zV_bipush dX6_isLetter_1 (by decide) ?_
  refine zR_icmp_lt (tgt := 16) dX6_isLetter_3 (by decide) (by omega) (by omega) (fun h3 => ?_) (fun h3 => ?_)
  · refine zV_iconst dX6_isLetter_16 ?_
    exact zV_zreturn dX6_isLetter_17 rfl (by simp) (Nat.zero_le _) ⟨by rw [if_neg (fun z => by have := of_decide_eq_true z; omega)], rfl⟩
  · refine zV_iload_n dX6_isLetter_6 rfl rfl ?_
    refine zV_bipush dX6_isLetter_7 (by decide) ?_
    refine zR_icmp_gt (tgt := 16) dX6_isLetter_9 (by decide) (by omega) (by omega) (fun h9 => ?_) (fun h9 => ?_)
    · refine zV_iconst dX6_isLetter_16 ?_
      exact zV_zreturn dX6_isLetter_17 rfl (by simp) (Nat.zero_le _) ⟨by rw [if_neg (fun z => by have := of_decide_eq_true z; omega)], rfl⟩
    · refine zV_iconst dX6_isLetter_12 ?_
      refine zV_goto (tgt := 17) dX6_isLetter_13 (by decide) ?_
      exact zV_zreturn dX6_isLetter_17 rfl (by simp) (Nat.zero_le _) ⟨by rw [if_pos (show ltr x = true from decide_eq_true (by omega))], rfl⟩
set_option maxRecDepth 100000 in
theorem c6_isDigit {E : zE} {h : zH} {x : Int} (d k : Nat) (hx : -2147483648 ≤ x ∧ x ≤ 2147483647) : zCal E mX6_isDigit d k [ziv x] h (fun r h' => r = some (ziv (if dgt x = true then 1 else 0)) ∧ h' = h) (fun _ _ => False) := by
  refine zCal_of (by decide) (Nat.le_of_ble_eq_true rfl) (fun a => ?_)
  show zV _ 0 0 [ziv x] [] _
  refine zV_iload_n dX6_isDigit_0 rfl rfl ?_
  refine zV_bipush dX6_isDigit_1 (by decide) ?_
  refine zR_icmp_lt (tgt := 16) dX6_isDigit_3 (by decide) (by omega) (by omega) (fun h3 => ?_) (fun h3 => ?_)
  · refine zV_iconst dX6_isDigit_16 ?_
    exact zV_zreturn dX6_isDigit_17 rfl (by simp) (Nat.zero_le _) ⟨by rw [if_neg (fun z => by have := of_decide_eq_true z; omega)], rfl⟩
  · refine zV_iload_n dX6_isDigit_6 rfl rfl ?_
    refine zV_bipush dX6_isDigit_7 (by decide) ?_
    refine zR_icmp_gt (tgt := 16) dX6_isDigit_9 (by decide) (by omega) (by omega) (fun h9 => ?_) (fun h9 => ?_)
    · refine zV_iconst dX6_isDigit_16 ?_
      exact zV_zreturn dX6_isDigit_17 rfl (by simp) (Nat.zero_le _) ⟨by rw [if_neg (fun z => by have := of_decide_eq_true z; omega)], rfl⟩
    · refine zV_iconst dX6_isDigit_12 ?_
      refine zV_goto (tgt := 17) dX6_isDigit_13 (by decide) ?_
      exact zV_zreturn dX6_isDigit_17 rfl (by simp) (Nat.zero_le _) ⟨by rw [if_pos (show dgt x = true from decide_eq_true (by omega))], rfl⟩
set_option maxRecDepth 100000 in
theorem c6_isMark {E : zE} {h : zH} {x : Int} (d k : Nat) (hx : -2147483648 ≤ x ∧ x ≤ 2147483647) : zCal E mX6_isMark d k [ziv x] h (fun r h' => r = some (ziv (if mrk x = true then 1 else 0)) ∧ h' = h) (fun _ _ => False) := by
  refine zCal_of (by decide) (Nat.le_of_ble_eq_true rfl) (fun a => ?_)
  show zV _ 0 0 [ziv x] [] _
  refine zV_iload_n dX6_isMark_0 rfl rfl ?_
  refine zV_bipush dX6_isMark_1 (by decide) ?_
  refine zR_icmp_eq (tgt := 54) dX6_isMark_3 (by decide) (by omega) (by omega) (fun h3 => ?_) (fun h3 => ?_)
  · refine zV_iconst dX6_isMark_54 ?_
    refine zV_goto (tgt := 59) dX6_isMark_55 (by decide) ?_
    exact zV_zreturn dX6_isMark_59 rfl (by simp) (Nat.zero_le _) ⟨by rw [if_pos (show mrk x = true from decide_eq_true (by omega))], rfl⟩
  · refine zV_iload_n dX6_isMark_6 rfl rfl ?_
    refine zV_bipush dX6_isMark_7 (by decide) ?_
    refine zR_icmp_eq (tgt := 54) dX6_isMark_9 (by decide) (by omega) (by omega) (fun h9 => ?_) (fun h9 => ?_)
    · refine zV_iconst dX6_isMark_54 ?_
      refine zV_goto (tgt := 59) dX6_isMark_55 (by decide) ?_
      exact zV_zreturn dX6_isMark_59 rfl (by simp) (Nat.zero_le _) ⟨by rw [if_pos (show mrk x = true from decide_eq_true (by omega))], rfl⟩
    · refine zV_iload_n dX6_isMark_12 rfl rfl ?_
      refine zV_bipush dX6_isMark_13 (by decide) ?_
      refine zR_icmp_eq (tgt := 54) dX6_isMark_15 (by decide) (by omega) (by omega) (fun h15 => ?_) (fun h15 => ?_)
      · refine zV_iconst dX6_isMark_54 ?_
        refine zV_goto (tgt := 59) dX6_isMark_55 (by decide) ?_
        exact zV_zreturn dX6_isMark_59 rfl (by simp) (Nat.zero_le _) ⟨by rw [if_pos (show mrk x = true from decide_eq_true (by omega))], rfl⟩
      · refine zV_iload_n dX6_isMark_18 rfl rfl ?_
        refine zV_bipush dX6_isMark_19 (by decide) ?_
        refine zR_icmp_eq (tgt := 54) dX6_isMark_21 (by decide) (by omega) (by omega) (fun h21 => ?_) (fun h21 => ?_)
        · refine zV_iconst dX6_isMark_54 ?_
          refine zV_goto (tgt := 59) dX6_isMark_55 (by decide) ?_
          exact zV_zreturn dX6_isMark_59 rfl (by simp) (Nat.zero_le _) ⟨by rw [if_pos (show mrk x = true from decide_eq_true (by omega))], rfl⟩
        · refine zV_iload_n dX6_isMark_24 rfl rfl ?_
          refine zV_bipush dX6_isMark_25 (by decide) ?_
          refine zR_icmp_eq (tgt := 54) dX6_isMark_27 (by decide) (by omega) (by omega) (fun h27 => ?_) (fun h27 => ?_)
          · refine zV_iconst dX6_isMark_54 ?_
            refine zV_goto (tgt := 59) dX6_isMark_55 (by decide) ?_
            exact zV_zreturn dX6_isMark_59 rfl (by simp) (Nat.zero_le _) ⟨by rw [if_pos (show mrk x = true from decide_eq_true (by omega))], rfl⟩
          · refine zV_iload_n dX6_isMark_30 rfl rfl ?_
            refine zV_bipush dX6_isMark_31 (by decide) ?_
            refine zR_icmp_eq (tgt := 54) dX6_isMark_33 (by decide) (by omega) (by omega) (fun h33 => ?_) (fun h33 => ?_)
            · refine zV_iconst dX6_isMark_54 ?_
              refine zV_goto (tgt := 59) dX6_isMark_55 (by decide) ?_
              exact zV_zreturn dX6_isMark_59 rfl (by simp) (Nat.zero_le _) ⟨by rw [if_pos (show mrk x = true from decide_eq_true (by omega))], rfl⟩
            · refine zV_iload_n dX6_isMark_36 rfl rfl ?_
              refine zV_bipush dX6_isMark_37 (by decide) ?_
              refine zR_icmp_eq (tgt := 54) dX6_isMark_39 (by decide) (by omega) (by omega) (fun h39 => ?_) (fun h39 => ?_)
              · refine zV_iconst dX6_isMark_54 ?_
                refine zV_goto (tgt := 59) dX6_isMark_55 (by decide) ?_
                exact zV_zreturn dX6_isMark_59 rfl (by simp) (Nat.zero_le _) ⟨by rw [if_pos (show mrk x = true from decide_eq_true (by omega))], rfl⟩
              · refine zV_iload_n dX6_isMark_42 rfl rfl ?_
                refine zV_bipush dX6_isMark_43 (by decide) ?_
                refine zR_icmp_eq (tgt := 54) dX6_isMark_45 (by decide) (by omega) (by omega) (fun h45 => ?_) (fun h45 => ?_)
                · refine zV_iconst dX6_isMark_54 ?_
                  refine zV_goto (tgt := 59) dX6_isMark_55 (by decide) ?_
                  exact zV_zreturn dX6_isMark_59 rfl (by simp) (Nat.zero_le _) ⟨by rw [if_pos (show mrk x = true from decide_eq_true (by omega))], rfl⟩
                · refine zV_iload_n dX6_isMark_48 rfl rfl ?_
                  refine zV_bipush dX6_isMark_49 (by decide) ?_
                  refine zR_icmp_ne (tgt := 58) dX6_isMark_51 (by decide) (by omega) (by omega) (fun h51 => ?_) (fun h51 => ?_)
                  · refine zV_iconst dX6_isMark_58 ?_
                    exact zV_zreturn dX6_isMark_59 rfl (by simp) (Nat.zero_le _) ⟨by rw [if_neg (fun z => by have := of_decide_eq_true z; omega)], rfl⟩
                  · refine zV_iconst dX6_isMark_54 ?_
                    refine zV_goto (tgt := 59) dX6_isMark_55 (by decide) ?_
                    exact zV_zreturn dX6_isMark_59 rfl (by simp) (Nat.zero_le _) ⟨by rw [if_pos (show mrk x = true from decide_eq_true (by omega))], rfl⟩
set_option maxRecDepth 100000 in
theorem c6_stepOn {E : zE} {h : zH} {T : Nat → Int} {n p : Nat} (d k : Nat) (hd : 1 ≤ d) (hk : mclk h T n) (h18 : h 64 18 = (p : Int)) (hp : p ≤ n) : zCal E mX6_stepOn d k [zrv E 64] h (fun r h' => r = none ∧ mst h h' ∧ mtok h' T n p) (fun _ _ => False) := by
  refine zCal_of (by decide) (Nat.le_of_ble_eq_true rfl) (fun a => ?_)
  show zV _ 0 0 [zrv E 64, .null] [] _
  have k2 := hk.2.1
  have k4 := hk.2.2.2
  have ta := tA_lo (T := T) hp
  have L0 : ∀ (m : Nat) (p1 : Nat) (h1 : zH), (n + 1 ≤ p1 + m) → (p1 ≤ n) → (mst h h1) → (h1 64 18 = (p1 : Int)) → (whF blk T n (n - p) p = whF blk T n (n - p1) p1) → zV (E, mX6_stepOn, d, k, (fun r h' => r = none ∧ mst h h' ∧ mtok h' T n p), (fun _ _ => False), a) 0 0 [zrv E 64, .null] [] h1 := by
    intro m
    induction m with
    | zero => intro p1 h1 hm_ hp1 fr e18 hw; exfalso; omega
    | succ m ih =>
      intro p1 h1 hm_ hp1 fr e18 hw
      refine zV_aload_nr dX6_stepOn_0 rfl rfl ?_
      refine zV_aload_nr dX6_stepOn_1 rfl rfl ?_
      refine gf6_174 rfl rfl dX6_stepOn_2 ?_
      rw [e18]
      refine zV_callV (As := [ziv (p1 : Int)]) lk6_177 (rfl) rfl rfl (c6_byteAt (T := T) (n := n) (x := p1) (d - 1) 0 (mclk_st hk fr) (by omega)) ⟨by show _ + 1 ≤ d; omega, by show _ ≤ k; omega⟩ rfl (Nat.le_of_ble_eq_true rfl) dX6_stepOn_5 (fun _ _ z => z.elim) (fun r h9 q => ?_)
      obtain ⟨rfl, hh⟩ := q
      rw [hh]
      clear hh
      refine zV_bipush dX6_stepOn_8 (by decide) ?_
      have J26 : (p1 < n ∧ blk (T p1) = true) → zV (E, mX6_stepOn, d, k, (fun r h' => r = none ∧ mst h h' ∧ mtok h' T n p), (fun _ _ => False), a) 0 26 [zrv E 64, .null] [] h1 := by
        intro  hbl
        refine zV_aload_nr dX6_stepOn_26 rfl rfl ?_
        refine zV_dup dX6_stepOn_27 rfl ?_
        refine gf6_174 rfl rfl dX6_stepOn_28 ?_
        rw [e18]
        refine zV_iconst dX6_stepOn_31 ?_
        refine zV_iadd dX6_stepOn_32 ?_
        refine pf6_174 rfl (rfl) dX6_stepOn_33 ?_
        refine zV_goto (tgt := 0) dX6_stepOn_36 (by decide) ?_
        exact ih (p1 + 1) _ (by omega) (by omega) (mst_up fr (by omega)) (by rw [zup_at, if_pos rfl]; rfl) (by rw [hw]; exact wh_go hbl)
      have bt := bv hk p1
      refine zR_icmp_eq (tgt := 26) dX6_stepOn_10 (by decide) (by omega) (by decide) (fun h10 => ?_) (fun h10 => ?_)
      · have hlt : p1 < n ∧ T p1 = 32 := by split at h10 <;> omega
        have hbl : p1 < n ∧ blk (T p1) = true := ⟨hlt.1, decide_eq_true (Or.inl hlt.2)⟩
        exact J26 hbl
      · refine zV_aload_nr dX6_stepOn_13 rfl rfl ?_
        refine zV_aload_nr dX6_stepOn_14 rfl rfl ?_
        refine gf6_174 rfl rfl dX6_stepOn_15 ?_
        rw [e18]
        refine zV_callV (As := [ziv (p1 : Int)]) lk6_177 (rfl) rfl rfl (c6_byteAt (T := T) (n := n) (x := p1) (d - 1) 0 (mclk_st hk fr) (by omega)) ⟨by show _ + 1 ≤ d; omega, by show _ ≤ k; omega⟩ rfl (Nat.le_of_ble_eq_true rfl) dX6_stepOn_18 (fun _ _ z => z.elim) (fun r h9 q => ?_)
        obtain ⟨rfl, hh⟩ := q
        rw [hh]
        clear hh
        refine zV_bipush dX6_stepOn_21 (by decide) ?_
        refine zR_icmp_ne (tgt := 39) dX6_stepOn_23 (by decide) (by omega) (by decide) (fun h23 => ?_) (fun h23 => ?_)
        · have hnb : ¬ (p1 < n ∧ blk (T p1) = true) := fun z => by
            rw [if_pos z.1] at h10 h23
            rcases of_decide_eq_true z.2 with y | y
            · exact h10 y
            · exact h23 y
          refine zV_aload_nr dX6_stepOn_39 rfl rfl ?_
          refine zV_aload_nr dX6_stepOn_40 rfl rfl ?_
          refine gf6_174 rfl rfl dX6_stepOn_41 ?_
          rw [e18]
          have hA : tA T n p = p1 := by unfold tA; rw [hw]; exact wh_stop hnb
          refine pf6_181 rfl (rfl) dX6_stepOn_44 ?_
          obtain ⟨hB, hhB⟩ : ∃ hB, hB = zup h1 64 22 (p1 : Int) := ⟨_, rfl⟩
          rw [← hhB]
          have frB : mst h hB := by rw [hhB]; exact mst_up fr (by omega)
          have hk2 := mclk_st hk frB
          have e18B : hB 64 18 = (p1 : Int) := by rw [hhB, zup_at, if_neg (by decide)]; exact e18
          have e22B : hB 64 22 = (tA T n p : Int) := by rw [hhB, zup_at, if_pos rfl, hA]
          refine zV_aload_nr dX6_stepOn_47 rfl rfl ?_
          refine zV_aload_nr dX6_stepOn_48 rfl rfl ?_
          refine gf6_174 rfl rfl dX6_stepOn_49 ?_
          rw [e18B]
          refine zV_callV (As := [ziv (p1 : Int)]) lk6_177 (rfl) rfl rfl (c6_byteAt (T := T) (n := n) (x := p1) (d - 1) 0 hk2 (by omega)) ⟨by show _ + 1 ≤ d; omega, by show _ ≤ k; omega⟩ rfl (Nat.le_of_ble_eq_true rfl) dX6_stepOn_52 (fun _ _ z => z.elim) (fun r h9 q => ?_)
          obtain ⟨rfl, hh⟩ := q
          rw [hh]
          clear hh
          refine zV_istore_n dX6_stepOn_55 rfl (Nat.le_of_ble_eq_true rfl) rfl ?_
          refine zV_iload_n dX6_stepOn_56 rfl rfl ?_
          refine zV_iconst dX6_stepOn_57 ?_
          have J212 : ∀ (hC : zH), (mst h hC) → (hC 64 18 = (tB T n p : Int)) → (hC 64 22 = (tA T n p : Int)) → (hC 64 20 = tQ T n p) → (tK T n p = 2 → hC 64 21 = (dgM T n (n - tA T n p) (tA T n p) 0).2) → zV (E, mX6_stepOn, d, k, (fun r h' => r = none ∧ mst h h' ∧ mtok h' T n p), (fun _ _ => False), a) 0 212 [zrv E 64, ziv (if p1 < n then T p1 else -1)] [] hC := by
            intro hC fC f18 f22 f20 f21
            refine zV_aload_nr dX6_stepOn_212 rfl rfl ?_
            refine zV_aload_nr dX6_stepOn_213 rfl rfl ?_
            refine gf6_174 rfl rfl dX6_stepOn_214 ?_
            rw [f18]
            refine pf6_207 rfl (rfl) dX6_stepOn_217 ?_
            exact zV_vreturn dX6_stepOn_220 rfl (Nat.zero_le _) ⟨rfl, mst_up fC (by omega), by rw [zup_at, if_neg (by decide)]; exact f22, by rw [zup_at, if_pos rfl], by rw [zup_at, if_neg (by decide)]; exact f18, by rw [zup_at, if_neg (by decide)]; exact f20, fun z => by rw [zup_at, if_neg (by decide)]; exact f21 z⟩
          have bt := bv hk p1
          refine zR_icmp_ne (tgt := 69) dX6_stepOn_58 (by decide) (by omega) (by decide) (fun h58 => ?_) (fun h58 => ?_)
          · have pl : p1 < n := Decidable.byContradiction fun z => h58 (if_neg z)
            have tt := k4 p1 pl
            rw [if_pos pl]
            refine zV_iload_n dX6_stepOn_69 rfl rfl ?_
            refine zV_callS (As := [ziv (T p1)]) lk6_187 (c6_isLetter (d - 1) 0 (by omega)) ⟨by show _ + 1 ≤ d; omega, by show _ ≤ k; omega⟩ rfl (Nat.le_of_ble_eq_true rfl) dX6_stepOn_70 (fun _ _ z => z.elim) (fun r h9 q => ?_)
            obtain ⟨rfl, hh⟩ := q
            rw [hh]
            clear hh
            refine zR_if_eq (tgt := 111) dX6_stepOn_73 (by decide) (by split <;> omega) (fun h73 => ?_) (fun h73 => ?_)
            · have n73 := ipF h73
              refine zV_iload_n dX6_stepOn_111 rfl rfl ?_
              refine zV_callS (As := [ziv (T p1)]) lk6_191 (c6_isDigit (d - 1) 0 (by omega)) ⟨by show _ + 1 ≤ d; omega, by show _ ≤ k; omega⟩ rfl (Nat.le_of_ble_eq_true rfl) dX6_stepOn_112 (fun _ _ z => z.elim) (fun r h9 q => ?_)
              obtain ⟨rfl, hh⟩ := q
              rw [hh]
              clear hh
              refine zR_if_eq (tgt := 186) dX6_stepOn_115 (by decide) (by split <;> omega) (fun h115 => ?_) (fun h115 => ?_)
              · have n115 := ipF h115
                refine zV_aload_nr dX6_stepOn_186 rfl rfl ?_
                refine zV_dup dX6_stepOn_187 rfl ?_
                refine gf6_174 rfl rfl dX6_stepOn_188 ?_
                rw [e18B]
                refine zV_iconst dX6_stepOn_191 ?_
                refine zV_iadd dX6_stepOn_192 ?_
                refine pf6_174 rfl (rfl) dX6_stepOn_193 ?_
                refine zV_aload_nr dX6_stepOn_196 rfl rfl ?_
                refine zV_iload_n dX6_stepOn_197 rfl rfl ?_
                refine zV_callS (As := [ziv (T p1)]) lk6_204 (c6_isMark (d - 1) 0 (by omega)) ⟨by show _ + 1 ≤ d; omega, by show _ ≤ k; omega⟩ rfl (Nat.le_of_ble_eq_true rfl) dX6_stepOn_198 (fun _ _ z => z.elim) (fun r h9 q => ?_)
                obtain ⟨rfl, hh⟩ := q
                rw [hh]
                clear hh
                refine zR_if_eq (tgt := 208) dX6_stepOn_201 (by decide) (by split <;> omega) (fun h201 => ?_) (fun h201 => ?_)
                · have n201 := ipF h201
                  refine zV_iconst dX6_stepOn_208 ?_
                  refine pf6_184 rfl (rfl) dX6_stepOn_209 ?_
                  have ts := tB_s hA pl n73 n115
                  refine zV_lveq (lv' := [zrv E 64, ziv (if p1 < n then T p1 else -1)]) (by first | (rw [if_pos pl]; done) | (rw [if_pos pl]; rfl)) ?_
                  exact J212 _ (mst_up (mst_up frB (by omega)) (by omega)) (by rw [zup_at, if_neg (by decide), zup_at, if_pos rfl, ts.2]; rfl) (by rw [zup_at, if_neg (by decide), zup_at, if_neg (by decide)]; exact e22B) (by rw [zup_at, if_pos rfl]; unfold tQ; rw [ts.1, if_pos rfl, hA, if_neg n201]) (fun z => absurd (ts.1.symm.trans z) (by decide))
                · have y201 := ipT h201
                  refine zV_iconst dX6_stepOn_204 ?_
                  refine zV_goto (tgt := 209) dX6_stepOn_205 (by decide) ?_
                  refine pf6_184 rfl (rfl) dX6_stepOn_209 ?_
                  have ts := tB_s hA pl n73 n115
                  refine zV_lveq (lv' := [zrv E 64, ziv (if p1 < n then T p1 else -1)]) (by first | (rw [if_pos pl]; done) | (rw [if_pos pl]; rfl)) ?_
                  exact J212 _ (mst_up (mst_up frB (by omega)) (by omega)) (by rw [zup_at, if_neg (by decide), zup_at, if_pos rfl, ts.2]; rfl) (by rw [zup_at, if_neg (by decide), zup_at, if_neg (by decide)]; exact e22B) (by rw [zup_at, if_pos rfl]; unfold tQ; rw [ts.1, if_pos rfl, hA, if_pos y201]) (fun z => absurd (ts.1.symm.trans z) (by decide))
              · have y115 := ipT h115
                refine zV_aload_nr dX6_stepOn_118 rfl rfl ?_
                refine zV_iconst dX6_stepOn_119 ?_
                refine pf6_194 rfl (rfl) dX6_stepOn_120 ?_
                have L123 : ∀ (m2 : Nat) (q1 : Nat) (v : Int) (h2 : zH), (n + 1 ≤ q1 + m2) → (q1 ≤ n) → (mst h h2) → (h2 64 18 = (q1 : Int)) → (h2 64 22 = (tA T n p : Int)) → (h2 64 21 = v) → (0 ≤ v ∧ v ≤ 100000) → (dgM T n (n - p1) p1 0 = dgM T n (n - q1) q1 v) → zV (E, mX6_stepOn, d, k, (fun r h' => r = none ∧ mst h h' ∧ mtok h' T n p), (fun _ _ => False), a) 0 123 [zrv E 64, ziv (T p1)] [] h2 := by
                  intro m2
                  induction m2 with
                  | zero => intro q1 v h2 hm_ hq1 fr2 q18 q22 q21 hv hq; exfalso; omega
                  | succ m2 ih2 =>
                    intro q1 v h2 hm_ hq1 fr2 q18 q22 q21 hv hq
                    refine zV_aload_nr dX6_stepOn_123 rfl rfl ?_
                    refine zV_aload_nr dX6_stepOn_124 rfl rfl ?_
                    refine gf6_174 rfl rfl dX6_stepOn_125 ?_
                    rw [q18]
                    refine zV_callV (As := [ziv (q1 : Int)]) lk6_177 (rfl) rfl rfl (c6_byteAt (T := T) (n := n) (x := q1) (d - 1) 0 (mclk_st hk fr2) (by omega)) ⟨by show _ + 1 ≤ d; omega, by show _ ≤ k; omega⟩ rfl (Nat.le_of_ble_eq_true rfl) dX6_stepOn_128 (fun _ _ z => z.elim) (fun r h9 q => ?_)
                    obtain ⟨rfl, hh⟩ := q
                    rw [hh]
                    clear hh
                    refine zV_callS (As := [ziv (if q1 < n then T q1 else -1)]) lk6_191 (c6_isDigit (d - 1) 0 (by have := bv hk q1; omega)) ⟨by show _ + 1 ≤ d; omega, by show _ ≤ k; omega⟩ rfl (Nat.le_of_ble_eq_true rfl) dX6_stepOn_131 (fun _ _ z => z.elim) (fun r h9 q => ?_)
                    obtain ⟨rfl, hh⟩ := q
                    rw [hh]
                    clear hh
                    refine zR_if_eq (tgt := 178) dX6_stepOn_134 (by decide) (by split <;> omega) (fun h134 => ?_) (fun h134 => ?_)
                    · have qn : ¬ (q1 < n ∧ dgt (T q1) = true) := fun z => ipF h134 (by rw [if_pos z.1]; exact z.2)
                      refine zV_aload_nr dX6_stepOn_178 rfl rfl ?_
                      refine zV_iconst dX6_stepOn_179 ?_
                      refine pf6_184 rfl (rfl) dX6_stepOn_180 ?_
                      refine zV_goto (tgt := 212) dX6_stepOn_183 (by decide) ?_
                      have ts := tB_d hA pl n73 y115
                      refine zV_lveq (lv' := [zrv E 64, ziv (if p1 < n then T p1 else -1)]) (by first | (rw [if_pos pl]; done) | (rw [if_pos pl]; rfl)) ?_
                      exact J212 _ (mst_up fr2 (by omega)) (by rw [zup_at, if_neg (by decide), q18, ts.2, hq, dg_stop qn]) (by rw [zup_at, if_neg (by decide)]; exact q22) (by rw [zup_at, if_pos rfl]; unfold tQ; rw [ts.1]; rfl) (fun _ => by rw [zup_at, if_neg (by decide), q21, hA, hq, dg_stop qn])
                    · have ql : q1 < n ∧ dgt (T q1) = true := lt_of (ipT h134) rfl
                      refine zV_aload_nr dX6_stepOn_137 rfl rfl ?_
                      refine zV_ldc (v := 100000) kc6_197 dX6_stepOn_138 ?_
                      refine zV_bipush dX6_stepOn_140 (by decide) ?_
                      refine zV_aload_nr dX6_stepOn_142 rfl rfl ?_
                      refine gf6_194 rfl rfl dX6_stepOn_143 ?_
                      rw [q21]
                      refine zV_imul dX6_stepOn_146 ?_
                      refine zV_aload_nr dX6_stepOn_147 rfl rfl ?_
                      refine zV_aload_nr dX6_stepOn_148 rfl rfl ?_
                      refine gf6_174 rfl rfl dX6_stepOn_149 ?_
                      rw [q18]
                      refine zV_callV (As := [ziv (q1 : Int)]) lk6_177 (rfl) rfl rfl (c6_byteAt (T := T) (n := n) (x := q1) (d - 1) 0 (mclk_st hk fr2) (by omega)) ⟨by show _ + 1 ≤ d; omega, by show _ ≤ k; omega⟩ rfl (Nat.le_of_ble_eq_true rfl) dX6_stepOn_152 (fun _ _ z => z.elim) (fun r h9 q => ?_)
                      obtain ⟨rfl, hh⟩ := q
                      rw [hh]
                      clear hh
                      rw [if_pos ql.1]
                      have tt := k4 q1 ql.1
                      have td : 48 ≤ T q1 ∧ T q1 ≤ 57 := of_decide_eq_true ql.2
                      refine zV_iadd dX6_stepOn_155 ?_
                      refine zV_bipush dX6_stepOn_156 (by decide) ?_
                      refine zV_isub dX6_stepOn_158 ?_
                      refine zV_callS (As := [ziv 100000, ziv (10 * v + T q1 - 48)]) lk6_198 (cJ_min (d - 1) 0 (by decide) (by omega)) ⟨by show _ + 1 ≤ d; omega, by show _ ≤ k; omega⟩ rfl (Nat.le_of_ble_eq_true rfl) dX6_stepOn_159 (fun _ _ z => z.elim) (fun r h9 q => ?_)
                      obtain ⟨rfl, hh⟩ := q
                      rw [hh]
                      clear hh
                      refine pf6_194 rfl (rfl) dX6_stepOn_162 ?_
                      refine zV_aload_nr dX6_stepOn_165 rfl rfl ?_
                      refine zV_dup dX6_stepOn_166 rfl ?_
                      refine gf6_174 rfl rfl dX6_stepOn_167 ?_
                      refine zV_teq (w := ziv (q1 : Int)) (congrArg ziv (by rw [zup_at, if_neg (by decide), q18])) ?_
                      refine zV_iconst dX6_stepOn_170 ?_
                      refine zV_iadd dX6_stepOn_171 ?_
                      refine pf6_174 rfl (rfl) dX6_stepOn_172 ?_
                      refine zV_goto (tgt := 123) dX6_stepOn_175 (by decide) ?_
                      exact ih2 (q1 + 1) (min 100000 (10 * v + T q1 - 48)) _ (by omega) (by omega) (mst_up (mst_up fr2 (by omega)) (by omega)) (by rw [zup_at, if_pos rfl]; rfl) (by rw [zup_at, if_neg (by decide), zup_at, if_neg (by decide)]; exact q22) (by rw [zup_at, if_neg (by decide), zup_at, if_pos rfl]) (by omega) (by rw [hq, show n - q1 = (n - (q1 + 1)) + 1 by omega, dgM_s, if_pos ql])
                exact L123 (n + 1) p1 0 _ (by omega) (by omega) (mst_up frB (by omega)) (by rw [zup_at, if_neg (by decide)]; exact e18B) (by rw [zup_at, if_neg (by decide)]; exact e22B) (by rw [zup_at, if_pos rfl]) (by decide) rfl
            · have y73 := ipT h73
              have L76 : ∀ (m2 : Nat) (q1 : Nat) (h2 : zH), (n + 1 ≤ q1 + m2) → (q1 ≤ n) → (mst h h2) → (h2 64 18 = (q1 : Int)) → (h2 64 22 = (tA T n p : Int)) → (whF ltr T n (n - p1) p1 = whF ltr T n (n - q1) q1) → zV (E, mX6_stepOn, d, k, (fun r h' => r = none ∧ mst h h' ∧ mtok h' T n p), (fun _ _ => False), a) 0 76 [zrv E 64, ziv (T p1)] [] h2 := by
                intro m2
                induction m2 with
                | zero => intro q1 h2 hm_ hq1 fr2 q18 q22 hq; exfalso; omega
                | succ m2 ih2 =>
                  intro q1 h2 hm_ hq1 fr2 q18 q22 hq
                  refine zV_aload_nr dX6_stepOn_76 rfl rfl ?_
                  refine zV_aload_nr dX6_stepOn_77 rfl rfl ?_
                  refine gf6_174 rfl rfl dX6_stepOn_78 ?_
                  rw [q18]
                  refine zV_callV (As := [ziv (q1 : Int)]) lk6_177 (rfl) rfl rfl (c6_byteAt (T := T) (n := n) (x := q1) (d - 1) 0 (mclk_st hk fr2) (by omega)) ⟨by show _ + 1 ≤ d; omega, by show _ ≤ k; omega⟩ rfl (Nat.le_of_ble_eq_true rfl) dX6_stepOn_81 (fun _ _ z => z.elim) (fun r h9 q => ?_)
                  obtain ⟨rfl, hh⟩ := q
                  rw [hh]
                  clear hh
                  refine zV_callS (As := [ziv (if q1 < n then T q1 else -1)]) lk6_187 (c6_isLetter (d - 1) 0 (by have := bv hk q1; omega)) ⟨by show _ + 1 ≤ d; omega, by show _ ≤ k; omega⟩ rfl (Nat.le_of_ble_eq_true rfl) dX6_stepOn_84 (fun _ _ z => z.elim) (fun r h9 q => ?_)
                  obtain ⟨rfl, hh⟩ := q
                  rw [hh]
                  clear hh
                  refine zR_if_eq (tgt := 103) dX6_stepOn_87 (by decide) (by split <;> omega) (fun h87 => ?_) (fun h87 => ?_)
                  · have qn : ¬ (q1 < n ∧ ltr (T q1) = true) := fun z => ipF h87 (by rw [if_pos z.1]; exact z.2)
                    refine zV_aload_nr dX6_stepOn_103 rfl rfl ?_
                    refine zV_iconst dX6_stepOn_104 ?_
                    refine pf6_184 rfl (rfl) dX6_stepOn_105 ?_
                    refine zV_goto (tgt := 212) dX6_stepOn_108 (by decide) ?_
                    have ts := tB_l hA pl y73
                    refine zV_lveq (lv' := [zrv E 64, ziv (if p1 < n then T p1 else -1)]) (by first | (rw [if_pos pl]; done) | (rw [if_pos pl]; rfl)) ?_
                    exact J212 _ (mst_up fr2 (by omega)) (by rw [zup_at, if_neg (by decide), q18, ts.2, hq, wh_stop qn]) (by rw [zup_at, if_neg (by decide)]; exact q22) (by rw [zup_at, if_pos rfl]; unfold tQ; rw [ts.1]; rfl) (fun z => absurd (ts.1.symm.trans z) (by decide))
                  · have ql : q1 < n ∧ ltr (T q1) = true := lt_of (ipT h87) rfl
                    refine zV_aload_nr dX6_stepOn_90 rfl rfl ?_
                    refine zV_dup dX6_stepOn_91 rfl ?_
                    refine gf6_174 rfl rfl dX6_stepOn_92 ?_
                    rw [q18]
                    refine zV_iconst dX6_stepOn_95 ?_
                    refine zV_iadd dX6_stepOn_96 ?_
                    refine pf6_174 rfl (rfl) dX6_stepOn_97 ?_
                    refine zV_goto (tgt := 76) dX6_stepOn_100 (by decide) ?_
                    exact ih2 (q1 + 1) _ (by omega) (by omega) (mst_up fr2 (by omega)) (by rw [zup_at, if_pos rfl]; rfl) (by rw [zup_at, if_neg (by decide)]; exact q22) (by rw [hq]; exact wh_go ql)
              exact L76 (n + 1) p1 hB (by omega) (by omega) frB e18B e22B rfl
          · have pl : n ≤ p1 := Decidable.byContradiction fun z => by rw [if_pos (by omega)] at h58; have := k4 p1 (by omega); omega
            refine zV_aload_nr dX6_stepOn_61 rfl rfl ?_
            refine zV_iconst dX6_stepOn_62 ?_
            refine pf6_184 rfl (rfl) dX6_stepOn_63 ?_
            refine zV_goto (tgt := 212) dX6_stepOn_66 (by decide) ?_
            have ts := tB_e hA pl
            refine zV_lveq (lv' := [zrv E 64, ziv (if p1 < n then T p1 else -1)]) (by first | (rw [h58]; done) | (rw [h58]; rfl)) ?_
            exact J212 _ (mst_up frB (by omega)) (by rw [zup_at, if_neg (by decide), e18B, ts.2]) (by rw [zup_at, if_neg (by decide)]; exact e22B) (by rw [zup_at, if_pos rfl]; unfold tQ; rw [ts.1]; rfl) (fun z => absurd (ts.1.symm.trans z) (by decide))
        · have hlt : p1 < n ∧ T p1 = 10 := by split at h23 <;> omega
          have hbl : p1 < n ∧ blk (T p1) = true := ⟨hlt.1, decide_eq_true (Or.inr hlt.2)⟩
          exact J26 hbl
  exact L0 (n + 1) p h (by omega) hp (mst_rfl h) h18 rfl
