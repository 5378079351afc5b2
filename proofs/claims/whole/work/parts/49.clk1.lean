/-! THE CLERK: tokens -/
theorem whF_go {b : Int → Bool} {T : Nat → Int} {n a : Nat} (ha : a < n) (hb : b (T a) = true) : whF b T n (n - a) a = whF b T n (n - (a + 1)) (a + 1) := by
  rw [show n - a = (n - (a + 1)) + 1 by omega, whF_s, if_pos ⟨ha, hb⟩]
theorem whF_st {b : Int → Bool} {T : Nat → Int} {n a : Nat} (hb : ¬ (a < n ∧ b (T a) = true)) : whF b T n (n - a) a = a := by
  cases h : n - a with
  | zero => rfl
  | succ k => rw [whF_s, if_neg hb]
theorem dgF_go {T : Nat → Int} {n a b : Nat} {v : Int} (hb : b < n) (hd : dgt (T b) = true) : dgF T n a (n - b) b v = dgF T n a (n - (b + 1)) (b + 1) (if 4 < b - a then v else 10 * v + T b - 48) := by
  rw [show n - b = (n - (b + 1)) + 1 by omega, dgF_s, if_pos ⟨hb, hd⟩]
theorem dgF_st {T : Nat → Int} {n a b : Nat} {v : Int} (hd : ¬ (b < n ∧ dgt (T b) = true)) : dgF T n a (n - b) b v = (b, v) := by
  cases h : n - b with
  | zero => rfl
  | succ k => rw [dgF_s, if_neg hd]
/-- the clerk reads T, n bytes of it, and writes the draft u, the rule ru -/
def clk (h : zH) (T : Nat → Int) (n u : Nat) : Prop := h 14 0 = ((1 : Nat) : Int) ∧ h 14 1 = (n : Int) ∧ n ≤ 700 ∧ h 14 2 = (u : Int) ∧ isCourt u ∧ h 1 = T ∧ ∀ i, i < n → 0 ≤ T i ∧ T i ≤ 255
def tokAt (h : zH) (T : Nat → Int) (n p : Nat) : Prop := h 14 4 = (tA T n p : Int) ∧ h 14 5 = (tB T n p : Int) ∧ h 14 6 = tK T n p ∧ h 14 7 = tV T n p
def clkF (h h' : zH) : Prop := (∀ c2 : Nat, c2 ≠ 14 → h' c2 = h c2) ∧ ∀ j, j ≠ 4 → j ≠ 5 → j ≠ 6 → j ≠ 7 → h' 14 j = h 14 j
theorem clkF_rfl (h : zH) : clkF h h := ⟨fun _ _ => rfl, fun _ _ _ _ _ => rfl⟩
theorem clkF_up {h h1 : zH} {j : Nat} {v : Int} (hj : j = 4 ∨ j = 5 ∨ j = 6 ∨ j = 7) (a : clkF h h1) : clkF h (zup h1 14 j v) := ⟨fun c2 e => by rw [zup_fn e]; exact a.1 c2 e, fun i a4 a5 a6 a7 => by rw [zup_at, if_neg (by omega)]; exact a.2 i a4 a5 a6 a7⟩
theorem clkF_trans {h h1 h2 : zH} (a : clkF h h1) (b : clkF h1 h2) : clkF h h2 := ⟨fun c2 e => (b.1 c2 e).trans (a.1 c2 e), fun j a4 a5 a6 a7 => (b.2 j a4 a5 a6 a7).trans (a.2 j a4 a5 a6 a7)⟩
theorem clk_F {h h1 : zH} {T : Nat → Int} {n u : Nat} (hk : clk h T n u) (a : clkF h h1) : clk h1 T n u := by
  obtain ⟨k0, k1, k2, k3, k4, k5, k6⟩ := hk
  exact ⟨by rw [a.2 0 (by decide) (by decide) (by decide) (by decide)]; exact k0, by rw [a.2 1 (by decide) (by decide) (by decide) (by decide)]; exact k1, k2, by rw [a.2 2 (by decide) (by decide) (by decide) (by decide)]; exact k3, k4, by rw [a.1 1 (by decide)]; exact k5, k6⟩

set_option maxRecDepth 100000 in
theorem c0_byteAt {E : zE} {h : zH} {T : Nat → Int} {n u x : Nat} (d k : Nat) (hk : clk h T n u) (hx : x ≤ 1000) : zCal E mX0_byteAt d k [zrv E 14, ziv (x : Int)] h (fun r h' => r = some (ziv (if x < n then T x else -1)) ∧ h' = h) (fun _ _ => False) := by
  refine zCal_of (by decide) (Nat.le_of_ble_eq_true rfl) (fun a => ?_)
  show zV _ 0 0 [zrv E 14, ziv (x : Int)] [] _
  have hn7 := hk.2.2.1
  refine zV_iload_n dX0_byteAt_0 rfl rfl ?_
  refine zR_if_lt (tgt := 30) dX0_byteAt_1 (by decide) (by omega) (fun h1 => ?_) (fun h1 => ?_)
  · exact absurd h1 (by omega)
  · refine zV_iload_n dX0_byteAt_4 rfl rfl ?_
    refine zV_aload_nr dX0_byteAt_5 rfl rfl ?_
    refine gf0_31 rfl rfl dX0_byteAt_6 ?_
    rw [hk.2.1]
    refine zR_icmp_ge (tgt := 30) dX0_byteAt_9 (by decide) (by omega) (by omega) (fun h9 => ?_) (fun h9 => ?_)
    · refine zV_iconst dX0_byteAt_30 ?_
      exact zV_ireturn dX0_byteAt_31 rfl (Nat.zero_le _) ⟨by rw [if_neg (by omega)], rfl⟩
    · refine zV_iload_n dX0_byteAt_12 rfl rfl ?_
      refine zV_aload_nr dX0_byteAt_13 rfl rfl ?_
      refine gf0_9 (t := 1) (hk.1) rfl (rfl) dX0_byteAt_14 ?_
      refine zV_alen (t := 0) (N := 700) (rfl) dX0_byteAt_17 ?_
      refine zR_icmp_ge (tgt := 30) dX0_byteAt_18 (by decide) (by omega) (by omega) (fun h18 => ?_) (fun h18 => ?_)
      · exact absurd h18 (by omega)
      · refine zV_aload_nr dX0_byteAt_21 rfl rfl ?_
        refine gf0_9 (t := 1) (hk.1) rfl (rfl) dX0_byteAt_22 ?_
        refine zV_iload_n dX0_byteAt_25 rfl rfl ?_
        refine zV_ialoadN (i := x) (N := 700) (rfl) (by omega) (by decide) dX0_byteAt_26 ?_
        rw [hk.2.2.2.2.2.1]
        refine zV_goto (tgt := 31) dX0_byteAt_27 (by decide) ?_
        exact zV_ireturn dX0_byteAt_31 rfl (Nat.zero_le _) ⟨by rw [if_pos (by omega)], rfl⟩
set_option maxRecDepth 100000 in
theorem c0_isBlank {E : zE} {h : zH} {x : Int} (d k : Nat) (hx : -2147483648 ≤ x ∧ x ≤ 2147483647) : zCal E mX0_isBlank d k [ziv x] h (fun r h' => r = some (ziv (if blk x = true then 1 else 0)) ∧ h' = h) (fun _ _ => False) := by
  refine zCal_of (by decide) (Nat.le_of_ble_eq_true rfl) (fun a => ?_)
  show zV _ 0 0 [ziv x] [] _
  refine zV_iload_n dX0_isBlank_0 rfl rfl ?_
  refine zV_bipush dX0_isBlank_1 (by decide) ?_
  refine zR_icmp_eq (tgt := 12) dX0_isBlank_3 (by decide) (by omega) (by omega) (fun h3 => ?_) (fun h3 => ?_)
  · refine zV_iconst dX0_isBlank_12 ?_
    refine zV_goto (tgt := 17) dX0_isBlank_13 (by decide) ?_
    exact zV_zreturn dX0_isBlank_17 rfl (by simp) (Nat.zero_le _) ⟨by unfold blk; rw [decide_eq_true (by omega)]; rfl, rfl⟩
  · refine zV_iload_n dX0_isBlank_6 rfl rfl ?_
    refine zV_bipush dX0_isBlank_7 (by decide) ?_
    refine zR_icmp_ne (tgt := 16) dX0_isBlank_9 (by decide) (by omega) (by omega) (fun h9 => ?_) (fun h9 => ?_)
    · refine zV_iconst dX0_isBlank_16 ?_
      exact zV_zreturn dX0_isBlank_17 rfl (by simp) (Nat.zero_le _) ⟨by unfold blk; rw [decide_eq_false (by omega)]; rfl, rfl⟩
    · refine zV_iconst dX0_isBlank_12 ?_
      refine zV_goto (tgt := 17) dX0_isBlank_13 (by decide) ?_
      exact zV_zreturn dX0_isBlank_17 rfl (by simp) (Nat.zero_le _) ⟨by unfold blk; rw [decide_eq_true (by omega)]; rfl, rfl⟩
set_option maxRecDepth 100000 in
theorem c0_isLetter {E : zE} {h : zH} {x : Int} (d k : Nat) (hx : -2147483648 ≤ x ∧ x ≤ 2147483647) : zCal E mX0_isLetter d k [ziv x] h (fun r h' => r = some (ziv (if ltr x = true then 1 else 0)) ∧ h' = h) (fun _ _ => False) := by
  refine zCal_of (by decide) (Nat.le_of_ble_eq_true rfl) (fun a => ?_)
  show zV _ 0 0 [ziv x] [] _
  refine zV_iload_n dX0_isLetter_0 rfl rfl ?_
  refine zV_bipush dX0_isLetter_1 (by decide) ?_
  refine zR_icmp_lt (tgt := 16) dX0_isLetter_3 (by decide) (by omega) (by omega) (fun h3 => ?_) (fun h3 => ?_)
  · refine zV_iconst dX0_isLetter_16 ?_
    exact zV_zreturn dX0_isLetter_17 rfl (by simp) (Nat.zero_le _) ⟨by unfold ltr; rw [decide_eq_false (by omega)]; rfl, rfl⟩
  · refine zV_iload_n dX0_isLetter_6 rfl rfl ?_
    refine zV_bipush dX0_isLetter_7 (by decide) ?_
    refine zR_icmp_gt (tgt := 16) dX0_isLetter_9 (by decide) (by omega) (by omega) (fun h9 => ?_) (fun h9 => ?_)
    · refine zV_iconst dX0_isLetter_16 ?_
      exact zV_zreturn dX0_isLetter_17 rfl (by simp) (Nat.zero_le _) ⟨by unfold ltr; rw [decide_eq_false (by omega)]; rfl, rfl⟩
    · refine zV_iconst dX0_isLetter_12 ?_
      refine zV_goto (tgt := 17) dX0_isLetter_13 (by decide) ?_
      exact zV_zreturn dX0_isLetter_17 rfl (by simp) (Nat.zero_le _) ⟨by unfold ltr; rw [decide_eq_true (by omega)]; rfl, rfl⟩
set_option maxRecDepth 100000 in
theorem c0_isDigit {E : zE} {h : zH} {x : Int} (d k : Nat) (hx : -2147483648 ≤ x ∧ x ≤ 2147483647) : zCal E mX0_isDigit d k [ziv x] h (fun r h' => r = some (ziv (if dgt x = true then 1 else 0)) ∧ h' = h) (fun _ _ => False) := by
  refine zCal_of (by decide) (Nat.le_of_ble_eq_true rfl) (fun a => ?_)
  show zV _ 0 0 [ziv x] [] _
  refine zV_iload_n dX0_isDigit_0 rfl rfl ?_
  refine zV_bipush dX0_isDigit_1 (by decide) ?_
  refine zR_icmp_lt (tgt := 16) dX0_isDigit_3 (by decide) (by omega) (by omega) (fun h3 => ?_) (fun h3 => ?_)
  · refine zV_iconst dX0_isDigit_16 ?_
    exact zV_zreturn dX0_isDigit_17 rfl (by simp) (Nat.zero_le _) ⟨by unfold dgt; rw [decide_eq_false (by omega)]; rfl, rfl⟩
  · refine zV_iload_n dX0_isDigit_6 rfl rfl ?_
    refine zV_bipush dX0_isDigit_7 (by decide) ?_
    refine zR_icmp_gt (tgt := 16) dX0_isDigit_9 (by decide) (by omega) (by omega) (fun h9 => ?_) (fun h9 => ?_)
    · refine zV_iconst dX0_isDigit_16 ?_
      exact zV_zreturn dX0_isDigit_17 rfl (by simp) (Nat.zero_le _) ⟨by unfold dgt; rw [decide_eq_false (by omega)]; rfl, rfl⟩
    · refine zV_iconst dX0_isDigit_12 ?_
      refine zV_goto (tgt := 17) dX0_isDigit_13 (by decide) ?_
      exact zV_zreturn dX0_isDigit_17 rfl (by simp) (Nat.zero_le _) ⟨by unfold dgt; rw [decide_eq_true (by omega)]; rfl, rfl⟩
set_option maxRecDepth 100000 in
theorem c0_isTooLong {E : zE} {h : zH} {a b : Nat} (d k : Nat) (h4 : h 14 4 = (a : Int)) (h5 : h 14 5 = (b : Int)) (hab : a ≤ b ∧ b ≤ 1000) : zCal E mX0_isTooLong d k [zrv E 14] h (fun r h' => r = some (ziv (if 4 < b - a then 1 else 0)) ∧ h' = h) (fun _ _ => False) := by
  refine zCal_of (by decide) (Nat.le_of_ble_eq_true rfl) (fun a => ?_)
  show zV _ 0 0 [zrv E 14] [] _
  refine zV_aload_nr dX0_isTooLong_0 rfl rfl ?_
  refine gf0_38 rfl rfl dX0_isTooLong_1 ?_
  refine zV_aload_nr dX0_isTooLong_4 rfl rfl ?_
  refine gf0_58 rfl rfl dX0_isTooLong_5 ?_
  refine zV_isub dX0_isTooLong_8 ?_
  refine zV_iconst dX0_isTooLong_9 ?_
  rw [h5, h4]
  refine zR_icmp_le (tgt := 17) dX0_isTooLong_10 (by decide) (by omega) (by omega) (fun h10 => ?_) (fun h10 => ?_)
  · refine zV_iconst dX0_isTooLong_17 ?_
    exact zV_zreturn dX0_isTooLong_18 rfl (by simp) (Nat.zero_le _) ⟨by rw [if_neg (by omega)], rfl⟩
  · refine zV_iconst dX0_isTooLong_13 ?_
    refine zV_goto (tgt := 18) dX0_isTooLong_14 (by decide) ?_
    exact zV_zreturn dX0_isTooLong_18 rfl (by simp) (Nat.zero_le _) ⟨by rw [if_pos (by omega)], rfl⟩
set_option maxRecDepth 100000 in
theorem c0_isWord {E : zE} {h : zH} {T : Nat → Int} {n u p i : Nat} {b : List Int} (d k : Nat) (hd : 4 ≤ d) (hk : clk h T n u) (ht : tokAt h T n p) (hp : p ≤ n) (hb : zstb[i]? = some b) : zCal E mX0_isWord d k [zrv E 14, .ref (eK E i)] h (fun r h' => r = some (ziv (if isW T n p b = true then 1 else 0)) ∧ h' = h) (fun _ _ => False) := by
  refine zCal_of (by decide) (Nat.le_of_ble_eq_true rfl) (fun a => ?_)
  show zV _ 0 0 [zrv E 14, .ref (eK E i), .null] [] _
  have hn7 := hk.2.2.1
  have hT := hk.2.2.2.2.2.2
  have tl := tB_lo (T := T) hp
  have ta := tA_lo (T := T) hp
  have kl := tK_lo T n p
  have bl := (zstb_lo b (List.mem_of_getElem? hb)).1
  refine zV_aload_nr dX0_isWord_0 rfl rfl ?_
  refine gf0_47 rfl rfl dX0_isWord_1 ?_
  refine zV_iconst dX0_isWord_4 ?_
  rw [ht.2.2.1]
  refine zR_icmp_ne (tgt := 24) dX0_isWord_5 (by decide) (by omega) (by omega) (fun h5 => ?_) (fun h5 => ?_)
  · refine zV_iconst dX0_isWord_24 ?_
    exact zV_zreturn dX0_isWord_25 rfl (Or.inl rfl) (Nat.zero_le _) ⟨by unfold isW; rw [decide_eq_false h5, Bool.false_and]; rfl, rfl⟩
  · refine zV_aload_nr dX0_isWord_8 rfl rfl ?_
    refine gf0_38 rfl rfl dX0_isWord_9 ?_
    refine zV_aload_nr dX0_isWord_12 rfl rfl ?_
    refine gf0_58 rfl rfl dX0_isWord_13 ?_
    refine zV_isub dX0_isWord_16 ?_
    refine zV_aload_n dX0_isWord_17 rfl rfl ?_
    refine zV_callT (As := []) lk0_80 hb rfl (cJ_length (d - 1) 0 (by omega) hb) ⟨by show _ + 1 ≤ d; omega, by show _ ≤ k; omega⟩ rfl (Nat.le_of_ble_eq_true rfl) dX0_isWord_18 (fun _ _ z => z.elim) (fun r h9 q => ?_)
    obtain ⟨rfl, hh⟩ := q
    rw [hh, ht.2.1, ht.1]
    refine zR_icmp_eq (tgt := 26) dX0_isWord_21 (by decide) (by omega) (by omega) (fun h21 => ?_) (fun h21 => ?_)
    · refine zV_iconst dX0_isWord_26 ?_
      refine zV_istore_n dX0_isWord_27 rfl (Nat.le_of_ble_eq_true rfl) rfl ?_
      have L28 : ∀ (m : Nat) (s : Nat), (b.length + 1 ≤ s + m) → (s ≤ b.length) → (likeB (fun j => T (tA T n p + j)) (fun j => b.getD j 0) s = true) → zV (E, mX0_isWord, d, k, (fun r h' => r = some (ziv (if isW T n p b = true then 1 else 0)) ∧ h' = h), (fun _ _ => False), a) 0 28 [zrv E 14, .ref (eK E i), ziv (s : Int)] [] h := by
        intro m
        induction m with
        | zero => intro s hm_ hsn hl; exfalso; omega
        | succ m ih =>
          intro s hm_ hsn hl
          refine zV_iload_n dX0_isWord_28 rfl rfl ?_
          refine zV_aload_n dX0_isWord_29 rfl rfl ?_
          refine zV_callT (As := []) lk0_80 hb rfl (cJ_length (d - 1) 0 (by omega) hb) ⟨by show _ + 1 ≤ d; omega, by show _ ≤ k; omega⟩ rfl (Nat.le_of_ble_eq_true rfl) dX0_isWord_30 (fun _ _ z => z.elim) (fun r h9 q => ?_)
          obtain ⟨rfl, hh⟩ := q
          rw [hh]
          refine zR_icmp_ge (tgt := 77) dX0_isWord_33 (by decide) (by omega) (by omega) (fun h33 => ?_) (fun h33 => ?_)
          · refine zV_iconst dX0_isWord_77 ?_
            exact zV_zreturn dX0_isWord_78 rfl (Or.inr rfl) (Nat.zero_le _) ⟨by unfold isW; rw [decide_eq_true h5, decide_eq_true (show ((tB T n p - tA T n p : Nat) : Int) = (b.length : Int) by omega), show b.length = s by omega, hl]; rfl, rfl⟩
          · refine zV_aload_nr dX0_isWord_36 rfl rfl ?_
            refine gf0_58 rfl rfl dX0_isWord_37 ?_
            refine zV_iload_n dX0_isWord_40 rfl rfl ?_
            rw [ht.1]
            refine zV_iadd dX0_isWord_41 ?_
            refine zV_aload_nr dX0_isWord_42 rfl rfl ?_
            refine gf0_9 (t := 1) (hk.1) rfl (rfl) dX0_isWord_43 ?_
            refine zV_alen (t := 0) (N := 700) (rfl) dX0_isWord_46 ?_
            refine zR_icmp_ge (tgt := 69) dX0_isWord_47 (by decide) (by omega) (by omega) (fun h47 => ?_) (fun h47 => ?_)
            · exact absurd h47 (by omega)
            · refine zV_aload_nr dX0_isWord_50 rfl rfl ?_
              refine gf0_9 (t := 1) (hk.1) rfl (rfl) dX0_isWord_51 ?_
              refine zV_aload_nr dX0_isWord_54 rfl rfl ?_
              refine gf0_58 rfl rfl dX0_isWord_55 ?_
              refine zV_iload_n dX0_isWord_58 rfl rfl ?_
              refine zV_iadd dX0_isWord_59 ?_
              rw [ht.1]
              refine zV_teq (w := ziv ((tA T n p + s : Nat) : Int)) rfl ?_
              refine zV_ialoadN (i := (tA T n p + s)) (N := 700) (rfl) (by omega) (by decide) dX0_isWord_60 ?_
              rw [hk.2.2.2.2.2.1]
              refine zV_aload_n dX0_isWord_61 rfl rfl ?_
              refine zV_iload_n dX0_isWord_62 rfl rfl ?_
              refine zV_callT (As := [ziv (s : Int)]) lk0_85 hb rfl (cJ_charAt (d - 1) 0 (by omega) hb (by omega)) ⟨by show _ + 1 ≤ d; omega, by show _ ≤ k; omega⟩ rfl (Nat.le_of_ble_eq_true rfl) dX0_isWord_63 (fun _ _ z => z.elim) (fun r h9 q => ?_)
              obtain ⟨rfl, hh⟩ := q
              rw [hh]
              obtain ⟨cc9, hc9, ec9⟩ := zstb_at hb (show s < b.length by omega)
              have tt9 := hT (tA T n p + s) (by omega)
              refine zR_icmp_eq (tgt := 71) dX0_isWord_66 (by decide) (by omega) (by omega) (fun h66 => ?_) (fun h66 => ?_)
              · refine zV_iinc dX0_isWord_71 rfl (Nat.le_of_ble_eq_true rfl) rfl ?_
                refine zV_goto (tgt := 28) dX0_isWord_74 (by decide) ?_
                exact ih (s + 1) (by omega) (by omega) (by rw [likeB_s, hl, decide_eq_true h66]; rfl)
              · refine zV_iconst dX0_isWord_69 ?_
                exact zV_zreturn dX0_isWord_70 rfl (Or.inl rfl) (Nat.zero_le _) ⟨by
                  have h1 := likeB_f (p := fun j => T (tA T n p + j)) (q := fun j => b.getD j 0) (m := s + 1) (by rw [likeB_s, decide_eq_false h66, Bool.and_false]) (b.length - (s + 1))
                  rw [show s + 1 + (b.length - (s + 1)) = b.length by omega] at h1
                  unfold isW
                  rw [h1, Bool.and_false, Bool.and_false]; rfl, rfl⟩
      exact L28 (b.length + 1) 0 (by omega) (by omega) rfl
    · refine zV_iconst dX0_isWord_24 ?_
      exact zV_zreturn dX0_isWord_25 rfl (Or.inl rfl) (Nat.zero_le _) ⟨by unfold isW; rw [decide_eq_false (show ¬ ((tB T n p - tA T n p : Nat) : Int) = (b.length : Int) by omega), Bool.false_and, Bool.and_false]; rfl, rfl⟩
set_option maxRecDepth 100000 in
theorem c0_isSign {E : zE} {h : zH} {T : Nat → Int} {n u p : Nat} {c : Int} (d k : Nat) (hk : clk h T n u) (ht : tokAt h T n p) (hc : 0 ≤ c ∧ c ≤ 200) : zCal E mX0_isSign d k [zrv E 14, ziv c] h (fun r h' => r = some (ziv (if isS T n p c = true then 1 else 0)) ∧ h' = h) (fun _ _ => False) := by
  refine zCal_of (by decide) (Nat.le_of_ble_eq_true rfl) (fun a => ?_)
  show zV _ 0 0 [zrv E 14, ziv c] [] _
  have kl := tK_lo T n p
  have vl := tV_lo (T := T) (n := n) (p := p) hk.2.2.2.2.2.2
  refine zV_aload_nr dX0_isSign_0 rfl rfl ?_
  refine gf0_47 rfl rfl dX0_isSign_1 ?_
  refine zV_iconst dX0_isSign_4 ?_
  rw [ht.2.2.1]
  refine zR_icmp_ne (tgt := 20) dX0_isSign_5 (by decide) (by omega) (by omega) (fun h5 => ?_) (fun h5 => ?_)
  · refine zV_iconst dX0_isSign_20 ?_
    exact zV_zreturn dX0_isSign_21 rfl (by simp) (Nat.zero_le _) ⟨by unfold isS; rw [decide_eq_false (by omega)]; rfl, rfl⟩
  · refine zV_aload_nr dX0_isSign_8 rfl rfl ?_
    refine gf0_68 rfl rfl dX0_isSign_9 ?_
    refine zV_iload_n dX0_isSign_12 rfl rfl ?_
    rw [ht.2.2.2]
    refine zR_icmp_ne (tgt := 20) dX0_isSign_13 (by decide) (by omega) (by omega) (fun h13 => ?_) (fun h13 => ?_)
    · refine zV_iconst dX0_isSign_20 ?_
      exact zV_zreturn dX0_isSign_21 rfl (by simp) (Nat.zero_le _) ⟨by unfold isS; rw [decide_eq_false (by omega)]; rfl, rfl⟩
    · refine zV_iconst dX0_isSign_16 ?_
      refine zV_goto (tgt := 21) dX0_isSign_17 (by decide) ?_
      exact zV_zreturn dX0_isSign_21 rfl (by simp) (Nat.zero_le _) ⟨by unfold isS; rw [decide_eq_true (by omega)]; rfl, rfl⟩
set_option maxRecDepth 100000 in
theorem c0_refuse {E : zE} {h : zH} {v : Int} (d k : Nat) : zCal E mX0_refuse d k [zrv E 14, ziv v] h (fun r h' => r = some (ziv 0) ∧ h' = zup h 14 9 v) (fun _ _ => False) := by
  refine zCal_of (by decide) (Nat.le_of_ble_eq_true rfl) (fun a => ?_)
  show zV _ 0 0 [zrv E 14, ziv v] [] _
  refine zV_aload_nr dX0_refuse_0 rfl rfl ?_
  refine zV_iload_n dX0_refuse_1 rfl rfl ?_
  refine pf0_41 rfl (rfl) dX0_refuse_2 ?_
  refine zV_iconst dX0_refuse_5 ?_
  exact zV_zreturn dX0_refuse_6 rfl (Or.inl rfl) (Nat.zero_le _) ⟨rfl, rfl⟩
set_option maxRecDepth 100000 in
theorem c0_advance {E : zE} {h : zH} {T : Nat → Int} {n u p : Nat} (d k : Nat) (hd : 1 ≤ d) (hk : clk h T n u) (h5 : h 14 5 = (p : Int)) (hp : p ≤ n) : zCal E mX0_advance d k [zrv E 14] h (fun r h' => r = none ∧ clkF h h' ∧ tokAt h' T n p) (fun _ _ => False) := by
  refine zCal_of (by decide) (Nat.le_of_ble_eq_true rfl) (fun a => ?_)
  show zV _ 0 0 [zrv E 14] [] _
  have hn7 := hk.2.2.1
  have hT := hk.2.2.2.2.2.2
  refine zV_aload_nr dX0_advance_0 rfl rfl ?_
  refine zV_aload_nr dX0_advance_1 rfl rfl ?_
  refine gf0_38 rfl rfl dX0_advance_2 ?_
  refine pf0_58 rfl (rfl) dX0_advance_5 ?_
  have L8 : ∀ (m : Nat) (a0 : Nat) (h1 : zH), (n + 1 ≤ a0 + m) → (p ≤ a0 ∧ a0 ≤ n) → (clkF h h1) → (h1 14 4 = (a0 : Int)) → (tA T n p = whF blk T n (n - a0) a0) → zV (E, mX0_advance, d, k, (fun r h' => r = none ∧ clkF h h' ∧ tokAt h' T n p), (fun _ _ => False), a) 0 8 [zrv E 14] [] h1 := by
    intro m
    induction m with
    | zero => intro a0 h1 hm_ hpa fr h4 hA; exfalso; omega
    | succ m ih =>
      intro a0 h1 hm_ hpa fr h4 hA
      have hk1 := clk_F hk fr
      have hT9 : a0 < n → 0 ≤ T a0 ∧ T a0 ≤ 255 := fun z => hT a0 z
      refine zV_aload_nr dX0_advance_8 rfl rfl ?_
      refine gf0_58 rfl rfl dX0_advance_9 ?_
      refine zV_aload_nr dX0_advance_12 rfl rfl ?_
      refine gf0_31 rfl rfl dX0_advance_13 ?_
      have J46 : ∀ (hA2 : tA T n p = a0), zV (E, mX0_advance, d, k, (fun r h' => r = none ∧ clkF h h' ∧ tokAt h' T n p), (fun _ _ => False), a) 0 46 [zrv E 14] [] h1 := by
        intro hA2 
        refine zV_aload_nr dX0_advance_46 rfl rfl ?_
        refine zV_aload_nr dX0_advance_47 rfl rfl ?_
        refine gf0_58 rfl rfl dX0_advance_48 ?_
        rw [h4]
        refine pf0_38 rfl (rfl) dX0_advance_51 ?_
        refine zV_aload_nr dX0_advance_54 rfl rfl ?_
        refine zV_iconst dX0_advance_55 ?_
        refine pf0_68 rfl (rfl) dX0_advance_56 ?_
        refine zV_aload_nr dX0_advance_59 rfl rfl ?_
        refine gf0_58 rfl rfl dX0_advance_60 ?_
        refine zV_aload_nr dX0_advance_63 rfl rfl ?_
        refine gf0_31 rfl rfl dX0_advance_64 ?_
        have fr3 : clkF h (zup (zup h1 14 5 (a0 : Int)) 14 7 0) := clkF_up (by decide) (clkF_up (by decide) fr)
        have hk3 := clk_F hk fr3
        have k34 : zup (zup h1 14 5 (a0 : Int)) 14 7 0 14 4 = (a0 : Int) := by simp [zup_at, h4]
        rw [k34, hk3.2.1]
        refine zR_icmp_lt (tgt := 78) dX0_advance_67 (by decide) (by omega) (by omega) (fun h67 => ?_) (fun h67 => ?_)
        · refine zV_aload_nr dX0_advance_78 rfl rfl ?_
          refine zV_aload_nr dX0_advance_79 rfl rfl ?_
          refine gf0_58 rfl rfl dX0_advance_80 ?_
          rw [k34]
          refine zV_callV (As := [ziv (a0 : Int)]) lk0_61 (rfl) rfl rfl (c0_byteAt (x := a0) (d - 1) 0 hk3 (by omega)) ⟨by show _ + 1 ≤ d; omega, by show _ ≤ k; omega⟩ rfl (Nat.le_of_ble_eq_true rfl) dX0_advance_83 (fun _ _ z => z.elim) (fun r h9 q => ?_)
          obtain ⟨rfl, hh⟩ := q
          rw [hh, if_pos (by omega)]
          refine zV_callS (As := [ziv (T a0)]) lk0_71 (c0_isLetter (d - 1) 0 (by have := hT9; omega)) ⟨by show _ + 1 ≤ d; omega, by show _ ≤ k; omega⟩ rfl (Nat.le_of_ble_eq_true rfl) dX0_advance_86 (fun _ _ z => z.elim) (fun r h9 q => ?_)
          obtain ⟨rfl, hh⟩ := q
          rw [hh]
          refine zR_if_eq (tgt := 135) dX0_advance_89 (by decide) (by split <;> omega) (fun h89 => ?_) (fun h89 => ?_)
          · have hl9 : ¬ ltr (T a0) = true := fun z => by
              have h46 : (if ltr (T a0) = true then (1 : Int) else 0) = 0 := h89
              rw [if_pos z] at h46
              exact absurd h46 (by decide)
            refine zV_aload_nr dX0_advance_135 rfl rfl ?_
            refine zV_aload_nr dX0_advance_136 rfl rfl ?_
            refine gf0_58 rfl rfl dX0_advance_137 ?_
            rw [k34]
            refine zV_callV (As := [ziv (a0 : Int)]) lk0_61 (rfl) rfl rfl (c0_byteAt (x := a0) (d - 1) 0 hk3 (by omega)) ⟨by show _ + 1 ≤ d; omega, by show _ ≤ k; omega⟩ rfl (Nat.le_of_ble_eq_true rfl) dX0_advance_140 (fun _ _ z => z.elim) (fun r h9 q => ?_)
            obtain ⟨rfl, hh⟩ := q
            rw [hh, if_pos (by omega)]
            refine zV_callS (As := [ziv (T a0)]) lk0_74 (c0_isDigit (d - 1) 0 (by have := hT9; omega)) ⟨by show _ + 1 ≤ d; omega, by show _ ≤ k; omega⟩ rfl (Nat.le_of_ble_eq_true rfl) dX0_advance_143 (fun _ _ z => z.elim) (fun r h9 q => ?_)
            obtain ⟨rfl, hh⟩ := q
            rw [hh]
            refine zR_if_eq (tgt := 229) dX0_advance_146 (by decide) (by split <;> omega) (fun h146 => ?_) (fun h146 => ?_)
            · have hd9 : ¬ dgt (T a0) = true := fun z => by
                have h46 : (if dgt (T a0) = true then (1 : Int) else 0) = 0 := h146
                rw [if_pos z] at h46
                exact absurd h46 (by decide)
              refine zV_aload_nr dX0_advance_229 rfl rfl ?_
              refine zV_iconst dX0_advance_230 ?_
              refine pf0_47 rfl (rfl) dX0_advance_231 ?_
              refine zV_aload_nr dX0_advance_234 rfl rfl ?_
              refine zV_aload_nr dX0_advance_235 rfl rfl ?_
              refine zV_aload_nr dX0_advance_236 rfl rfl ?_
              refine gf0_58 rfl rfl dX0_advance_237 ?_
              have fr4 : clkF h (zup (zup (zup h1 14 5 (a0 : Int)) 14 7 0) 14 6 3) := clkF_up (by decide) fr3
              have hk4 := clk_F hk fr4
              rw [show (zup (zup (zup h1 14 5 (a0 : Int)) 14 7 0) 14 6 3) 14 4 = (a0 : Int) by simp [zup_at, h4]]
              refine zV_callV (As := [ziv (a0 : Int)]) lk0_61 (rfl) rfl rfl (c0_byteAt (x := a0) (d - 1) 0 hk4 (by omega)) ⟨by show _ + 1 ≤ d; omega, by show _ ≤ k; omega⟩ rfl (Nat.le_of_ble_eq_true rfl) dX0_advance_240 (fun _ _ z => z.elim) (fun r h9 q => ?_)
              obtain ⟨rfl, hh⟩ := q
              rw [hh, if_pos (by omega)]
              refine pf0_68 rfl (rfl) dX0_advance_243 ?_
              refine zV_aload_nr dX0_advance_246 rfl rfl ?_
              refine zV_dup dX0_advance_247 rfl ?_
              refine gf0_38 rfl rfl dX0_advance_248 ?_
              refine zV_iconst dX0_advance_251 ?_
              refine zV_iadd dX0_advance_252 ?_
              refine pf0_38 rfl (rfl) dX0_advance_253 ?_
              exact zV_vreturn dX0_advance_256 rfl (Nat.zero_le _) ⟨rfl, clkF_up (by decide) (clkF_up (by decide) fr4), by rw [hA2]; simp [zup_at, h4], by unfold tB; rw [hA2, if_neg (show ¬ n ≤ a0 by omega), if_neg hl9, if_neg hd9]; simp [zup_at, h4], by unfold tK; rw [hA2, if_neg (show ¬ n ≤ a0 by omega), if_neg hl9, if_neg hd9]; simp [zup_at, h4], by unfold tV; rw [hA2, if_neg (show ¬ n ≤ a0 by omega), if_neg hl9, if_neg hd9]; simp [zup_at, h4]⟩
            · have hd9 : dgt (T a0) = true := Decidable.byContradiction fun z => h146 (if_neg z)
              refine zV_aload_nr dX0_advance_149 rfl rfl ?_
              refine zV_iconst dX0_advance_150 ?_
              refine pf0_47 rfl (rfl) dX0_advance_151 ?_
              have L154 : ∀ (m3 : Nat) (b : Nat) (v : Int) (h2 : zH), (n + 1 ≤ b + m3) → (a0 ≤ b ∧ b ≤ n) → (clkF h h2) → (h2 14 4 = (a0 : Int)) → (h2 14 5 = (b : Int)) → (h2 14 6 = 2) → (h2 14 7 = v) → (dgF T n a0 (n - a0) a0 0 = dgF T n a0 (n - b) b v) → zV (E, mX0_advance, d, k, (fun r h' => r = none ∧ clkF h h' ∧ tokAt h' T n p), (fun _ _ => False), a) 0 154 [zrv E 14] [] h2 := by
                intro m3
                induction m3 with
                | zero => intro b v h2 hm_ hab fr2 k4 k5 k6 k7 hB; exfalso; omega
                | succ m3 ih3 =>
                  intro b v h2 hm_ hab fr2 k4 k5 k6 k7 hB
                  have hk2 := clk_F hk fr2
                  have hT9 : b < n → 0 ≤ T b ∧ T b ≤ 255 := fun z => hT b z
                  refine zV_aload_nr dX0_advance_154 rfl rfl ?_
                  refine gf0_38 rfl rfl dX0_advance_155 ?_
                  refine zV_aload_nr dX0_advance_158 rfl rfl ?_
                  refine gf0_31 rfl rfl dX0_advance_159 ?_
                  rw [k5, hk2.2.1]
                  refine zR_icmp_ge (tgt := 256) dX0_advance_162 (by decide) (by omega) (by omega) (fun h162 => ?_) (fun h162 => ?_)
                  · exact zV_vreturn dX0_advance_256 rfl (Nat.zero_le _) ⟨rfl, fr2, by rw [hA2]; exact k4, by unfold tB; rw [hA2, if_neg (show ¬ n ≤ a0 by omega), if_neg hl9, if_pos hd9, hB, dgF_st (fun z => by omega)]; exact k5, by unfold tK; rw [hA2, if_neg (show ¬ n ≤ a0 by omega), if_neg hl9, if_pos hd9]; exact k6, by unfold tV; rw [hA2, if_neg (show ¬ n ≤ a0 by omega), if_neg hl9, if_pos hd9, hB, dgF_st (fun z => by omega)]; exact k7⟩
                  · refine zV_aload_nr dX0_advance_165 rfl rfl ?_
                    refine zV_aload_nr dX0_advance_166 rfl rfl ?_
                    refine gf0_38 rfl rfl dX0_advance_167 ?_
                    rw [k5]
                    refine zV_callV (As := [ziv (b : Int)]) lk0_61 (rfl) rfl rfl (c0_byteAt (x := b) (d - 1) 0 hk2 (by omega)) ⟨by show _ + 1 ≤ d; omega, by show _ ≤ k; omega⟩ rfl (Nat.le_of_ble_eq_true rfl) dX0_advance_170 (fun _ _ z => z.elim) (fun r h9 q => ?_)
                    obtain ⟨rfl, hh⟩ := q
                    rw [hh, if_pos (by omega)]
                    refine zV_callS (As := [ziv (T b)]) lk0_74 (c0_isDigit (d - 1) 0 (by have := hT9; omega)) ⟨by show _ + 1 ≤ d; omega, by show _ ≤ k; omega⟩ rfl (Nat.le_of_ble_eq_true rfl) dX0_advance_173 (fun _ _ z => z.elim) (fun r h9 q => ?_)
                    obtain ⟨rfl, hh⟩ := q
                    rw [hh]
                    refine zR_if_eq (tgt := 256) dX0_advance_176 (by decide) (by split <;> omega) (fun h176 => ?_) (fun h176 => ?_)
                    · have hb9 : ¬ dgt (T b) = true := fun z => by
                        have h46 : (if dgt (T b) = true then (1 : Int) else 0) = 0 := h176
                        rw [if_pos z] at h46
                        exact absurd h46 (by decide)
                      exact zV_vreturn dX0_advance_256 rfl (Nat.zero_le _) ⟨rfl, fr2, by rw [hA2]; exact k4, by unfold tB; rw [hA2, if_neg (show ¬ n ≤ a0 by omega), if_neg hl9, if_pos hd9, hB, dgF_st (fun z => hb9 z.2)]; exact k5, by unfold tK; rw [hA2, if_neg (show ¬ n ≤ a0 by omega), if_neg hl9, if_pos hd9]; exact k6, by unfold tV; rw [hA2, if_neg (show ¬ n ≤ a0 by omega), if_neg hl9, if_pos hd9, hB, dgF_st (fun z => hb9 z.2)]; exact k7⟩
                    · have hb9 : dgt (T b) = true := Decidable.byContradiction fun z => h176 (if_neg z)
                      refine zV_aload_nr dX0_advance_179 rfl rfl ?_
                      refine zV_aload_nr dX0_advance_180 rfl rfl ?_
                      refine zV_callV (As := []) lk0_77 (rfl) rfl rfl (c0_isTooLong (d - 1) 0 k4 k5 (by omega)) ⟨by show _ + 1 ≤ d; omega, by show _ ≤ k; omega⟩ rfl (Nat.le_of_ble_eq_true rfl) dX0_advance_181 (fun _ _ z => z.elim) (fun r h9 q => ?_)
                      obtain ⟨rfl, hh⟩ := q
                      rw [hh]
                      refine zR_if_eq (tgt := 194) dX0_advance_184 (by decide) (by split <;> omega) (fun h184 => ?_) (fun h184 => ?_)
                      · have hl8 : ¬ 4 < b - a0 := fun z => by
                          have h46 : (if 4 < b - a0 then (1 : Int) else 0) = 0 := h184
                          rw [if_pos z] at h46
                          exact absurd h46 (by decide)
                        refine zV_bipush dX0_advance_194 (by decide) ?_
                        refine zV_aload_nr dX0_advance_196 rfl rfl ?_
                        refine gf0_68 rfl rfl dX0_advance_197 ?_
                        refine zV_imul dX0_advance_200 ?_
                        refine zV_aload_nr dX0_advance_201 rfl rfl ?_
                        refine zV_aload_nr dX0_advance_202 rfl rfl ?_
                        refine gf0_38 rfl rfl dX0_advance_203 ?_
                        rw [k5]
                        refine zV_callV (As := [ziv (b : Int)]) lk0_61 (rfl) rfl rfl (c0_byteAt (x := b) (d - 1) 0 hk2 (by omega)) ⟨by show _ + 1 ≤ d; omega, by show _ ≤ k; omega⟩ rfl (Nat.le_of_ble_eq_true rfl) dX0_advance_206 (fun _ _ z => z.elim) (fun r h9 q => ?_)
                        obtain ⟨rfl, hh⟩ := q
                        rw [hh, if_pos (by omega)]
                        refine zV_iadd dX0_advance_209 ?_
                        refine zV_bipush dX0_advance_210 (by decide) ?_
                        refine zV_isub dX0_advance_212 ?_
                        refine pf0_68 rfl (rfl) dX0_advance_213 ?_
                        refine zV_aload_nr dX0_advance_216 rfl rfl ?_
                        refine zV_dup dX0_advance_217 rfl ?_
                        refine gf0_38 rfl rfl dX0_advance_218 ?_
                        refine zV_iconst dX0_advance_221 ?_
                        refine zV_iadd dX0_advance_222 ?_
                        refine pf0_38 rfl (rfl) dX0_advance_223 ?_
                        refine zV_goto (tgt := 154) dX0_advance_226 (by decide) ?_
                        exact ih3 (b + 1) (10 * v + T b - 48) _ (by omega) (by omega) (clkF_up (by decide) (clkF_up (by decide) fr2)) (by simp [zup_at, k4]) (by simp [zup_at, k5]) (by simp [zup_at, k6]) (by simp [zup_at, k7]) (by
                          rw [hB, dgF_go (by omega) hb9, if_neg hl8])
                      · have hl8 : 4 < b - a0 := Decidable.byContradiction fun z => h184 (if_neg z)
                        refine zV_aload_nr dX0_advance_187 rfl rfl ?_
                        refine gf0_68 rfl rfl dX0_advance_188 ?_
                        refine zV_goto (tgt := 213) dX0_advance_191 (by decide) ?_
                        refine pf0_68 rfl (rfl) dX0_advance_213 ?_
                        refine zV_aload_nr dX0_advance_216 rfl rfl ?_
                        refine zV_dup dX0_advance_217 rfl ?_
                        refine gf0_38 rfl rfl dX0_advance_218 ?_
                        refine zV_iconst dX0_advance_221 ?_
                        refine zV_iadd dX0_advance_222 ?_
                        refine pf0_38 rfl (rfl) dX0_advance_223 ?_
                        refine zV_goto (tgt := 154) dX0_advance_226 (by decide) ?_
                        exact ih3 (b + 1) (v) _ (by omega) (by omega) (clkF_up (by decide) (clkF_up (by decide) fr2)) (by simp [zup_at, k4]) (by simp [zup_at, k5]) (by simp [zup_at, k6]) (by simp [zup_at, k7]) (by
                          rw [hB, dgF_go (by omega) hb9, if_pos hl8])
              exact L154 (n + 1) a0 0 _ (by omega) (by omega) (clkF_up (by decide) (clkF_up (by decide) (clkF_up (by decide) fr))) (by simp [zup_at, h4]) (by simp [zup_at, h4]) (by simp [zup_at]) (by simp [zup_at]) rfl
          · have hl9 : ltr (T a0) = true := Decidable.byContradiction fun z => h89 (if_neg z)
            refine zV_aload_nr dX0_advance_92 rfl rfl ?_
            refine zV_iconst dX0_advance_93 ?_
            refine pf0_47 rfl (rfl) dX0_advance_94 ?_
            have L97 : ∀ (m2 : Nat) (b : Nat) (h2 : zH), (n + 1 ≤ b + m2) → (a0 ≤ b ∧ b ≤ n) → (clkF h h2) → (h2 14 4 = (a0 : Int)) → (h2 14 5 = (b : Int)) → (h2 14 6 = 1) → (h2 14 7 = 0) → (whF ltr T n (n - a0) a0 = whF ltr T n (n - b) b) → zV (E, mX0_advance, d, k, (fun r h' => r = none ∧ clkF h h' ∧ tokAt h' T n p), (fun _ _ => False), a) 0 97 [zrv E 14] [] h2 := by
              intro m2
              induction m2 with
              | zero => intro b h2 hm_ hab fr2 k4 k5 k6 k7 hB; exfalso; omega
              | succ m2 ih2 =>
                intro b h2 hm_ hab fr2 k4 k5 k6 k7 hB
                have hk2 := clk_F hk fr2
                have hT9 : b < n → 0 ≤ T b ∧ T b ≤ 255 := fun z => hT b z
                refine zV_aload_nr dX0_advance_97 rfl rfl ?_
                refine gf0_38 rfl rfl dX0_advance_98 ?_
                refine zV_aload_nr dX0_advance_101 rfl rfl ?_
                refine gf0_31 rfl rfl dX0_advance_102 ?_
                rw [k5, hk2.2.1]
                refine zR_icmp_ge (tgt := 256) dX0_advance_105 (by decide) (by omega) (by omega) (fun h105 => ?_) (fun h105 => ?_)
                · exact zV_vreturn dX0_advance_256 rfl (Nat.zero_le _) ⟨rfl, fr2, by rw [hA2]; exact k4, by unfold tB; rw [hA2, if_neg (show ¬ n ≤ a0 by omega), if_pos hl9, hB, whF_st (fun z => by omega)]; exact k5, by unfold tK; rw [hA2, if_neg (show ¬ n ≤ a0 by omega), if_pos hl9]; exact k6, by unfold tV; rw [hA2, if_neg (show ¬ n ≤ a0 by omega), if_pos hl9]; exact k7⟩
                · refine zV_aload_nr dX0_advance_108 rfl rfl ?_
                  refine zV_aload_nr dX0_advance_109 rfl rfl ?_
                  refine gf0_38 rfl rfl dX0_advance_110 ?_
                  rw [k5]
                  refine zV_callV (As := [ziv (b : Int)]) lk0_61 (rfl) rfl rfl (c0_byteAt (x := b) (d - 1) 0 hk2 (by omega)) ⟨by show _ + 1 ≤ d; omega, by show _ ≤ k; omega⟩ rfl (Nat.le_of_ble_eq_true rfl) dX0_advance_113 (fun _ _ z => z.elim) (fun r h9 q => ?_)
                  obtain ⟨rfl, hh⟩ := q
                  rw [hh, if_pos (by omega)]
                  refine zV_callS (As := [ziv (T b)]) lk0_71 (c0_isLetter (d - 1) 0 (by have := hT9; omega)) ⟨by show _ + 1 ≤ d; omega, by show _ ≤ k; omega⟩ rfl (Nat.le_of_ble_eq_true rfl) dX0_advance_116 (fun _ _ z => z.elim) (fun r h9 q => ?_)
                  obtain ⟨rfl, hh⟩ := q
                  rw [hh]
                  refine zR_if_eq (tgt := 256) dX0_advance_119 (by decide) (by split <;> omega) (fun h119 => ?_) (fun h119 => ?_)
                  · have hb9 : ¬ ltr (T b) = true := fun z => by
                      have h46 : (if ltr (T b) = true then (1 : Int) else 0) = 0 := h119
                      rw [if_pos z] at h46
                      exact absurd h46 (by decide)
                    exact zV_vreturn dX0_advance_256 rfl (Nat.zero_le _) ⟨rfl, fr2, by rw [hA2]; exact k4, by unfold tB; rw [hA2, if_neg (show ¬ n ≤ a0 by omega), if_pos hl9, hB, whF_st (fun z => hb9 z.2)]; exact k5, by unfold tK; rw [hA2, if_neg (show ¬ n ≤ a0 by omega), if_pos hl9]; exact k6, by unfold tV; rw [hA2, if_neg (show ¬ n ≤ a0 by omega), if_pos hl9]; exact k7⟩
                  · have hb9 : ltr (T b) = true := Decidable.byContradiction fun z => h119 (if_neg z)
                    refine zV_aload_nr dX0_advance_122 rfl rfl ?_
                    refine zV_dup dX0_advance_123 rfl ?_
                    refine gf0_38 rfl rfl dX0_advance_124 ?_
                    refine zV_iconst dX0_advance_127 ?_
                    refine zV_iadd dX0_advance_128 ?_
                    refine pf0_38 rfl (rfl) dX0_advance_129 ?_
                    refine zV_goto (tgt := 97) dX0_advance_132 (by decide) ?_
                    exact ih2 (b + 1) _ (by omega) (by omega) (clkF_up (by decide) fr2) (by simp [zup_at, k4]) (by rw [zup_at, if_pos rfl, k5]; omega) (by simp [zup_at, k6]) (by simp [zup_at, k7]) (by rw [hB]; exact whF_go (by omega) hb9)
            exact L97 (n + 1) a0 _ (by omega) (by omega) (clkF_up (by decide) (clkF_up (by decide) (clkF_up (by decide) fr))) (by simp [zup_at, h4]) (by simp [zup_at, h4]) (by simp [zup_at]) (by simp [zup_at]) rfl
        · refine zV_aload_nr dX0_advance_70 rfl rfl ?_
          refine zV_iconst dX0_advance_71 ?_
          refine pf0_47 rfl (rfl) dX0_advance_72 ?_
          refine zV_goto (tgt := 256) dX0_advance_75 (by decide) ?_
          exact zV_vreturn dX0_advance_256 rfl (Nat.zero_le _) ⟨rfl, clkF_up (by decide) fr3, by rw [hA2]; simp [zup_at, h4], by unfold tB; rw [hA2, if_pos (by omega)]; simp [zup_at], by unfold tK; rw [hA2, if_pos (by omega)]; simp [zup_at], by unfold tV; rw [hA2, if_pos (by omega)]; simp [zup_at]⟩
      rw [h4, hk1.2.1]
      refine zR_icmp_ge (tgt := 46) dX0_advance_16 (by decide) (by omega) (by omega) (fun h16 => ?_) (fun h16 => ?_)
      · exact J46 (by rw [hA]; exact whF_st (fun z => by omega))
      · refine zV_aload_nr dX0_advance_19 rfl rfl ?_
        refine zV_aload_nr dX0_advance_20 rfl rfl ?_
        refine gf0_58 rfl rfl dX0_advance_21 ?_
        rw [h4]
        refine zV_callV (As := [ziv (a0 : Int)]) lk0_61 (rfl) rfl rfl (c0_byteAt (x := a0) (d - 1) 0 hk1 (by omega)) ⟨by show _ + 1 ≤ d; omega, by show _ ≤ k; omega⟩ rfl (Nat.le_of_ble_eq_true rfl) dX0_advance_24 (fun _ _ z => z.elim) (fun r h9 q => ?_)
        obtain ⟨rfl, hh⟩ := q
        rw [hh, if_pos (by omega)]
        refine zV_callS (As := [ziv (T a0)]) lk0_65 (c0_isBlank (d - 1) 0 (by have := hT9; omega)) ⟨by show _ + 1 ≤ d; omega, by show _ ≤ k; omega⟩ rfl (Nat.le_of_ble_eq_true rfl) dX0_advance_27 (fun _ _ z => z.elim) (fun r h9 q => ?_)
        obtain ⟨rfl, hh⟩ := q
        rw [hh]
        refine zR_if_eq (tgt := 46) dX0_advance_30 (by decide) (by split <;> omega) (fun h30 => ?_) (fun h30 => ?_)
        · have hb9 : ¬ blk (T a0) = true := fun z => by
            have h46 : (if blk (T a0) = true then (1 : Int) else 0) = 0 := h30
            rw [if_pos z] at h46
            exact absurd h46 (by decide)
          exact J46 (by rw [hA]; exact whF_st (fun z => hb9 z.2))
        · have hb9 : blk (T a0) = true := Decidable.byContradiction fun z => h30 (if_neg z)
          refine zV_aload_nr dX0_advance_33 rfl rfl ?_
          refine zV_dup dX0_advance_34 rfl ?_
          refine gf0_58 rfl rfl dX0_advance_35 ?_
          refine zV_iconst dX0_advance_38 ?_
          refine zV_iadd dX0_advance_39 ?_
          refine pf0_58 rfl (rfl) dX0_advance_40 ?_
          refine zV_goto (tgt := 8) dX0_advance_43 (by decide) ?_
          exact ih (a0 + 1) _ (by omega) (by omega) (clkF_up (by decide) fr) (by rw [zup_at, if_pos rfl, h4]; omega) (by rw [hA]; exact whF_go (by omega) hb9)
  exact L8 (n + 1) p _ (by omega) (by omega) (clkF_up (by decide) (clkF_rfl h)) (by rw [zup_at, if_pos rfl, h5]) rfl
set_option maxRecDepth 100000 in
theorem c0_takeSign {E : zE} {h : zH} {T : Nat → Int} {n u p : Nat} {c : Int} (d k : Nat) (hd : 2 ≤ d) (hk : clk h T n u) (ht : tokAt h T n p) (hp : p ≤ n) (hc : 0 ≤ c ∧ c ≤ 200) : zCal E mX0_takeSign d k [zrv E 14, ziv c] h (fun r h' => if isS T n p c = true then r = some (ziv 1) ∧ clkF h h' ∧ tokAt h' T n (tB T n p) else r = some (ziv 0) ∧ h' = zup h 14 9 1) (fun _ _ => False) := by
  refine zCal_of (by decide) (Nat.le_of_ble_eq_true rfl) (fun a => ?_)
  show zV _ 0 0 [zrv E 14, ziv c] [] _
  have tl := tB_lo (T := T) hp
  refine zV_aload_nr dX0_takeSign_0 rfl rfl ?_
  refine zV_iload_n dX0_takeSign_1 rfl rfl ?_
  refine zV_callV (As := [ziv c]) lk0_89 (rfl) rfl rfl (c0_isSign (d - 1) 0 hk ht hc) ⟨by show _ + 1 ≤ d; omega, by show _ ≤ k; omega⟩ rfl (Nat.le_of_ble_eq_true rfl) dX0_takeSign_2 (fun _ _ z => z.elim) (fun r h' q => ?_)
  obtain ⟨rfl, hh⟩ := q
  rw [hh]
  refine zR_if_ne (tgt := 14) dX0_takeSign_5 (by decide) (by split <;> omega) (fun h5 => ?_) (fun h5 => ?_)
  · have hb9 : isS T n p c = true := Decidable.byContradiction fun z => h5 (if_neg z)
    refine zV_aload_nr dX0_takeSign_14 rfl rfl ?_
    refine zV_callV (As := []) lk0_44 (rfl) rfl rfl (c0_advance (p := (tB T n p)) (d - 1) 0 (by omega) hk ht.2.1 tl.2.1) ⟨by show _ + 1 ≤ d; omega, by show _ ≤ k; omega⟩ rfl (Nat.le_of_ble_eq_true rfl) dX0_takeSign_15 (fun _ _ z => z.elim) (fun r h2 q => ?_)
    obtain ⟨rfl, fr, ht2⟩ := q
    refine zV_iconst dX0_takeSign_18 ?_
    exact zV_zreturn dX0_takeSign_19 rfl (Or.inr rfl) (Nat.zero_le _) (by show ite _ _ _; rw [if_pos hb9]; exact ⟨rfl, fr, ht2⟩)
  · have hb9 : ¬ isS T n p c = true := fun z => by
      have h46 : (if isS T n p c = true then (1 : Int) else 0) = 0 := h5
      rw [if_pos z] at h46
      exact absurd h46 (by decide)
    refine zV_aload_nr dX0_takeSign_8 rfl rfl ?_
    refine zV_iconst dX0_takeSign_9 ?_
    refine zV_callV (As := [ziv 1]) lk0_92 (rfl) rfl rfl (c0_refuse (d - 1) 0) ⟨by show _ + 1 ≤ d; omega, by show _ ≤ k; omega⟩ rfl (Nat.le_of_ble_eq_true rfl) dX0_takeSign_10 (fun _ _ z => z.elim) (fun r h' q => ?_)
    obtain ⟨rfl, hh⟩ := q
    exact zV_zreturn dX0_takeSign_13 rfl (Or.inl rfl) (Nat.zero_le _) (by show ite _ _ _; rw [if_neg hb9]; exact ⟨rfl, by exact hh⟩)
set_option maxRecDepth 100000 in
theorem c0_takeNumber {E : zE} {h : zH} {T : Nat → Int} {n u p : Nat} {lo hi : Int} (d k : Nat) (hd : 2 ≤ d) (hk : clk h T n u) (ht : tokAt h T n p) (hp : p ≤ n) (hlo : 0 ≤ lo ∧ lo ≤ 1000) (hhi : 0 ≤ hi ∧ hi ≤ 10000) : zCal E mX0_takeNumber d k [zrv E 14, ziv lo, ziv hi] h (fun r h' => if tK T n p = 2 then (if tB T n p - tA T n p ≤ 4 ∧ lo ≤ tV T n p ∧ tV T n p ≤ hi then r = some (ziv 1) ∧ clkF (zup h 14 8 (tV T n p)) h' ∧ tokAt h' T n (tB T n p) else r = some (ziv 0) ∧ h' = zup h 14 9 2) else r = some (ziv 0) ∧ h' = zup h 14 9 1) (fun _ _ => False) := by
  refine zCal_of (by decide) (Nat.le_of_ble_eq_true rfl) (fun a => ?_)
  show zV _ 0 0 [zrv E 14, ziv lo, ziv hi] [] _
  have tl := tB_lo (T := T) hp
  have ta := tA_lo (T := T) hp
  have hn7 := hk.2.2.1
  have kl := tK_lo T n p
  have vl := tV_lo (T := T) (n := n) (p := p) hk.2.2.2.2.2.2
  refine zV_aload_nr dX0_takeNumber_0 rfl rfl ?_
  refine gf0_47 rfl rfl dX0_takeNumber_1 ?_
  refine zV_iconst dX0_takeNumber_4 ?_
  rw [ht.2.2.1]
  refine zR_icmp_eq (tgt := 14) dX0_takeNumber_5 (by decide) (by omega) (by omega) (fun h5 => ?_) (fun h5 => ?_)
  · refine zV_aload_nr dX0_takeNumber_14 rfl rfl ?_
    refine zV_callV (As := []) lk0_77 (rfl) rfl rfl (c0_isTooLong (d - 1) 0 ht.1 ht.2.1 (by omega)) ⟨by show _ + 1 ≤ d; omega, by show _ ≤ k; omega⟩ rfl (Nat.le_of_ble_eq_true rfl) dX0_takeNumber_15 (fun _ _ z => z.elim) (fun r h' q => ?_)
    obtain ⟨rfl, hh⟩ := q
    rw [hh]
    refine zR_if_ne (tgt := 37) dX0_takeNumber_18 (by decide) (by split <;> omega) (fun h18 => ?_) (fun h18 => ?_)
    · have hl9 : 4 < tB T n p - tA T n p := Decidable.byContradiction fun z => h18 (if_neg z)
      refine zV_aload_nr dX0_takeNumber_37 rfl rfl ?_
      refine zV_iconst dX0_takeNumber_38 ?_
      refine zV_callV (As := [ziv 2]) lk0_92 (rfl) rfl rfl (c0_refuse (d - 1) 0) ⟨by show _ + 1 ≤ d; omega, by show _ ≤ k; omega⟩ rfl (Nat.le_of_ble_eq_true rfl) dX0_takeNumber_39 (fun _ _ z => z.elim) (fun r h' q => ?_)
      obtain ⟨rfl, hh⟩ := q
      exact zV_zreturn dX0_takeNumber_42 rfl (Or.inl rfl) (Nat.zero_le _) (by show ite _ _ _; rw [if_pos h5, if_neg (by omega)]; exact ⟨rfl, hh⟩)
    · have hl9 : ¬ 4 < tB T n p - tA T n p := fun z => by
        have h46 : (if 4 < tB T n p - tA T n p then (1 : Int) else 0) = 0 := h18
        rw [if_pos z] at h46
        exact absurd h46 (by decide)
      refine zV_aload_nr dX0_takeNumber_21 rfl rfl ?_
      refine gf0_68 rfl rfl dX0_takeNumber_22 ?_
      refine zV_iload_n dX0_takeNumber_25 rfl rfl ?_
      rw [ht.2.2.2]
      refine zR_icmp_lt (tgt := 37) dX0_takeNumber_26 (by decide) (by omega) (by omega) (fun h26 => ?_) (fun h26 => ?_)
      · refine zV_aload_nr dX0_takeNumber_37 rfl rfl ?_
        refine zV_iconst dX0_takeNumber_38 ?_
        refine zV_callV (As := [ziv 2]) lk0_92 (rfl) rfl rfl (c0_refuse (d - 1) 0) ⟨by show _ + 1 ≤ d; omega, by show _ ≤ k; omega⟩ rfl (Nat.le_of_ble_eq_true rfl) dX0_takeNumber_39 (fun _ _ z => z.elim) (fun r h' q => ?_)
        obtain ⟨rfl, hh⟩ := q
        exact zV_zreturn dX0_takeNumber_42 rfl (Or.inl rfl) (Nat.zero_le _) (by show ite _ _ _; rw [if_pos h5, if_neg (by omega)]; exact ⟨rfl, hh⟩)
      · refine zV_aload_nr dX0_takeNumber_29 rfl rfl ?_
        refine gf0_68 rfl rfl dX0_takeNumber_30 ?_
        refine zV_iload_n dX0_takeNumber_33 rfl rfl ?_
        rw [ht.2.2.2]
        refine zR_icmp_le (tgt := 43) dX0_takeNumber_34 (by decide) (by omega) (by omega) (fun h34 => ?_) (fun h34 => ?_)
        · refine zV_aload_nr dX0_takeNumber_43 rfl rfl ?_
          refine zV_aload_nr dX0_takeNumber_44 rfl rfl ?_
          refine gf0_68 rfl rfl dX0_takeNumber_45 ?_
          rw [ht.2.2.2]
          refine pf0_95 rfl (rfl) dX0_takeNumber_48 ?_
          have hk2 : clk (zup h 14 8 (tV T n p)) T n u := by
            obtain ⟨k0, k1, k2, k3, k4, k5, k6⟩ := hk
            exact ⟨by rw [zup_at, if_neg (by decide)]; exact k0, by rw [zup_at, if_neg (by decide)]; exact k1, k2, by rw [zup_at, if_neg (by decide)]; exact k3, k4, by rw [zup_fn (by decide)]; exact k5, k6⟩
          refine zV_aload_nr dX0_takeNumber_51 rfl rfl ?_
          refine zV_callV (As := []) lk0_44 (rfl) rfl rfl (c0_advance (p := tB T n p) (d - 1) 0 (by omega) hk2 (by rw [zup_at, if_neg (by decide)]; exact ht.2.1) tl.2.1) ⟨by show _ + 1 ≤ d; omega, by show _ ≤ k; omega⟩ rfl (Nat.le_of_ble_eq_true rfl) dX0_takeNumber_52 (fun _ _ z => z.elim) (fun r h2 q => ?_)
          obtain ⟨rfl, fr, ht2⟩ := q
          refine zV_iconst dX0_takeNumber_55 ?_
          exact zV_zreturn dX0_takeNumber_56 rfl (Or.inr rfl) (Nat.zero_le _) (by show ite _ _ _; rw [if_pos h5, if_pos (by omega)]; exact ⟨rfl, fr, ht2⟩)
        · refine zV_aload_nr dX0_takeNumber_37 rfl rfl ?_
          refine zV_iconst dX0_takeNumber_38 ?_
          refine zV_callV (As := [ziv 2]) lk0_92 (rfl) rfl rfl (c0_refuse (d - 1) 0) ⟨by show _ + 1 ≤ d; omega, by show _ ≤ k; omega⟩ rfl (Nat.le_of_ble_eq_true rfl) dX0_takeNumber_39 (fun _ _ z => z.elim) (fun r h' q => ?_)
          obtain ⟨rfl, hh⟩ := q
          exact zV_zreturn dX0_takeNumber_42 rfl (Or.inl rfl) (Nat.zero_le _) (by show ite _ _ _; rw [if_pos h5, if_neg (by omega)]; exact ⟨rfl, hh⟩)
  · refine zV_aload_nr dX0_takeNumber_8 rfl rfl ?_
    refine zV_iconst dX0_takeNumber_9 ?_
    refine zV_callV (As := [ziv 1]) lk0_92 (rfl) rfl rfl (c0_refuse (d - 1) 0) ⟨by show _ + 1 ≤ d; omega, by show _ ≤ k; omega⟩ rfl (Nat.le_of_ble_eq_true rfl) dX0_takeNumber_10 (fun _ _ z => z.elim) (fun r h' q => ?_)
    obtain ⟨rfl, hh⟩ := q
    exact zV_zreturn dX0_takeNumber_13 rfl (Or.inl rfl) (Nat.zero_le _) (by show ite _ _ _; rw [if_neg h5]; exact ⟨rfl, hh⟩)
set_option maxRecDepth 100000 in
theorem c0_valueNamed {E : zE} {h : zH} {T : Nat → Int} {n u p : Nat} {ru : Nat} (d k : Nat) (hd : 5 ≤ d) (hk : clk h T n u) (ht : tokAt h T n p) (hp : p ≤ n) (hr : h 14 3 = (ru : Int)) (hr2 : ru < 2) : zCal E mX0_valueNamed d k [zrv E 14] h (fun r h' => r = some (ziv (valN T n (decide (ru = 0)) p)) ∧ h' = h) (fun _ _ => False) := by
  refine zCal_of (by decide) (Nat.le_of_ble_eq_true rfl) (fun a => ?_)
  show zV _ 0 0 [zrv E 14] [] _
  refine zV_aload_nr dX0_valueNamed_0 rfl rfl ?_
  refine zV_lds (i := 21) rfl rfl dX0_valueNamed_1 ?_
  refine zV_callV (As := [.ref (eK E 21)]) lk0_100 (rfl) rfl rfl (c0_isWord (i := 21) (b := wLevel) (d - 1) 0 (by omega) hk ht hp rfl) ⟨by show _ + 1 ≤ d; omega, by show _ ≤ k; omega⟩ rfl (Nat.le_of_ble_eq_true rfl) dX0_valueNamed_3 (fun _ _ z => z.elim) (fun r h' q => ?_)
  obtain ⟨rfl, hh⟩ := q
  rw [hh]
  refine zR_if_eq (tgt := 12) dX0_valueNamed_6 (by decide) (by split <;> omega) (fun h6 => ?_) (fun h6 => ?_)
  · have n6 : ¬ isW T n p wLevel = true := fun z => by
      have h46 : (if isW T n p wLevel = true then (1 : Int) else 0) = 0 := h6
      rw [if_pos z] at h46
      exact absurd h46 (by decide)
    refine zV_aload_nr dX0_valueNamed_12 rfl rfl ?_
    refine zV_lds (i := 22) rfl rfl dX0_valueNamed_13 ?_
    refine zV_callV (As := [.ref (eK E 22)]) lk0_100 (rfl) rfl rfl (c0_isWord (i := 22) (b := wMost) (d - 1) 0 (by omega) hk ht hp rfl) ⟨by show _ + 1 ≤ d; omega, by show _ ≤ k; omega⟩ rfl (Nat.le_of_ble_eq_true rfl) dX0_valueNamed_15 (fun _ _ z => z.elim) (fun r h' q => ?_)
    obtain ⟨rfl, hh⟩ := q
    rw [hh]
    refine zR_if_eq (tgt := 24) dX0_valueNamed_18 (by decide) (by split <;> omega) (fun h18 => ?_) (fun h18 => ?_)
    · have n18 : ¬ isW T n p wMost = true := fun z => by
        have h46 : (if isW T n p wMost = true then (1 : Int) else 0) = 0 := h18
        rw [if_pos z] at h46
        exact absurd h46 (by decide)
      refine zV_aload_nr dX0_valueNamed_24 rfl rfl ?_
      refine zV_lds (i := 23) rfl rfl dX0_valueNamed_25 ?_
      refine zV_callV (As := [.ref (eK E 23)]) lk0_100 (rfl) rfl rfl (c0_isWord (i := 23) (b := wWhere) (d - 1) 0 (by omega) hk ht hp rfl) ⟨by show _ + 1 ≤ d; omega, by show _ ≤ k; omega⟩ rfl (Nat.le_of_ble_eq_true rfl) dX0_valueNamed_27 (fun _ _ z => z.elim) (fun r h' q => ?_)
      obtain ⟨rfl, hh⟩ := q
      rw [hh]
      refine zR_if_eq (tgt := 36) dX0_valueNamed_30 (by decide) (by split <;> omega) (fun h30 => ?_) (fun h30 => ?_)
      · have n30 : ¬ isW T n p wWhere = true := fun z => by
          have h46 : (if isW T n p wWhere = true then (1 : Int) else 0) = 0 := h30
          rw [if_pos z] at h46
          exact absurd h46 (by decide)
        refine zV_aload_nr dX0_valueNamed_36 rfl rfl ?_
        refine zV_lds (i := 24) rfl rfl dX0_valueNamed_37 ?_
        refine zV_callV (As := [.ref (eK E 24)]) lk0_100 (rfl) rfl rfl (c0_isWord (i := 24) (b := wOdd) (d - 1) 0 (by omega) hk ht hp rfl) ⟨by show _ + 1 ≤ d; omega, by show _ ≤ k; omega⟩ rfl (Nat.le_of_ble_eq_true rfl) dX0_valueNamed_39 (fun _ _ z => z.elim) (fun r h' q => ?_)
        obtain ⟨rfl, hh⟩ := q
        rw [hh]
        refine zR_if_eq (tgt := 48) dX0_valueNamed_42 (by decide) (by split <;> omega) (fun h42 => ?_) (fun h42 => ?_)
        · have n42 : ¬ isW T n p wOdd = true := fun z => by
            have h46 : (if isW T n p wOdd = true then (1 : Int) else 0) = 0 := h42
            rw [if_pos z] at h46
            exact absurd h46 (by decide)
          refine zV_aload_nr dX0_valueNamed_48 rfl rfl ?_
          refine zV_lds (i := 25) rfl rfl dX0_valueNamed_49 ?_
          refine zV_callV (As := [.ref (eK E 25)]) lk0_100 (rfl) rfl rfl (c0_isWord (i := 25) (b := wCase) (d - 1) 0 (by omega) hk ht hp rfl) ⟨by show _ + 1 ≤ d; omega, by show _ ≤ k; omega⟩ rfl (Nat.le_of_ble_eq_true rfl) dX0_valueNamed_51 (fun _ _ z => z.elim) (fun r h' q => ?_)
          obtain ⟨rfl, hh⟩ := q
          rw [hh]
          refine zR_if_eq (tgt := 60) dX0_valueNamed_54 (by decide) (by split <;> omega) (fun h54 => ?_) (fun h54 => ?_)
          · have n54 : ¬ isW T n p wCase = true := fun z => by
              have h46 : (if isW T n p wCase = true then (1 : Int) else 0) = 0 := h54
              rw [if_pos z] at h46
              exact absurd h46 (by decide)
            refine zV_aload_nr dX0_valueNamed_60 rfl rfl ?_
            refine gf0_165 rfl rfl dX0_valueNamed_61 ?_
            rw [hr]
            refine zR_if_ne (tgt := 79) dX0_valueNamed_64 (by decide) (by omega) (fun h64 => ?_) (fun h64 => ?_)
            · refine zV_aload_nr dX0_valueNamed_79 rfl rfl ?_
              refine gf0_165 rfl rfl dX0_valueNamed_80 ?_
              rw [hr]
              refine zR_if_ne (tgt := 100) dX0_valueNamed_83 (by decide) (by omega) (fun h83 => ?_) (fun h83 => ?_)
              · refine zV_iconst dX0_valueNamed_100 ?_
                exact zV_ireturn dX0_valueNamed_101 rfl (Nat.zero_le _) ⟨by unfold valN; rw [if_neg n6, if_neg n18, if_neg n30, if_neg n42, if_neg n54, if_neg (fun z => absurd (of_decide_eq_true z.1) (by omega)), if_neg (fun z => absurd (of_decide_eq_true z.1) (by omega))], rfl⟩
              · refine zV_aload_nr dX0_valueNamed_86 rfl rfl ?_
                refine zV_lds (i := 27) rfl rfl dX0_valueNamed_87 ?_
                refine zV_callV (As := [.ref (eK E 27)]) lk0_100 (rfl) rfl rfl (c0_isWord (i := 27) (b := wSeat) (d - 1) 0 (by omega) hk ht hp rfl) ⟨by show _ + 1 ≤ d; omega, by show _ ≤ k; omega⟩ rfl (Nat.le_of_ble_eq_true rfl) dX0_valueNamed_89 (fun _ _ z => z.elim) (fun r h' q => ?_)
                obtain ⟨rfl, hh⟩ := q
                rw [hh]
                refine zR_if_eq (tgt := 100) dX0_valueNamed_92 (by decide) (by split <;> omega) (fun h92 => ?_) (fun h92 => ?_)
                · have n92 : ¬ isW T n p wSeat = true := fun z => by
                    have h46 : (if isW T n p wSeat = true then (1 : Int) else 0) = 0 := h92
                    rw [if_pos z] at h46
                    exact absurd h46 (by decide)
                  refine zV_iconst dX0_valueNamed_100 ?_
                  exact zV_ireturn dX0_valueNamed_101 rfl (Nat.zero_le _) (absurd h83 h64)
                · have y92 : isW T n p wSeat = true := Decidable.byContradiction fun z => h92 (if_neg z)
                  refine zV_bipush dX0_valueNamed_95 (by decide) ?_
                  refine zV_goto (tgt := 101) dX0_valueNamed_97 (by decide) ?_
                  exact zV_ireturn dX0_valueNamed_101 rfl (Nat.zero_le _) (absurd h83 h64)
            · refine zV_aload_nr dX0_valueNamed_67 rfl rfl ?_
              refine zV_lds (i := 26) rfl rfl dX0_valueNamed_68 ?_
              refine zV_callV (As := [.ref (eK E 26)]) lk0_100 (rfl) rfl rfl (c0_isWord (i := 26) (b := wThirst) (d - 1) 0 (by omega) hk ht hp rfl) ⟨by show _ + 1 ≤ d; omega, by show _ ≤ k; omega⟩ rfl (Nat.le_of_ble_eq_true rfl) dX0_valueNamed_70 (fun _ _ z => z.elim) (fun r h' q => ?_)
              obtain ⟨rfl, hh⟩ := q
              rw [hh]
              refine zR_if_eq (tgt := 79) dX0_valueNamed_73 (by decide) (by split <;> omega) (fun h73 => ?_) (fun h73 => ?_)
              · have n73 : ¬ isW T n p wThirst = true := fun z => by
                  have h46 : (if isW T n p wThirst = true then (1 : Int) else 0) = 0 := h73
                  rw [if_pos z] at h46
                  exact absurd h46 (by decide)
                refine zV_aload_nr dX0_valueNamed_79 rfl rfl ?_
                refine gf0_165 rfl rfl dX0_valueNamed_80 ?_
                rw [hr]
                refine zR_if_ne (tgt := 100) dX0_valueNamed_83 (by decide) (by omega) (fun h83 => ?_) (fun h83 => ?_)
                · refine zV_iconst dX0_valueNamed_100 ?_
                  exact zV_ireturn dX0_valueNamed_101 rfl (Nat.zero_le _) (absurd h64 h83)
                · refine zV_aload_nr dX0_valueNamed_86 rfl rfl ?_
                  refine zV_lds (i := 27) rfl rfl dX0_valueNamed_87 ?_
                  refine zV_callV (As := [.ref (eK E 27)]) lk0_100 (rfl) rfl rfl (c0_isWord (i := 27) (b := wSeat) (d - 1) 0 (by omega) hk ht hp rfl) ⟨by show _ + 1 ≤ d; omega, by show _ ≤ k; omega⟩ rfl (Nat.le_of_ble_eq_true rfl) dX0_valueNamed_89 (fun _ _ z => z.elim) (fun r h' q => ?_)
                  obtain ⟨rfl, hh⟩ := q
                  rw [hh]
                  refine zR_if_eq (tgt := 100) dX0_valueNamed_92 (by decide) (by split <;> omega) (fun h92 => ?_) (fun h92 => ?_)
                  · have n92 : ¬ isW T n p wSeat = true := fun z => by
                      have h46 : (if isW T n p wSeat = true then (1 : Int) else 0) = 0 := h92
                      rw [if_pos z] at h46
                      exact absurd h46 (by decide)
                    refine zV_iconst dX0_valueNamed_100 ?_
                    exact zV_ireturn dX0_valueNamed_101 rfl (Nat.zero_le _) ⟨by unfold valN; rw [if_neg n6, if_neg n18, if_neg n30, if_neg n42, if_neg n54, if_neg (fun z => n73 z.2), if_neg (fun z => n92 z.2)], rfl⟩
                  · have y92 : isW T n p wSeat = true := Decidable.byContradiction fun z => h92 (if_neg z)
                    refine zV_bipush dX0_valueNamed_95 (by decide) ?_
                    refine zV_goto (tgt := 101) dX0_valueNamed_97 (by decide) ?_
                    exact zV_ireturn dX0_valueNamed_101 rfl (Nat.zero_le _) ⟨by unfold valN; rw [if_neg n6, if_neg n18, if_neg n30, if_neg n42, if_neg n54, if_neg (fun z => n73 z.2), if_pos ⟨decide_eq_true (by omega), y92⟩], rfl⟩
              · have y73 : isW T n p wThirst = true := Decidable.byContradiction fun z => h73 (if_neg z)
                refine zV_bipush dX0_valueNamed_76 (by decide) ?_
                exact zV_ireturn dX0_valueNamed_78 rfl (Nat.zero_le _) ⟨by unfold valN; rw [if_neg n6, if_neg n18, if_neg n30, if_neg n42, if_neg n54, if_pos ⟨decide_eq_true (by omega), y73⟩], rfl⟩
          · have y54 : isW T n p wCase = true := Decidable.byContradiction fun z => h54 (if_neg z)
            refine zV_bipush dX0_valueNamed_57 (by decide) ?_
            exact zV_ireturn dX0_valueNamed_59 rfl (Nat.zero_le _) ⟨by unfold valN; rw [if_neg n6, if_neg n18, if_neg n30, if_neg n42, if_pos y54], rfl⟩
        · have y42 : isW T n p wOdd = true := Decidable.byContradiction fun z => h42 (if_neg z)
          refine zV_bipush dX0_valueNamed_45 (by decide) ?_
          exact zV_ireturn dX0_valueNamed_47 rfl (Nat.zero_le _) ⟨by unfold valN; rw [if_neg n6, if_neg n18, if_neg n30, if_pos y42], rfl⟩
      · have y30 : isW T n p wWhere = true := Decidable.byContradiction fun z => h30 (if_neg z)
        refine zV_bipush dX0_valueNamed_33 (by decide) ?_
        exact zV_ireturn dX0_valueNamed_35 rfl (Nat.zero_le _) ⟨by unfold valN; rw [if_neg n6, if_neg n18, if_pos y30], rfl⟩
    · have y18 : isW T n p wMost = true := Decidable.byContradiction fun z => h18 (if_neg z)
      refine zV_bipush dX0_valueNamed_21 (by decide) ?_
      exact zV_ireturn dX0_valueNamed_23 rfl (Nat.zero_le _) ⟨by unfold valN; rw [if_neg n6, if_pos y18], rfl⟩
  · have y6 : isW T n p wLevel = true := Decidable.byContradiction fun z => h6 (if_neg z)
    refine zV_bipush dX0_valueNamed_9 (by decide) ?_
    exact zV_ireturn dX0_valueNamed_11 rfl (Nat.zero_le _) ⟨by unfold valN; rw [if_pos y6], rfl⟩
set_option maxRecDepth 100000 in
theorem c1_addStep {E : zE} {h : zH} {u c : Nat} {v : Int} (d k : Nat) (hu : isCourt u) (hc : h u 11 = (c : Int)) (hc2 : c < 700) : zCal E mX1_addStep d k [zrv E u, ziv v] h (fun r h' => r = none ∧ h' = zup (zup h (u + 7) c v) u 11 ((c : Int) + 1)) (fun _ _ => False) := by
  refine zCal_of (by decide) (Nat.le_of_ble_eq_true rfl) (fun a => ?_)
  show zV _ 0 0 [zrv E u, ziv v] [] _
  have hu9 : u = 2 ∨ u = 16 := hu
  refine zV_aload_nr dX1_addStep_0 rfl rfl ?_
  refine gf1_60 rfl (court_0 hu) dX1_addStep_1 ?_
  refine zV_aload_nr dX1_addStep_4 rfl rfl ?_
  refine gf1_31 rfl (court_0 hu) dX1_addStep_5 ?_
  refine zV_alen (t := 0) (N := 700) (court_7 hu) dX1_addStep_8 ?_
  rw [hc]
  refine zR_icmp_ge (tgt := 32) dX1_addStep_9 (by decide) (by omega) (by omega) (fun h9 => ?_) (fun h9 => ?_)
  · exact absurd h9 (by omega)
  · refine zV_aload_nr dX1_addStep_12 rfl rfl ?_
    refine gf1_31 rfl (court_0 hu) dX1_addStep_13 ?_
    refine zV_aload_nr dX1_addStep_16 rfl rfl ?_
    refine gf1_60 rfl (court_0 hu) dX1_addStep_17 ?_
    rw [hc]
    refine zV_iload_n dX1_addStep_20 rfl rfl ?_
    refine zV_iastoreN (i := c) (N := 700) (court_7 hu) (by omega) (by decide) dX1_addStep_21 ?_
    refine zV_aload_nr dX1_addStep_22 rfl rfl ?_
    refine zV_dup dX1_addStep_23 rfl ?_
    refine gf1_60 rfl (court_0 hu) dX1_addStep_24 ?_
    rw [zup_fn (by omega), hc]
    refine zV_iconst dX1_addStep_27 ?_
    refine zV_iadd dX1_addStep_28 ?_
    refine pf1_60 rfl (court_0 hu) dX1_addStep_29 ?_
    exact zV_vreturn dX1_addStep_32 rfl (Nat.zero_le _) ⟨rfl, rfl⟩
set_option maxRecDepth 100000 in
theorem c1_clear {E : zE} {h : zH} {u : Nat} (d k : Nat) (hu : isCourt u) : zCal E mX1_clear d k [zrv E u] h (fun r h' => r = none ∧ (∀ c2 : Nat, c2 ≠ u → c2 ≠ u + 10 → c2 ≠ u + 11 → h' c2 = h c2) ∧ h' u 0 = 0 ∧ h' u 3 = 0 ∧ h' u 8 = 60 ∧ h' u 9 = 0 ∧ h' u 11 = 0 ∧ (∀ j, j < 2 → h' (u + 10) j = 0) ∧ ∀ j, j < 2 → h' (u + 11) j = 0) (fun _ _ => False) := by
  refine zCal_of (by decide) (Nat.le_of_ble_eq_true rfl) (fun a => ?_)
  show zV _ 0 0 [zrv E u] [] _
  refine zV_aload_nr dX1_clear_0 rfl rfl ?_
  refine zV_iconst dX1_clear_1 ?_
  refine pf1_50 rfl (court_0 hu) dX1_clear_2 ?_
  refine zV_aload_nr dX1_clear_5 rfl rfl ?_
  refine zV_iconst dX1_clear_6 ?_
  refine pf1_53 rfl (court_0 hu) dX1_clear_7 ?_
  refine zV_aload_nr dX1_clear_10 rfl rfl ?_
  refine zV_bipush dX1_clear_11 (by decide) ?_
  refine pf1_46 rfl (court_0 hu) dX1_clear_13 ?_
  refine zV_aload_nr dX1_clear_16 rfl rfl ?_
  refine zV_iconst dX1_clear_17 ?_
  refine pf1_56 rfl (court_0 hu) (Or.inl rfl) dX1_clear_18 ?_
  refine zV_aload_nr dX1_clear_21 rfl rfl ?_
  refine zV_iconst dX1_clear_22 ?_
  refine pf1_60 rfl (court_0 hu) dX1_clear_23 ?_
  refine zV_aload_nr dX1_clear_26 rfl rfl ?_
  refine gf1_40 rfl (court_0 hu) dX1_clear_27 ?_
  refine zV_iconst dX1_clear_30 ?_
  refine zV_iconst dX1_clear_31 ?_
  refine zV_zastore (N := 2) (court_10 hu) (by decide) (by decide) (Or.inl rfl) dX1_clear_32 ?_
  refine zV_aload_nr dX1_clear_33 rfl rfl ?_
  refine gf1_40 rfl (court_0 hu) dX1_clear_34 ?_
  refine zV_iconst dX1_clear_37 ?_
  refine zV_iconst dX1_clear_38 ?_
  refine zV_zastore (N := 2) (court_10 hu) (by decide) (by decide) (Or.inl rfl) dX1_clear_39 ?_
  refine zV_aload_nr dX1_clear_40 rfl rfl ?_
  refine gf1_43 rfl (court_0 hu) dX1_clear_41 ?_
  refine zV_iconst dX1_clear_44 ?_
  refine zV_iconst dX1_clear_45 ?_
  refine zV_zastore (N := 2) (court_11 hu) (by decide) (by decide) (Or.inl rfl) dX1_clear_46 ?_
  refine zV_aload_nr dX1_clear_47 rfl rfl ?_
  refine gf1_43 rfl (court_0 hu) dX1_clear_48 ?_
  refine zV_iconst dX1_clear_51 ?_
  refine zV_iconst dX1_clear_52 ?_
  refine zV_zastore (N := 2) (court_11 hu) (by decide) (by decide) (Or.inl rfl) dX1_clear_53 ?_
  exact zV_vreturn dX1_clear_54 rfl (Nat.zero_le _) ⟨rfl, fun c2 a b c => by simp [zup_fn, a, b, c], by simp [zup_at, zup_fn], by simp [zup_at, zup_fn], by simp [zup_at, zup_fn], by simp [zup_at, zup_fn], by simp [zup_at, zup_fn], fun j hj => by
    rcases (show j = 0 ∨ j = 1 by omega) with rfl | rfl <;> simp [zup_at, zup_fn], fun j hj => by
    rcases (show j = 0 ∨ j = 1 by omega) with rfl | rfl <;> simp [zup_at, zup_fn]⟩
set_option maxRecDepth 100000 in
theorem c0_handOver {E : zE} {h : zH} {u v : Nat} (d k : Nat) (hu : isCourt u) (hv : isCourt v) (hc : h 14 2 = (u : Int)) : zCal E mX0_handOver d k [zrv E 14, zrv E v] h (fun r h' => r = some (zrv E u) ∧ h' = zup h 14 2 (v : Int)) (fun _ _ => False) := by
  refine zCal_of (by decide) (Nat.le_of_ble_eq_true rfl) (fun a => ?_)
  show zV _ 0 0 [zrv E 14, zrv E v, .null] [] _
  refine zV_aload_nr dX0_handOver_0 rfl rfl ?_
  refine gf0_18 (t := u) (hc) rfl (rfl) dX0_handOver_1 ?_
  refine zV_astore_nr dX0_handOver_4 rfl (Nat.le_of_ble_eq_true rfl) rfl ?_
  refine zV_aload_nr dX0_handOver_5 rfl rfl ?_
  refine zV_aload_nr dX0_handOver_6 rfl rfl ?_
  refine pf0_18 rfl (rfl) dX0_handOver_7 ?_
  refine zV_aload_nr dX0_handOver_10 rfl rfl ?_
  exact zV_areturn dX0_handOver_11 rfl (Or.inl ⟨_, rfl⟩) (Nat.zero_le _) ⟨rfl, rfl⟩
