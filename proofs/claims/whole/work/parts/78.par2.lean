/-! THE REFERENCE: words, signs, numbers, what is laid -/
def wrg (h : zH) (k : Int) : zH := zup (zup h 64 24 k) 64 25 (h 64 22)
theorem dgM_lo {T : Nat → Int} {n : Nat} : ∀ k p v, 0 ≤ v ∧ v ≤ 100000 → 0 ≤ (dgM T n k p v).2 ∧ (dgM T n k p v).2 ≤ 100000 := by
  intro k
  induction k with
  | zero => intro p v h; exact h
  | succ k ih =>
    intro p v h
    rw [dgM_s]
    split
    · rename_i e
      have : 48 ≤ T p ∧ T p ≤ 57 := of_decide_eq_true e.2
      exact ih _ _ (by omega)
    · exact h
theorem num_v {T : Nat → Int} {n p : Nat} (h2 : tK T n p = 2) (h4 : tB T n p - tA T n p ≤ 4) : (dgM T n (n - tA T n p) (tA T n p) 0).2 = tV T n p := by
  unfold tK at h2
  unfold tB at h4
  unfold tV
  split at h2
  · exact absurd h2 (by decide)
  · rename_i a1
    rw [if_neg a1] at h4 ⊢
    split at h2
    · exact absurd h2 (by decide)
    · rename_i a2
      rw [if_neg a2] at h4 ⊢
      split at h2
      · rename_i a3
        rw [if_pos a3] at h4 ⊢
        rw [(dg_eq (T := T) (n := n) (a := tA T n p) (n - tA T n p) (tA T n p) 0 (Nat.le_refl _) (by decide) (by rw [Nat.sub_self]; decide) h4).1]
      · exact absurd h2 (by decide)

theorem zstb_len {i : Nat} {b : List Int} (hb : zstb[i]? = some b) : b.length ≤ 30 := by
  have h1 : ∀ x ∈ zstb, x.length ≤ 30 := by decide
  exact h1 b (List.mem_of_getElem? hb)
theorem wC {P : Prop} [Decidable P] {w : Int} (hw : w = if P then 1 else 0) (h : w ≠ 0) : P := Decidable.byContradiction fun z => h (by rw [hw, if_neg z])
theorem wN {P : Prop} [Decidable P] {w : Int} (hw : w = if P then 1 else 0) (h : w = 0) : ¬ P := fun z => by rw [hw, if_pos z] at h; exact absurd h (by decide)
theorem isW_C {h : zH} {T : Nat → Int} {n p : Nat} {b : List Int} (hp : tA T n p ≤ tB T n p) : (h 64 24 = 0 ∧ isW T n p b = true) ↔ ((h 64 24 = 0 ∧ tK T n p = 1 ∧ (b.length : Int) = ((tB T n p : Int) - (tA T n p : Int))) ∧ likeB (fun j => T (tA T n p + j)) (fun j => b.getD j 0) b.length = true) := by
  unfold isW
  rw [Bool.and_eq_true, Bool.and_eq_true, decide_eq_true_iff, decide_eq_true_iff]
  constructor
  · rintro ⟨a, b1, c, d⟩; exact ⟨⟨a, b1, by omega⟩, d⟩
  · rintro ⟨⟨a, b1, c⟩, d⟩; exact ⟨a, b1, by omega, d⟩

set_option maxRecDepth 100000 in
theorem c6_wrong {E : zE} {h : zH} {x : Int} (d k : Nat) (hb : 0 ≤ h 64 24 ∧ h 64 24 ≤ 5) : zCal E mX6_wrong d k [zrv E 64, ziv x] h (fun r h' => r = none ∧ h' = if h 64 24 = 0 then wrg h x else h) (fun _ _ => False) := by
  refine zCal_of (by decide) (Nat.le_of_ble_eq_true rfl) (fun a => ?_)
  show zV _ 0 0 [zrv E 64, ziv x] [] _
  refine zV_aload_nr dX6_wrong_0 rfl rfl ?_
  refine gf6_210 rfl rfl dX6_wrong_1 ?_
  refine zR_if_eq (tgt := 8) dX6_wrong_4 (by decide) (by omega) (fun h4 => ?_) (fun h4 => ?_)
  · refine zV_aload_nr dX6_wrong_8 rfl rfl ?_
    refine zV_iload_n dX6_wrong_9 rfl rfl ?_
    refine pf6_210 rfl (rfl) dX6_wrong_10 ?_
    refine zV_aload_nr dX6_wrong_13 rfl rfl ?_
    refine zV_aload_nr dX6_wrong_14 rfl rfl ?_
    refine gf6_181 rfl rfl dX6_wrong_15 ?_
    refine zV_teq (w := ziv (h 64 22)) (congrArg ziv (by rw [zup_at, if_neg (by decide)])) ?_
    refine pf6_213 rfl (rfl) dX6_wrong_18 ?_
    exact zV_vreturn dX6_wrong_21 rfl (Nat.zero_le _) ⟨rfl, by rw [if_pos h4]; rfl⟩
  · exact zV_vreturn dX6_wrong_7 rfl (Nat.zero_le _) ⟨rfl, by rw [if_neg h4]⟩
set_option maxRecDepth 100000 in
theorem c6_is {E : zE} {h : zH} {T : Nat → Int} {n p i : Nat} {b : List Int} (d k : Nat) (hd : 4 ≤ d) (hk : mclk h T n) (ht : mtok h T n p) (hp : p ≤ n) (hbd : 0 ≤ h 64 24 ∧ h 64 24 ≤ 5) (hb : zstb[i]? = some b) : zCal E mX6_is d k [zrv E 64, .ref (eK E i)] h (fun r h' => r = some (ziv (if h 64 24 = 0 ∧ isW T n p b = true then 1 else 0)) ∧ h' = h) (fun _ _ => False) := by
  refine zCal_of (by decide) (Nat.le_of_ble_eq_true rfl) (fun a => ?_)
  show zV _ 0 0 [zrv E 64, .ref (eK E i), .null, .null] [] _
  obtain ⟨k1, k2, k3, k4⟩ := hk
  obtain ⟨t1, t2, t3, t4, t5⟩ := ht
  have tl := tB_lo (T := T) hp
  have ta := tA_lo (T := T) hp
  have q4 := tQ_lo T n p
  have bl := zstb_len hb
  refine zV_aload_nr dX6_is_0 rfl rfl ?_
  refine gf6_210 rfl rfl dX6_is_1 ?_
  have J36 : ∀ (w : Int), (w = if (h 64 24 = 0 ∧ tK T n p = 1 ∧ (b.length : Int) = ((tB T n p : Int) - (tA T n p : Int))) then 1 else 0) → zV (E, mX6_is, d, k, (fun r h' => r = some (ziv (if h 64 24 = 0 ∧ isW T n p b = true then 1 else 0)) ∧ h' = h), (fun _ _ => False), a) 0 36 [zrv E 64, .ref (eK E i), .null, .null] [ziv w] h := by
    intro w hw0
    refine zV_istore_n dX6_is_36 rfl (Nat.le_of_ble_eq_true rfl) rfl ?_
    refine zV_iconst dX6_is_37 ?_
    refine zV_istore_n dX6_is_38 rfl (Nat.le_of_ble_eq_true rfl) rfl ?_
    have L39 : ∀ (m : Nat) (s : Nat) (w : Int), (b.length + 1 ≤ s + m) → (s ≤ b.length) → (w = if (h 64 24 = 0 ∧ tK T n p = 1 ∧ (b.length : Int) = ((tB T n p : Int) - (tA T n p : Int))) ∧ likeB (fun j => T (tA T n p + j)) (fun j => b.getD j 0) s = true then 1 else 0) → zV (E, mX6_is, d, k, (fun r h' => r = some (ziv (if h 64 24 = 0 ∧ isW T n p b = true then 1 else 0)) ∧ h' = h), (fun _ _ => False), a) 0 39 [zrv E 64, .ref (eK E i), ziv w, ziv (s : Int)] [] h := by
      intro m
      induction m with
      | zero => intro s w hm_ hsn hw; exfalso; omega
      | succ m ih =>
        intro s w hm_ hsn hw
        refine zV_iload_n dX6_is_39 rfl rfl ?_
        refine zR_if_eq (tgt := 82) dX6_is_40 (by decide) (by rw [hw]; split <;> omega) (fun h40 => ?_) (fun h40 => ?_)
        · refine zV_iload_n dX6_is_82 rfl rfl ?_
          exact zV_zreturn dX6_is_83 rfl (by rw [hw]; split <;> simp) (Nat.zero_le _) ⟨by rw [h40, if_neg (fun z => wN hw h40 (by
              have c9 := (isW_C (h := h) (b := b) tl.1).mp z
              refine ⟨c9.1, Bool.of_not_eq_false (fun y => ?_)⟩
              have := likeB_f y (b.length - s)
              rw [show s + (b.length - s) = b.length by omega, c9.2] at this
              cases this))], rfl⟩
        · have hC := wC hw h40
          refine zV_iload_n dX6_is_43 rfl rfl ?_
          refine zV_aload_n dX6_is_44 rfl rfl ?_
          refine zV_callT (As := []) lk6_216 hb rfl (cJ_length (d - 1) 0 (by omega) hb) ⟨by show _ + 1 ≤ d; omega, by show _ ≤ k; omega⟩ rfl (Nat.le_of_ble_eq_true rfl) dX6_is_45 (fun _ _ z => z.elim) (fun r h9 q => ?_)
          obtain ⟨rfl, hh⟩ := q
          rw [hh]
          refine zR_icmp_ge (tgt := 82) dX6_is_48 (by decide) (by omega) (by omega) (fun h48 => ?_) (fun h48 => ?_)
          · refine zV_iload_n dX6_is_82 rfl rfl ?_
            exact zV_zreturn dX6_is_83 rfl (by rw [hw]; split <;> simp) (Nat.zero_le _) ⟨by rw [hw, show s = b.length by omega]; exact congrArg some (congrArg ziv (ite_congr (propext (isW_C (h := h) tl.1).symm) (fun _ => rfl) (fun _ => rfl))), rfl⟩
          · refine zV_aload_n dX6_is_51 rfl rfl ?_
            refine zV_iload_n dX6_is_52 rfl rfl ?_
            refine zV_callT (As := [ziv (s : Int)]) lk6_220 hb rfl (cJ_charAt (d - 1) 0 (by omega) hb (by omega)) ⟨by show _ + 1 ≤ d; omega, by show _ ≤ k; omega⟩ rfl (Nat.le_of_ble_eq_true rfl) dX6_is_53 (fun _ _ z => z.elim) (fun r h9 q => ?_)
            obtain ⟨rfl, hh⟩ := q
            rw [hh]
            refine zV_aload_nr dX6_is_56 rfl rfl ?_
            refine gf6_75 rfl (rfl) dX6_is_57 ?_
            refine zV_teq (w := zrv E 79) rfl ?_
            refine zV_aload_nr dX6_is_60 rfl rfl ?_
            refine gf6_181 rfl rfl dX6_is_61 ?_
            rw [t1]
            refine zV_iload_n dX6_is_64 rfl rfl ?_
            refine zV_iadd dX6_is_65 ?_
            refine zV_teq (w := ziv ((tA T n p + s : Nat) : Int)) rfl ?_
            refine zV_ialoadN (i := (tA T n p + s)) (N := 700) (rfl) (by omega) (by decide) dX6_is_66 ?_
            have J75 : ∀ (w2 : Int), (w2 = if (h 64 24 = 0 ∧ tK T n p = 1 ∧ (b.length : Int) = ((tB T n p : Int) - (tA T n p : Int))) ∧ likeB (fun j => T (tA T n p + j)) (fun j => b.getD j 0) (s + 1) = true then 1 else 0) → zV (E, mX6_is, d, k, (fun r h' => r = some (ziv (if h 64 24 = 0 ∧ isW T n p b = true then 1 else 0)) ∧ h' = h), (fun _ _ => False), a) 0 75 [zrv E 64, .ref (eK E i), ziv w, ziv (s : Int)] [ziv w2] h := by
              intro w2 hw2
              refine zV_istore_n dX6_is_75 rfl (Nat.le_of_ble_eq_true rfl) rfl ?_
              refine zV_iinc dX6_is_76 rfl (Nat.le_of_ble_eq_true rfl) rfl ?_
              refine zV_goto (tgt := 39) dX6_is_79 (by decide) ?_
              exact ih (s + 1) w2 (by omega) (by omega) hw2
            rw [k3]
            obtain ⟨cc9, hc9, ec9⟩ := zstb_at hb (show s < b.length by omega)
            have tt9 := k4 (tA T n p + s) (by omega)
            refine zR_icmp_ne (tgt := 74) dX6_is_67 (by decide) (by omega) (by omega) (fun h67 => ?_) (fun h67 => ?_)
            · refine zV_iconst dX6_is_74 ?_
              exact J75 0 (by rw [if_neg (fun z => h67 (by have := z.2; rw [likeB_s, Bool.and_eq_true] at this; exact (of_decide_eq_true this.2).symm))])
            · refine zV_iconst dX6_is_70 ?_
              refine zV_goto (tgt := 75) dX6_is_71 (by decide) ?_
              exact J75 1 (by rw [if_pos ⟨hC.1, by rw [likeB_s, hC.2, decide_eq_true (show T (tA T n p + s) = b.getD s 0 from h67.symm)]; rfl⟩])
    exact L39 (b.length + 1) 0 w (by omega) (by omega) (by rw [hw0]; exact ite_congr (propext ⟨fun z => ⟨z, rfl⟩, fun z => z.1⟩) (fun _ => rfl) (fun _ => rfl))
  refine zR_if_ne (tgt := 35) dX6_is_4 (by decide) (by omega) (fun h4 => ?_) (fun h4 => ?_)
  · refine zV_iconst dX6_is_35 ?_
    exact J36 0 (by rw [if_neg (fun z => h4 z.1)])
  · refine zV_aload_nr dX6_is_7 rfl rfl ?_
    refine gf6_184 rfl rfl dX6_is_8 ?_
    rw [t4]
    refine zV_iconst dX6_is_11 ?_
    refine zR_icmp_ne (tgt := 35) dX6_is_12 (by decide) (by omega) (by decide) (fun h12 => ?_) (fun h12 => ?_)
    · have kk1 : ¬ tK T n p = 1 := fun z => h12 (tQ_1.mpr z)
      refine zV_iconst dX6_is_35 ?_
      exact J36 0 (by rw [if_neg (fun z => kk1 z.2.1)])
    · have kk1 := tQ_1.mp h12
      refine zV_aload_n dX6_is_15 rfl rfl ?_
      refine zV_callT (As := []) lk6_216 hb rfl (cJ_length (d - 1) 0 (by omega) hb) ⟨by show _ + 1 ≤ d; omega, by show _ ≤ k; omega⟩ rfl (Nat.le_of_ble_eq_true rfl) dX6_is_16 (fun _ _ z => z.elim) (fun r h9 q => ?_)
      obtain ⟨rfl, hh⟩ := q
      rw [hh]
      refine zV_aload_nr dX6_is_19 rfl rfl ?_
      refine gf6_207 rfl rfl dX6_is_20 ?_
      rw [t2]
      refine zV_aload_nr dX6_is_23 rfl rfl ?_
      refine gf6_181 rfl rfl dX6_is_24 ?_
      rw [t1]
      refine zV_isub dX6_is_27 ?_
      refine zR_icmp_ne (tgt := 35) dX6_is_28 (by decide) (by omega) (by omega) (fun h28 => ?_) (fun h28 => ?_)
      · refine zV_iconst dX6_is_35 ?_
        exact J36 0 (by rw [if_neg (fun z => h28 z.2.2)])
      · refine zV_iconst dX6_is_31 ?_
        refine zV_goto (tgt := 36) dX6_is_32 (by decide) ?_
        exact J36 1 (by rw [if_pos ⟨h4, kk1, h28⟩])
set_option maxRecDepth 100000 in
theorem c6_which {E : zE} {h : zH} {T : Nat → Int} {n p c N i0 : Nat} {W : Nat → List Int} (d k : Nat) (hd : 5 ≤ d) (hcz : zsh[c]? = some (.inr (3, N))) (hN : N ≤ 7) (hk : mclk h T n) (ht : mtok h T n p) (hp : p ≤ n) (hbd : 0 ≤ h 64 24 ∧ h 64 24 ≤ 5) (hi : ∀ j, j < N → h c j = ((i0 + j : Nat) : Int) ∧ zstb[i0 + j]? = some (W j)) : zCal E mX6_which d k [zrv E 64, zrv E c] h (fun r h' => r = some (ziv (fstB (fun j => decide (h 64 24 = 0) && isW T n p (W j)) 0 N)) ∧ h' = h) (fun _ _ => False) := by
  refine zCal_of (by decide) (Nat.le_of_ble_eq_true rfl) (fun a => ?_)
  show zV _ 0 0 [zrv E 64, zrv E c, .null] [] _
  refine zV_iconst dX6_which_0 ?_
  refine zV_istore_n dX6_which_1 rfl (Nat.le_of_ble_eq_true rfl) rfl ?_
  have L2 : ∀ (m : Nat) (s : Nat), (N + 1 ≤ s + m) → (s ≤ N) → (fstB (fun j => decide (h 64 24 = 0) && isW T n p (W j)) 0 N = fstB (fun j => decide (h 64 24 = 0) && isW T n p (W j)) s (N - s)) → zV (E, mX6_which, d, k, (fun r h' => r = some (ziv (fstB (fun j => decide (h 64 24 = 0) && isW T n p (W j)) 0 N)) ∧ h' = h), (fun _ _ => False), a) 0 2 [zrv E 64, zrv E c, ziv (s : Int)] [] h := by
    intro m
    induction m with
    | zero => intro s hm_ hs hf; exfalso; omega
    | succ m ih =>
      intro s hm_ hs hf
      refine zV_iload_n dX6_which_2 rfl rfl ?_
      refine zV_aload_nr dX6_which_3 rfl rfl ?_
      refine zV_alen (t := 3) (N := N) (hcz) dX6_which_4 ?_
      refine zR_icmp_ge (tgt := 26) dX6_which_5 (by decide) (by omega) (by omega) (fun h5 => ?_) (fun h5 => ?_)
      · refine zV_iconst dX6_which_26 ?_
        exact zV_ireturn dX6_which_27 rfl (Nat.zero_le _) ⟨by rw [hf, show N - s = 0 by omega]; rfl, rfl⟩
      · refine zV_aload_nr dX6_which_8 rfl rfl ?_
        refine zV_aload_nr dX6_which_9 rfl rfl ?_
        refine zV_iload_n dX6_which_10 rfl rfl ?_
        refine zV_saload (N := N) (hcz) (by omega) (by omega) dX6_which_11 ?_
        refine zV_teq (w := .ref (eK E (i0 + s))) (by rw [show ((s : Int)).toNat = s from rfl, (hi s (by omega)).1, Int.toNat_natCast]) ?_
        refine zV_callV (As := [.ref (eK E (i0 + s))]) lk6_224 (rfl) rfl rfl (c6_is (i := i0 + s) (b := W s) (d - 1) 0 (by omega) hk ht hp hbd (hi s (by omega)).2) ⟨by show _ + 1 ≤ d; omega, by show _ ≤ k; omega⟩ rfl (Nat.le_of_ble_eq_true rfl) dX6_which_12 (fun _ _ z => z.elim) (fun r h9 q => ?_)
        obtain ⟨rfl, hh⟩ := q
        rw [hh]
        clear hh
        refine zR_if_eq (tgt := 20) dX6_which_15 (by decide) (by split <;> omega) (fun h15 => ?_) (fun h15 => ?_)
        · have n15 := ipF h15
          refine zV_iinc dX6_which_20 rfl (Nat.le_of_ble_eq_true rfl) rfl ?_
          refine zV_goto (tgt := 2) dX6_which_23 (by decide) ?_
          exact ih (s + 1) (by omega) (by omega) (by rw [hf, show N - s = N - (s + 1) + 1 by omega, fstB_s, if_neg (fun z => n15 (by rw [Bool.and_eq_true] at z; exact ⟨of_decide_eq_true z.1, z.2⟩))])
        · have y15 := ipT h15
          refine zV_iload_n dX6_which_18 rfl rfl ?_
          exact zV_ireturn dX6_which_19 rfl (Nat.zero_le _) ⟨by rw [hf, show N - s = N - (s + 1) + 1 by omega, fstB_s, if_pos (by rw [decide_eq_true y15.1, y15.2]; rfl)], rfl⟩
  exact L2 (N + 1) 0 (by omega) (by omega) rfl
set_option maxRecDepth 100000 in
theorem c6_isMarked {E : zE} {h : zH} {T : Nat → Int} {n p : Nat} {c : Int} (d k : Nat) (hk : mclk h T n) (ht : mtok h T n p) (hp : p ≤ n) (hbd : 0 ≤ h 64 24 ∧ h 64 24 ≤ 5) (hc : mrk c = true) (hc2 : 0 ≤ c ∧ c ≤ 200) : zCal E mX6_isMarked d k [zrv E 64, ziv c] h (fun r h' => r = some (ziv (if h 64 24 = 0 ∧ isS T n p c = true then 1 else 0)) ∧ h' = h) (fun _ _ => False) := by
  refine zCal_of (by decide) (Nat.le_of_ble_eq_true rfl) (fun a => ?_)
  show zV _ 0 0 [zrv E 64, ziv c] [] _
  obtain ⟨k1, k2, k3, k4⟩ := hk
  obtain ⟨t1, t2, t3, t4, t5⟩ := ht
  have q4 := tQ_lo T n p
  have ta := tA_lo (T := T) hp
  refine zV_aload_nr dX6_isMarked_0 rfl rfl ?_
  refine gf6_210 rfl rfl dX6_isMarked_1 ?_
  refine zR_if_ne (tgt := 32) dX6_isMarked_4 (by decide) (by omega) (fun h4 => ?_) (fun h4 => ?_)
  · refine zV_iconst dX6_isMarked_32 ?_
    exact zV_zreturn dX6_isMarked_33 rfl (by simp) (Nat.zero_le _) ⟨by rw [if_neg (fun z => h4 z.1)], rfl⟩
  · refine zV_aload_nr dX6_isMarked_7 rfl rfl ?_
    refine gf6_184 rfl rfl dX6_isMarked_8 ?_
    rw [t4]
    refine zV_iconst dX6_isMarked_11 ?_
    refine zR_icmp_ne (tgt := 32) dX6_isMarked_12 (by decide) (by omega) (by decide) (fun h12 => ?_) (fun h12 => ?_)
    · have nS : ¬ isS T n p c = true := fun z => h12 (tQ_3.mpr ⟨isS_k z, by have := (of_decide_eq_true z).2; rw [(tK_3 (isS_k z)).2] at this; rw [this]; exact hc⟩)
      refine zV_iconst dX6_isMarked_32 ?_
      exact zV_zreturn dX6_isMarked_33 rfl (by simp) (Nat.zero_le _) ⟨by rw [if_neg (fun z => nS z.2)], rfl⟩
    · have k33 := tQ_3.mp h12
      have t33 := tK_3 k33.1
      refine zV_aload_nr dX6_isMarked_15 rfl rfl ?_
      refine gf6_75 rfl (rfl) dX6_isMarked_16 ?_
      refine zV_teq (w := zrv E 79) rfl ?_
      refine zV_aload_nr dX6_isMarked_19 rfl rfl ?_
      refine gf6_181 rfl rfl dX6_isMarked_20 ?_
      rw [t1]
      refine zV_ialoadN (i := (tA T n p)) (N := 700) (rfl) (by omega) (by decide) dX6_isMarked_23 ?_
      rw [k3]
      have tt := k4 (tA T n p) t33.1
      refine zV_iload_n dX6_isMarked_24 rfl rfl ?_
      refine zR_icmp_ne (tgt := 32) dX6_isMarked_25 (by decide) (by omega) (by omega) (fun h25 => ?_) (fun h25 => ?_)
      · refine zV_iconst dX6_isMarked_32 ?_
        exact zV_zreturn dX6_isMarked_33 rfl (by simp) (Nat.zero_le _) ⟨by rw [if_neg (fun z => h25 (by have := (of_decide_eq_true z.2).2; rw [t33.2] at this; exact this))], rfl⟩
      · refine zV_iconst dX6_isMarked_28 ?_
        refine zV_goto (tgt := 33) dX6_isMarked_29 (by decide) ?_
        exact zV_zreturn dX6_isMarked_33 rfl (by simp) (Nat.zero_le _) ⟨by rw [if_pos ⟨h4, decide_eq_true ⟨k33.1, by rw [t33.2]; exact h25⟩⟩], rfl⟩
set_option maxRecDepth 100000 in
theorem c6_mark {E : zE} {h : zH} {T : Nat → Int} {n p : Nat} {c : Int} (d k : Nat) (hd : 2 ≤ d) (hk : mclk h T n) (ht : mtok h T n p) (hp : p ≤ n) (hb : h 64 24 = 0) (hc : mrk c = true) (hc2 : 0 ≤ c ∧ c ≤ 200) : zCal E mX6_mark d k [zrv E 64, ziv c] h (fun r h' => r = none ∧ if isS T n p c = true then mst h h' ∧ mtok h' T n (tB T n p) else h' = wrg h 1) (fun _ _ => False) := by
  refine zCal_of (by decide) (Nat.le_of_ble_eq_true rfl) (fun a => ?_)
  show zV _ 0 0 [zrv E 64, ziv c] [] _
  have tl := tB_lo (T := T) hp
  refine zV_aload_nr dX6_mark_0 rfl rfl ?_
  refine gf6_210 rfl rfl dX6_mark_1 ?_
  have J20 : ∀ (h1 : zH), ((isS T n p c = true ∧ h1 = h) ∨ (¬ isS T n p c = true ∧ h1 = wrg h 1)) → zV (E, mX6_mark, d, k, (fun r h' => r = none ∧ if isS T n p c = true then mst h h' ∧ mtok h' T n (tB T n p) else h' = wrg h 1), (fun _ _ => False), a) 0 20 [zrv E 64, ziv c] [] h1 := by
    intro h1 hj
    have b1 : 0 ≤ h1 64 24 ∧ h1 64 24 ≤ 5 := by rcases hj with ⟨-, e⟩ | ⟨-, e⟩; rw [e]; omega; rw [e, show wrg h 1 64 24 = 1 from rfl]; decide
    refine zV_aload_nr dX6_mark_20 rfl rfl ?_
    refine gf6_210 rfl rfl dX6_mark_21 ?_
    refine zR_if_ne (tgt := 31) dX6_mark_24 (by decide) (by omega) (fun h24 => ?_) (fun h24 => ?_)
    · have e1 : ¬ isS T n p c = true ∧ h1 = wrg h 1 := by rcases hj with ⟨-, e⟩ | e; rw [e] at h24; exact absurd hb h24; exact e
      exact zV_vreturn dX6_mark_31 rfl (Nat.zero_le _) ⟨rfl, by rw [if_neg e1.1]; exact e1.2⟩
    · have e1 : isS T n p c = true ∧ h1 = h := by rcases hj with e | ⟨-, e⟩; exact e; rw [e, show wrg h 1 64 24 = 1 from rfl] at h24; exact absurd h24 (by decide)
      obtain ⟨e1, rfl⟩ := e1
      refine zV_aload_nr dX6_mark_27 rfl rfl ?_
      refine zV_callV (As := []) lk6_235 (rfl) rfl rfl (c6_stepOn (T := T) (n := n) (p := tB T n p) (d - 1) 0 (by omega) hk ht.2.2.1 tl.2.1) ⟨by show _ + 1 ≤ d; omega, by show _ ≤ k; omega⟩ rfl (Nat.le_of_ble_eq_true rfl) dX6_mark_28 (fun _ _ z => z.elim) (fun r h2 q => ?_)
      obtain ⟨rfl, st2, tk2⟩ := q
      exact zV_vreturn dX6_mark_31 rfl (Nat.zero_le _) ⟨rfl, by rw [if_pos e1]; exact ⟨st2, tk2⟩⟩
  refine zR_if_ne (tgt := 20) dX6_mark_4 (by decide) (by omega) (fun h4 => ?_) (fun h4 => ?_)
  · exact absurd hb h4
  · refine zV_aload_nr dX6_mark_7 rfl rfl ?_
    refine zV_iload_n dX6_mark_8 rfl rfl ?_
    refine zV_callV (As := [ziv c]) lk6_228 (rfl) rfl rfl (c6_isMarked (T := T) (n := n) (p := p) (d - 1) 0 hk ht hp (by omega) hc hc2) ⟨by show _ + 1 ≤ d; omega, by show _ ≤ k; omega⟩ rfl (Nat.le_of_ble_eq_true rfl) dX6_mark_9 (fun _ _ z => z.elim) (fun r h9 q => ?_)
    obtain ⟨rfl, hh⟩ := q
    rw [hh]
    clear hh
    refine zR_if_ne (tgt := 20) dX6_mark_12 (by decide) (by split <;> omega) (fun h12 => ?_) (fun h12 => ?_)
    · have y12 := ipT h12
      exact J20 h (Or.inl ⟨y12.2, rfl⟩)
    · have n12 := ipF h12
      refine zV_aload_nr dX6_mark_15 rfl rfl ?_
      refine zV_iconst dX6_mark_16 ?_
      refine zV_callV (As := [ziv 1]) lk6_231 (rfl) rfl rfl (c6_wrong (d - 1) 0 (by omega)) ⟨by show _ + 1 ≤ d; omega, by show _ ≤ k; omega⟩ rfl (Nat.le_of_ble_eq_true rfl) dX6_mark_17 (fun _ _ z => z.elim) (fun r h2 q => ?_)
      obtain ⟨rfl, hh⟩ := q
      rw [if_pos hb] at hh
      rw [hh]
      clear hh
      exact J20 _ (Or.inr ⟨fun z => n12 ⟨hb, z⟩, rfl⟩)
set_option maxRecDepth 100000 in
theorem c6_markB {E : zE} {h : zH} {c : Int} (d k : Nat) (hb : h 64 24 ≠ 0) (hbd : 0 ≤ h 64 24 ∧ h 64 24 ≤ 5) : zCal E mX6_mark d k [zrv E 64, ziv c] h (fun r h' => r = none ∧ h' = h) (fun _ _ => False) := by
  refine zCal_of (by decide) (Nat.le_of_ble_eq_true rfl) (fun a => ?_)
  show zV _ 0 0 [zrv E 64, ziv c] [] _
  refine zV_aload_nr dX6_mark_0 rfl rfl ?_
  refine gf6_210 rfl rfl dX6_mark_1 ?_
  refine zR_if_ne (tgt := 20) dX6_mark_4 (by decide) (by omega) (fun h4 => ?_) (fun h4 => ?_)
  · refine zV_aload_nr dX6_mark_20 rfl rfl ?_
    refine gf6_210 rfl rfl dX6_mark_21 ?_
    refine zR_if_ne (tgt := 31) dX6_mark_24 (by decide) (by omega) (fun h24 => ?_) (fun h24 => ?_)
    · exact zV_vreturn dX6_mark_31 rfl (Nat.zero_le _) ⟨rfl, rfl⟩
    · exact absurd h24 hb
  · exact absurd h4 hb
set_option maxRecDepth 100000 in
theorem c6_readNumber {E : zE} {h : zH} {T : Nat → Int} {n p : Nat} {lo hi : Int} (d k : Nat) (hd : 2 ≤ d) (hk : mclk h T n) (ht : mtok h T n p) (hp : p ≤ n) (hb : h 64 24 = 0) (hlo : 0 ≤ lo ∧ lo ≤ 1000) (hhi : 0 ≤ hi ∧ hi ≤ 10000) : zCal E mX6_readNumber d k [zrv E 64, ziv lo, ziv hi] h (fun r h' => match numP T n lo hi p with
  | .inr (a, q) => r = some (ziv a) ∧ mst h h' ∧ mtok h' T n q
  | .inl (k, _) => r = some (ziv 0) ∧ h' = wrg h k) (fun _ _ => False) := by
  refine zCal_of (by decide) (Nat.le_of_ble_eq_true rfl) (fun a => ?_)
  show zV _ 0 0 [zrv E 64, ziv lo, ziv hi, .null] [] _
  obtain ⟨t1, t2, t3, t4, t5⟩ := id ht
  have q4 := tQ_lo T n p
  have tl := tB_lo (T := T) hp
  have ta := tA_lo (T := T) hp
  have k2 := hk.2.1
  refine zV_aload_nr dX6_readNumber_0 rfl rfl ?_
  refine gf6_210 rfl rfl dX6_readNumber_1 ?_
  refine zR_if_eq (tgt := 9) dX6_readNumber_4 (by decide) (by omega) (fun h4 => ?_) (fun h4 => ?_)
  · refine zV_aload_nr dX6_readNumber_9 rfl rfl ?_
    refine gf6_184 rfl rfl dX6_readNumber_10 ?_
    rw [t4]
    refine zV_iconst dX6_readNumber_13 ?_
    have J59 : ∀ (h1 : zH), ((h1 = h ∧ numP T n lo hi p = .inr (tV T n p, tB T n p) ∧ h 64 21 = tV T n p) ∨ ∃ k9 : Int, (k9 = 1 ∨ k9 = 2) ∧ h1 = wrg h k9 ∧ numP T n lo hi p = .inl (k9, p)) → zV (E, mX6_readNumber, d, k, (fun r h' => match numP T n lo hi p with
      | .inr (a, q) => r = some (ziv a) ∧ mst h h' ∧ mtok h' T n q
      | .inl (k, _) => r = some (ziv 0) ∧ h' = wrg h k), (fun _ _ => False), a) 0 59 [zrv E 64, ziv lo, ziv hi, .null] [] h1 := by
      intro h1 hj
      have b1 : 0 ≤ h1 64 24 ∧ h1 64 24 ≤ 5 := by
        rcases hj with ⟨e, -⟩ | ⟨k9, e1, e, -⟩
        · rw [e]; omega
        · rw [e, show wrg h k9 64 24 = k9 from rfl]; omega
      refine zV_aload_nr dX6_readNumber_59 rfl rfl ?_
      refine gf6_210 rfl rfl dX6_readNumber_60 ?_
      refine zR_if_ne (tgt := 73) dX6_readNumber_63 (by decide) (by omega) (fun h63 => ?_) (fun h63 => ?_)
      · obtain ⟨k9, e1, e2, e3⟩ : ∃ k9 : Int, (k9 = 1 ∨ k9 = 2) ∧ h1 = wrg h k9 ∧ numP T n lo hi p = .inl (k9, p) := by
          rcases hj with ⟨e, -⟩ | e
          · rw [e] at h63; exact absurd hb h63
          · exact e
        refine zV_iconst dX6_readNumber_73 ?_
        refine zV_istore_n dX6_readNumber_74 rfl (Nat.le_of_ble_eq_true rfl) rfl ?_
        refine zV_aload_nr dX6_readNumber_75 rfl rfl ?_
        refine gf6_210 rfl rfl dX6_readNumber_76 ?_
        refine zR_if_ne (tgt := 86) dX6_readNumber_79 (by decide) (by omega) (fun h79 => ?_) (fun h79 => ?_)
        · refine zV_iload_n dX6_readNumber_86 rfl rfl ?_
          exact zV_ireturn dX6_readNumber_87 rfl (Nat.zero_le _) (by rw [e3]; exact ⟨rfl, e2⟩)
        · exact absurd h79 h63
      · have e1 : h1 = h ∧ numP T n lo hi p = .inr (tV T n p, tB T n p) ∧ h 64 21 = tV T n p := by
          rcases hj with e | ⟨k9, e1, e, -⟩
          · exact e
          · rw [e, show wrg h k9 64 24 = k9 from rfl] at h63; omega
        obtain ⟨rfl, en, ev⟩ := e1
        refine zV_aload_nr dX6_readNumber_66 rfl rfl ?_
        refine gf6_194 rfl rfl dX6_readNumber_67 ?_
        refine zV_goto (tgt := 74) dX6_readNumber_70 (by decide) ?_
        refine zV_istore_n dX6_readNumber_74 rfl (Nat.le_of_ble_eq_true rfl) rfl ?_
        refine zV_aload_nr dX6_readNumber_75 rfl rfl ?_
        refine gf6_210 rfl rfl dX6_readNumber_76 ?_
        refine zR_if_ne (tgt := 86) dX6_readNumber_79 (by decide) (by omega) (fun h79 => ?_) (fun h79 => ?_)
        · exact absurd h63 h79
        · refine zV_aload_nr dX6_readNumber_82 rfl rfl ?_
          refine zV_callV (As := []) lk6_235 (rfl) rfl rfl (c6_stepOn (T := T) (n := n) (p := tB T n p) (d - 1) 0 (by omega) hk t3 tl.2.1) ⟨by show _ + 1 ≤ d; omega, by show _ ≤ k; omega⟩ rfl (Nat.le_of_ble_eq_true rfl) dX6_readNumber_83 (fun _ _ z => z.elim) (fun r h2 q => ?_)
          obtain ⟨rfl, st2, tk2⟩ := q
          refine zV_iload_n dX6_readNumber_86 rfl rfl ?_
          exact zV_ireturn dX6_readNumber_87 rfl (Nat.zero_le _) (by rw [en, ev]; exact ⟨rfl, st2, tk2⟩)
    refine zR_icmp_eq (tgt := 25) dX6_readNumber_14 (by decide) (by omega) (by decide) (fun h14 => ?_) (fun h14 => ?_)
    · have k22 := tQ_2.mp h14
      have n5 := t5 k22
      have nl := dgM_lo (T := T) (n := n) (n - tA T n p) (tA T n p) 0 (by decide)
      refine zV_aload_nr dX6_readNumber_25 rfl rfl ?_
      refine gf6_207 rfl rfl dX6_readNumber_26 ?_
      rw [t2]
      refine zV_aload_nr dX6_readNumber_29 rfl rfl ?_
      refine gf6_181 rfl rfl dX6_readNumber_30 ?_
      rw [t1]
      refine zV_isub dX6_readNumber_33 ?_
      refine zV_iconst dX6_readNumber_34 ?_
      refine zR_icmp_gt (tgt := 54) dX6_readNumber_35 (by decide) (by omega) (by decide) (fun h35 => ?_) (fun h35 => ?_)
      · refine zV_aload_nr dX6_readNumber_54 rfl rfl ?_
        refine zV_iconst dX6_readNumber_55 ?_
        refine zV_callV (As := [ziv 2]) lk6_231 (rfl) rfl rfl (c6_wrong (d - 1) 0 (by omega)) ⟨by show _ + 1 ≤ d; omega, by show _ ≤ k; omega⟩ rfl (Nat.le_of_ble_eq_true rfl) dX6_readNumber_56 (fun _ _ z => z.elim) (fun r h2 q => ?_)
        obtain ⟨rfl, hh⟩ := q
        rw [if_pos hb] at hh
        rw [hh]
        clear hh
        exact J59 _ (Or.inr ⟨2, Or.inr rfl, rfl, by unfold numP; rw [if_pos k22, if_neg (by omega)]⟩)
      · have nv := num_v k22 (by omega)
        rw [nv] at n5 nl
        refine zV_aload_nr dX6_readNumber_38 rfl rfl ?_
        refine gf6_194 rfl rfl dX6_readNumber_39 ?_
        refine zV_iload_n dX6_readNumber_42 rfl rfl ?_
        refine zR_icmp_lt (tgt := 54) dX6_readNumber_43 (by decide) (by omega) (by omega) (fun h43 => ?_) (fun h43 => ?_)
        · refine zV_aload_nr dX6_readNumber_54 rfl rfl ?_
          refine zV_iconst dX6_readNumber_55 ?_
          refine zV_callV (As := [ziv 2]) lk6_231 (rfl) rfl rfl (c6_wrong (d - 1) 0 (by omega)) ⟨by show _ + 1 ≤ d; omega, by show _ ≤ k; omega⟩ rfl (Nat.le_of_ble_eq_true rfl) dX6_readNumber_56 (fun _ _ z => z.elim) (fun r h2 q => ?_)
          obtain ⟨rfl, hh⟩ := q
          rw [if_pos hb] at hh
          rw [hh]
          clear hh
          exact J59 _ (Or.inr ⟨2, Or.inr rfl, rfl, by unfold numP; rw [if_pos k22, if_neg (by omega)]⟩)
        · refine zV_aload_nr dX6_readNumber_46 rfl rfl ?_
          refine gf6_194 rfl rfl dX6_readNumber_47 ?_
          refine zV_iload_n dX6_readNumber_50 rfl rfl ?_
          refine zR_icmp_le (tgt := 59) dX6_readNumber_51 (by decide) (by omega) (by omega) (fun h51 => ?_) (fun h51 => ?_)
          · exact J59 _ (Or.inl ⟨rfl, by unfold numP; rw [if_pos k22, if_pos (by omega)], n5⟩)
          · refine zV_aload_nr dX6_readNumber_54 rfl rfl ?_
            refine zV_iconst dX6_readNumber_55 ?_
            refine zV_callV (As := [ziv 2]) lk6_231 (rfl) rfl rfl (c6_wrong (d - 1) 0 (by omega)) ⟨by show _ + 1 ≤ d; omega, by show _ ≤ k; omega⟩ rfl (Nat.le_of_ble_eq_true rfl) dX6_readNumber_56 (fun _ _ z => z.elim) (fun r h2 q => ?_)
            obtain ⟨rfl, hh⟩ := q
            rw [if_pos hb] at hh
            rw [hh]
            clear hh
            exact J59 _ (Or.inr ⟨2, Or.inr rfl, rfl, by unfold numP; rw [if_pos k22, if_neg (by omega)]⟩)
    · have k22 : ¬ tK T n p = 2 := fun z => h14 (tQ_2.mpr z)
      refine zV_aload_nr dX6_readNumber_17 rfl rfl ?_
      refine zV_iconst dX6_readNumber_18 ?_
      refine zV_callV (As := [ziv 1]) lk6_231 (rfl) rfl rfl (c6_wrong (d - 1) 0 (by omega)) ⟨by show _ + 1 ≤ d; omega, by show _ ≤ k; omega⟩ rfl (Nat.le_of_ble_eq_true rfl) dX6_readNumber_19 (fun _ _ z => z.elim) (fun r h2 q => ?_)
      obtain ⟨rfl, hh⟩ := q
      rw [if_pos hb] at hh
      rw [hh]
      clear hh
      refine zV_goto (tgt := 59) dX6_readNumber_22 (by decide) ?_
      exact J59 _ (Or.inr ⟨1, Or.inl rfl, rfl, by unfold numP; rw [if_neg k22]⟩)
  · exact absurd hb h4
set_option maxRecDepth 100000 in
theorem c6_readNumberB {E : zE} {h : zH} {lo hi : Int} (d k : Nat) (hb : h 64 24 ≠ 0) (hbd : 0 ≤ h 64 24 ∧ h 64 24 ≤ 5) : zCal E mX6_readNumber d k [zrv E 64, ziv lo, ziv hi] h (fun r h' => r = some (ziv 0) ∧ h' = h) (fun _ _ => False) := by
  refine zCal_of (by decide) (Nat.le_of_ble_eq_true rfl) (fun a => ?_)
  show zV _ 0 0 [zrv E 64, ziv lo, ziv hi, .null] [] _
  refine zV_aload_nr dX6_readNumber_0 rfl rfl ?_
  refine gf6_210 rfl rfl dX6_readNumber_1 ?_
  refine zR_if_eq (tgt := 9) dX6_readNumber_4 (by decide) (by omega) (fun h4 => ?_) (fun h4 => ?_)
  · exact absurd h4 hb
  · refine zV_iconst dX6_readNumber_7 ?_
    exact zV_ireturn dX6_readNumber_8 rfl (Nat.zero_le _) ⟨rfl, rfl⟩
set_option maxRecDepth 100000 in
theorem c6_lay0 {E : zE} {h : zH} {x : Int} {c : Nat} (d k : Nat) (hb : h 64 24 = 0) (h27 : h 64 27 = 0) (hc : h 68 8 = (c : Int)) (hc7 : c < 700) : zCal E mX6_lay d k [zrv E 64, ziv x] h (fun r h' => r = none ∧ h' = zup (zup h 75 (700 + c) x) 68 8 ((c : Int) + 1)) (fun _ _ => False) := by
  refine zCal_of (by decide) (Nat.le_of_ble_eq_true rfl) (fun a => ?_)
  show zV _ 0 0 [zrv E 64, ziv x, .null, .null] [] _
  refine zV_aload_nr dX6_lay_0 rfl rfl ?_
  refine gf6_210 rfl rfl dX6_lay_1 ?_
  refine zR_if_eq (tgt := 8) dX6_lay_4 (by decide) (by omega) (fun h4 => ?_) (fun h4 => ?_)
  · refine zV_iconst dX6_lay_8 ?_
    refine zV_aload_nr dX6_lay_9 rfl rfl ?_
    refine gf6_238 rfl rfl dX6_lay_10 ?_
    refine zR_if_eq (tgt := 20) dX6_lay_13 (by decide) (by rw [h27]; decide) (fun h13 => ?_) (fun h13 => ?_)
    · refine zV_iconst dX6_lay_20 ?_
      refine zV_iadd dX6_lay_21 ?_
      refine zV_istore_n dX6_lay_22 rfl (Nat.le_of_ble_eq_true rfl) rfl ?_
      refine zV_aload_nr dX6_lay_23 rfl rfl ?_
      refine gf6_238 rfl rfl dX6_lay_24 ?_
      refine zR_if_eq (tgt := 37) dX6_lay_27 (by decide) (by rw [h27]; decide) (fun h27_ => ?_) (fun h27_ => ?_)
      · refine zV_aload_nr dX6_lay_37 rfl rfl ?_
        refine gf6_64 rfl (rfl) dX6_lay_38 ?_
        refine zV_teq (w := zrv E 75) rfl ?_
        refine zV_astore_nr dX6_lay_41 rfl (Nat.le_of_ble_eq_true rfl) rfl ?_
        refine zV_aload_nr dX6_lay_42 rfl rfl ?_
        refine zV_sipush dX6_lay_43 (by decide) ?_
        refine zV_aload_nr dX6_lay_46 rfl rfl ?_
        refine gf6_42 rfl (rfl) dX6_lay_47 ?_
        refine zV_teq (w := zrv E 68) rfl ?_
        refine zV_iload_n dX6_lay_50 rfl rfl ?_
        refine zV_ialoadN (i := 8) (N := 10) (rfl) (by decide) (by decide) dX6_lay_51 ?_
        refine zV_teq (w := ziv (c : Int)) (congrArg ziv hc.symm) ?_
        refine zV_iadd dX6_lay_52 ?_
        refine zV_teq (w := ziv ((700 + c : Nat) : Int)) (congrArg ziv (by omega)) ?_
        refine zV_iload_n dX6_lay_53 rfl rfl ?_
        refine zV_iastoreN (i := (700 + c)) (N := 1400) (rfl) (by omega) (by decide) dX6_lay_54 ?_
        refine zV_aload_nr dX6_lay_55 rfl rfl ?_
        refine gf6_42 rfl (rfl) dX6_lay_56 ?_
        refine zV_teq (w := zrv E 68) rfl ?_
        refine zV_iload_n dX6_lay_59 rfl rfl ?_
        refine zV_dup2 dX6_lay_60 rfl rfl ?_
        refine zV_ialoadN (i := 8) (N := 10) (rfl) (by decide) (by decide) dX6_lay_61 ?_
        refine zV_teq (w := ziv (c : Int)) (congrArg ziv (by rw [zup_fn (by decide)]; exact hc.symm)) ?_
        refine zV_iconst dX6_lay_62 ?_
        refine zV_iadd dX6_lay_63 ?_
        refine zV_iastoreN (i := 8) (N := 10) (rfl) (by decide) (by decide) dX6_lay_64 ?_
        exact zV_vreturn dX6_lay_65 rfl (Nat.zero_le _) ⟨rfl, rfl⟩
      · exact absurd h27_ (by rw [h27]; decide)
    · exact absurd h13 (by rw [h27]; decide)
  · exact absurd hb h4
set_option maxRecDepth 100000 in
theorem c6_lay1 {E : zE} {h : zH} {x : Int} {c : Nat} (d k : Nat) (hb : h 64 24 = 0) (h27 : h 64 27 = 1) (hc : h 68 9 = (c : Int)) (hc7 : c < 700) : zCal E mX6_lay d k [zrv E 64, ziv x] h (fun r h' => r = none ∧ h' = zup (zup h 76 (700 + c) x) 68 9 ((c : Int) + 1)) (fun _ _ => False) := by
  refine zCal_of (by decide) (Nat.le_of_ble_eq_true rfl) (fun a => ?_)
  show zV _ 0 0 [zrv E 64, ziv x, .null, .null] [] _
  refine zV_aload_nr dX6_lay_0 rfl rfl ?_
  refine gf6_210 rfl rfl dX6_lay_1 ?_
  refine zR_if_eq (tgt := 8) dX6_lay_4 (by decide) (by omega) (fun h4 => ?_) (fun h4 => ?_)
  · refine zV_iconst dX6_lay_8 ?_
    refine zV_aload_nr dX6_lay_9 rfl rfl ?_
    refine gf6_238 rfl rfl dX6_lay_10 ?_
    refine zR_if_eq (tgt := 20) dX6_lay_13 (by decide) (by rw [h27]; decide) (fun h13 => ?_) (fun h13 => ?_)
    · exact absurd h13 (by rw [h27]; decide)
    · refine zV_iconst dX6_lay_16 ?_
      refine zV_goto (tgt := 21) dX6_lay_17 (by decide) ?_
      refine zV_iadd dX6_lay_21 ?_
      refine zV_istore_n dX6_lay_22 rfl (Nat.le_of_ble_eq_true rfl) rfl ?_
      refine zV_aload_nr dX6_lay_23 rfl rfl ?_
      refine gf6_238 rfl rfl dX6_lay_24 ?_
      refine zR_if_eq (tgt := 37) dX6_lay_27 (by decide) (by rw [h27]; decide) (fun h27_ => ?_) (fun h27_ => ?_)
      · exact absurd h27_ (by rw [h27]; decide)
      · refine zV_aload_nr dX6_lay_30 rfl rfl ?_
        refine gf6_67 rfl (rfl) dX6_lay_31 ?_
        refine zV_teq (w := zrv E 76) rfl ?_
        refine zV_goto (tgt := 41) dX6_lay_34 (by decide) ?_
        refine zV_astore_nr dX6_lay_41 rfl (Nat.le_of_ble_eq_true rfl) rfl ?_
        refine zV_aload_nr dX6_lay_42 rfl rfl ?_
        refine zV_sipush dX6_lay_43 (by decide) ?_
        refine zV_aload_nr dX6_lay_46 rfl rfl ?_
        refine gf6_42 rfl (rfl) dX6_lay_47 ?_
        refine zV_teq (w := zrv E 68) rfl ?_
        refine zV_iload_n dX6_lay_50 rfl rfl ?_
        refine zV_ialoadN (i := 9) (N := 10) (rfl) (by decide) (by decide) dX6_lay_51 ?_
        refine zV_teq (w := ziv (c : Int)) (congrArg ziv hc.symm) ?_
        refine zV_iadd dX6_lay_52 ?_
        refine zV_teq (w := ziv ((700 + c : Nat) : Int)) (congrArg ziv (by omega)) ?_
        refine zV_iload_n dX6_lay_53 rfl rfl ?_
        refine zV_iastoreN (i := (700 + c)) (N := 1400) (rfl) (by omega) (by decide) dX6_lay_54 ?_
        refine zV_aload_nr dX6_lay_55 rfl rfl ?_
        refine gf6_42 rfl (rfl) dX6_lay_56 ?_
        refine zV_teq (w := zrv E 68) rfl ?_
        refine zV_iload_n dX6_lay_59 rfl rfl ?_
        refine zV_dup2 dX6_lay_60 rfl rfl ?_
        refine zV_ialoadN (i := 9) (N := 10) (rfl) (by decide) (by decide) dX6_lay_61 ?_
        refine zV_teq (w := ziv (c : Int)) (congrArg ziv (by rw [zup_fn (by decide)]; exact hc.symm)) ?_
        refine zV_iconst dX6_lay_62 ?_
        refine zV_iadd dX6_lay_63 ?_
        refine zV_iastoreN (i := 9) (N := 10) (rfl) (by decide) (by decide) dX6_lay_64 ?_
        exact zV_vreturn dX6_lay_65 rfl (Nat.zero_le _) ⟨rfl, rfl⟩
  · exact absurd hb h4
set_option maxRecDepth 100000 in
theorem c6_layB {E : zE} {h : zH} {x : Int} (d k : Nat) (hb : h 64 24 ≠ 0) (hbd : 0 ≤ h 64 24 ∧ h 64 24 ≤ 5) : zCal E mX6_lay d k [zrv E 64, ziv x] h (fun r h' => r = none ∧ h' = h) (fun _ _ => False) := by
  refine zCal_of (by decide) (Nat.le_of_ble_eq_true rfl) (fun a => ?_)
  show zV _ 0 0 [zrv E 64, ziv x, .null, .null] [] _
  refine zV_aload_nr dX6_lay_0 rfl rfl ?_
  refine gf6_210 rfl rfl dX6_lay_1 ?_
  refine zR_if_eq (tgt := 8) dX6_lay_4 (by decide) (by omega) (fun h4 => ?_) (fun h4 => ?_)
  · exact absurd h4 hb
  · exact zV_vreturn dX6_lay_7 rfl (Nat.zero_le _) ⟨rfl, rfl⟩
