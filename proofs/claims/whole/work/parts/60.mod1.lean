/-! THE REFERENCE: small things -/
section
variable {C : zC} {n pc : Nat} {lv st : List Value} {h : zH}
def cmpS (x y : Int) : Int := if y < x then 1 else if x = y then 0 else -1
theorem z64 {x : Int} (h1 : -4294967296 ≤ x) (h2 : x ≤ 4294967296) : (Int64.ofInt x).toInt = x := by
  rw [Int64.toInt_ofInt]; exact Int.bmod_eq_of_le (by simp only [Int64.size]; omega) (by simp only [Int64.size]; omega)
theorem zV_lcmp {x y : Int} (hd : decode (ccc C) pc = .ok (.lcmp, 1)) (hx : -4294967296 ≤ x ∧ x ≤ 4294967296) (hy : -4294967296 ≤ y ∧ y ≤ 4294967296) (k : zV C n (pc + 1) lv (ziv (cmpS x y) :: st) h) : zV C n pc lv (zlv y :: zlv x :: st) h := fun ok H locs ls hP hS hl => by
  refine W.lcmp ok.1 ok.2.1 hd ?_
  have e : lg_cmp (Int64.ofInt x) (Int64.ofInt y) = Int32.ofInt (cmpS x y) := by
    have ex := z64 hx.1 hx.2
    have ey := z64 hy.1 hy.2
    unfold lg_cmp cmpS
    by_cases h1 : y < x
    · have : Int64.ofInt y < Int64.ofInt x := by rw [Int64.lt_iff_toInt_lt, ex, ey]; exact h1
      rw [if_pos this, if_pos h1]; rfl
    · have n1 : ¬ Int64.ofInt y < Int64.ofInt x := by rw [Int64.lt_iff_toInt_lt, ex, ey]; exact h1
      rw [if_neg n1, if_neg h1]
      by_cases h2 : x = y
      · rw [if_pos h2, if_pos (by rw [h2])]; rfl
      · rw [if_neg h2, if_neg (fun z => h2 (by rw [← ex, ← ey, z]))]; rfl
  rw [e]
  exact k ok H locs ls hP hS hl
end
theorem ipT {P : Prop} [Decidable P] (h : (if P then (1 : Int) else 0) ≠ 0) : P := Decidable.byContradiction fun z => h (if_neg z)
theorem ipF {P : Prop} [Decidable P] (h : (if P then (1 : Int) else 0) = 0) : ¬ P := fun z => by rw [if_pos z] at h; exact absurd h (by decide)
theorem ip01 {P : Prop} [Decidable P] : (if P then (1 : Int) else 0) = 0 ∨ (if P then (1 : Int) else 0) = 1 := by split; exact Or.inr rfl; exact Or.inl rfl
theorem tm_neg {x y : Int} (hy : 0 < y) (h : x.tmod y < 0) : x.tmod y + y = x % y := by
  have h1 := Int.emod_nonneg x (show y ≠ 0 by omega)
  have h2 := Int.emod_lt_of_pos x hy
  rw [Int.tmod_eq_emod] at h ⊢
  split at h
  · omega
  · rename_i h3
    rw [if_neg h3]
    omega
theorem tm_pos {x y : Int} (hy : 0 < y) (h : ¬ x.tmod y < 0) : x.tmod y = x % y := by
  have h1 := Int.emod_nonneg x (show y ≠ 0 by omega)
  have h2 := Int.emod_lt_of_pos x hy
  rw [Int.tmod_eq_emod] at h ⊢
  split at h
  · rename_i h3
    rw [if_pos h3]; omega
  · omega
theorem tm_r {x y : Int} (hy : 0 < y) (hy2 : y ≤ 1000) : -1000 ≤ x.tmod y ∧ x.tmod y ≤ 1000 := by
  have h1 := Int.emod_nonneg x (show y ≠ 0 by omega)
  have h2 := Int.emod_lt_of_pos x hy
  rw [Int.tmod_eq_emod]
  split <;> omega
/-- bits, counted one by one -/
def bitM : Nat → Nat → Int
  | 0, _ => 0
  | k + 1, x => if x = 0 then 0 else bitM k (x &&& (x - 1)) + 1
theorem bitM_s (k x : Nat) : bitM (k + 1) x = if x = 0 then 0 else bitM k (x &&& (x - 1)) + 1 := rfl
theorem bit_and : ∀ x : Nat, x < 256 → zand (x : Int) ((x : Int) - 1) = ((x &&& (x - 1) : Nat) : Int) := by decide +kernel
theorem bit_fu : ∀ x, x < 256 → bitM 9 x = bitC (x : Int) ∧ (x ≠ 0 → (x &&& (x - 1)) < x) := by decide +kernel
theorem bitM_fu : ∀ x, x < 256 → ∀ k, k < 9 → x = 0 ∨ (bitM (k + 1) x = bitM k (x &&& (x - 1)) + 1) := by
  intro x _ k _
  by_cases e : x = 0
  · exact Or.inl e
  · right; rw [bitM_s, if_neg e]
theorem bit_8 : ∀ x, x < 256 → bitM 8 (x &&& (x - 1)) = bitM 9 (x &&& (x - 1)) := by decide +kernel
theorem bitC_256 : ∀ x : Nat, x < 256 → 0 ≤ bitC (x : Int) ∧ bitC (x : Int) ≤ 8 := by decide +kernel
theorem bitC_st {x : Nat} (hx : x < 256) (h0 : x ≠ 0) : bitC (x : Int) = bitC ((x &&& (x - 1) : Nat) : Int) + 1 := by
  have h1 := bit_fu x hx
  have h2 := bit_fu (x &&& (x - 1)) (by have := h1.2 h0; omega)
  rw [← h1.1, bitM_s, if_neg h0, bit_8 x hx, h2.1]

theorem kl6_164 : Cond.constantLong RX6 164 (Int64.ofInt (4)) ∈ zTs := zTs_of (by decide +kernel) (by decide +kernel)
theorem kl6_166 : Cond.constantLong RX6 166 (Int64.ofInt (11)) ∈ zTs := zTs_of (by decide +kernel) (by decide +kernel)
theorem kl6_397 : Cond.constantLong RX6 397 (Int64.ofInt (20)) ∈ zTs := zTs_of (by decide +kernel) (by decide +kernel)
theorem kl6_415 : Cond.constantLong RX6 415 (Int64.ofInt (12)) ∈ zTs := zTs_of (by decide +kernel) (by decide +kernel)
theorem kl6_417 : Cond.constantLong RX6 417 (Int64.ofInt (99)) ∈ zTs := zTs_of (by decide +kernel) (by decide +kernel)
theorem kl6_419 : Cond.constantLong RX6 419 (Int64.ofInt (60)) ∈ zTs := zTs_of (by decide +kernel) (by decide +kernel)
theorem kl6_453 : Cond.constantLong RX6 453 (Int64.ofInt (-1)) ∈ zTs := zTs_of (by decide +kernel) (by decide +kernel)
theorem kl6_468 : Cond.constantLong RX6 468 (Int64.ofInt (2)) ∈ zTs := zTs_of (by decide +kernel) (by decide +kernel)
theorem propext_ite {P Q : Prop} [Decidable P] [Decidable Q] (h : P ↔ Q) : (if P then (1 : Int) else 0) = if Q then 1 else 0 := by
  by_cases z : P
  · rw [if_pos z, if_pos (h.mp z)]
  · rw [if_neg z, if_neg (fun q => z (h.mpr q))]
set_option maxRecDepth 100000 in
theorem c6_isIn {E : zE} {h : zH} {x y z : Int} (d k : Nat) (hx : -4294967296 ≤ x ∧ x ≤ 4294967296) (hy : -4294967296 ≤ y ∧ y ≤ 4294967296) (hz : -4294967296 ≤ z ∧ z ≤ 4294967296) : zCal E mX6_isIn d k [zlv x, zlv y, zlv z] h (fun r h' => r = some (ziv (if y ≤ x ∧ x ≤ z then 1 else 0)) ∧ h' = h) (fun _ _ => False) := by
  refine zCal_of (by decide) (Nat.le_of_ble_eq_true rfl) (fun a => ?_)
  show zV _ 0 0 [zlv x, .null, zlv y, .null, zlv z, .null] [] _
  refine zV_lload_n dX6_isIn_0 rfl rfl ?_
  refine zV_lload_n dX6_isIn_1 rfl rfl ?_
  refine zV_lcmp dX6_isIn_2 hx hy ?_
  refine zR_if_lt (tgt := 17) dX6_isIn_3 (by decide) (by unfold cmpS; (repeat' split) <;> omega) (fun h3 => ?_) (fun h3 => ?_)
  · have g3 : ¬ y ≤ x := fun z => by
      unfold cmpS at h3; split at h3
      · omega
      · split at h3 <;> omega
    refine zV_iconst dX6_isIn_17 ?_
    exact zV_zreturn dX6_isIn_18 rfl (by simp) (Nat.zero_le _) ⟨by rw [if_neg (fun z => g3 z.1)], rfl⟩
  · have g3 : y ≤ x := Decidable.byContradiction fun z => h3 (by unfold cmpS; rw [if_neg (by omega), if_neg (by omega)]; decide)
    refine zV_lload_n dX6_isIn_6 rfl rfl ?_
    refine zV_lload dX6_isIn_7 rfl ?_
    refine zV_lcmp dX6_isIn_9 hx hz ?_
    refine zR_if_gt (tgt := 17) dX6_isIn_10 (by decide) (by unfold cmpS; (repeat' split) <;> omega) (fun h10 => ?_) (fun h10 => ?_)
    · have g10 : ¬ x ≤ z := fun z => by
        unfold cmpS at h10; split at h10
        · omega
        · split at h10 <;> omega
      refine zV_iconst dX6_isIn_17 ?_
      exact zV_zreturn dX6_isIn_18 rfl (by simp) (Nat.zero_le _) ⟨by rw [if_neg (fun z => g10 z.2)], rfl⟩
    · have g10 : x ≤ z := Decidable.byContradiction fun z => h10 (by unfold cmpS; rw [if_pos (by omega)]; decide)
      refine zV_iconst dX6_isIn_13 ?_
      refine zV_goto (tgt := 18) dX6_isIn_14 (by decide) ?_
      exact zV_zreturn dX6_isIn_18 rfl (by simp) (Nat.zero_le _) ⟨by rw [if_pos ⟨g3, g10⟩], rfl⟩
set_option maxRecDepth 100000 in
theorem c6_isOf {E : zE} {h : zH} {x y : Int} (d k : Nat) : zCal E mX6_isOf d k [ziv x, ziv y] h (fun r h' => r = some (ziv (if zand (zshr x y) 1 = 1 then 1 else 0)) ∧ h' = h) (fun _ _ => False) := by
  refine zCal_of (by decide) (Nat.le_of_ble_eq_true rfl) (fun a => ?_)
  show zV _ 0 0 [ziv x, ziv y] [] _
  refine zV_iload_n dX6_isOf_0 rfl rfl ?_
  refine zV_iload_n dX6_isOf_1 rfl rfl ?_
  refine zV_ishr dX6_isOf_2 ?_
  refine zV_iconst dX6_isOf_3 ?_
  refine zV_iand dX6_isOf_4 ?_
  refine zV_iconst dX6_isOf_5 ?_
  have za := zand_r (zshr x y) 1
  refine zR_icmp_ne (tgt := 13) dX6_isOf_6 (by decide) (by omega) (by omega) (fun h6 => ?_) (fun h6 => ?_)
  · refine zV_iconst dX6_isOf_13 ?_
    exact zV_zreturn dX6_isOf_14 rfl (by simp) (Nat.zero_le _) ⟨by rw [if_neg h6], rfl⟩
  · refine zV_iconst dX6_isOf_9 ?_
    refine zV_goto (tgt := 14) dX6_isOf_10 (by decide) ?_
    exact zV_zreturn dX6_isOf_14 rfl (by simp) (Nat.zero_le _) ⟨by rw [if_pos h6], rfl⟩
set_option maxRecDepth 100000 in
theorem c6_bitsOf {E : zE} {h : zH} {x : Nat} (d k : Nat) (hx : x < 256) : zCal E mX6_bitsOf d k [ziv (x : Int)] h (fun r h' => r = some (ziv (bitC (x : Int))) ∧ h' = h) (fun _ _ => False) := by
  refine zCal_of (by decide) (Nat.le_of_ble_eq_true rfl) (fun a => ?_)
  show zV _ 0 0 [ziv (x : Int), .null, .null] [] _
  have bx := bitC_256 x hx
  refine zV_iconst dX6_bitsOf_0 ?_
  refine zV_istore_n dX6_bitsOf_1 rfl (Nat.le_of_ble_eq_true rfl) rfl ?_
  refine zV_iload_n dX6_bitsOf_2 rfl rfl ?_
  refine zV_istore_n dX6_bitsOf_3 rfl (Nat.le_of_ble_eq_true rfl) rfl ?_
  have L4 : ∀ (m : Nat) (c : Int) (v : Nat), (v + 1 ≤ m) → (v < 256) → (c + bitC (v : Int) = bitC (x : Int)) → zV (E, mX6_bitsOf, d, k, (fun r h' => r = some (ziv (bitC (x : Int))) ∧ h' = h), (fun _ _ => False), a) 0 4 [ziv (x : Int), ziv c, ziv (v : Int)] [] h := by
    intro m
    induction m with
    | zero => intro c v hm_ hv hc; exfalso; omega
    | succ m ih =>
      intro c v hm_ hv hc
      refine zV_iload_n dX6_bitsOf_4 rfl rfl ?_
      refine zR_if_eq (tgt := 20) dX6_bitsOf_5 (by decide) (by omega) (fun h5 => ?_) (fun h5 => ?_)
      · refine zV_iload_n dX6_bitsOf_20 rfl rfl ?_
        exact zV_ireturn dX6_bitsOf_21 rfl (Nat.zero_le _) ⟨by rw [← hc, show v = 0 by omega]; congr 2; show c = c + 0; omega, rfl⟩
      · refine zV_iinc dX6_bitsOf_8 rfl (Nat.le_of_ble_eq_true rfl) rfl ?_
        refine zV_iload_n dX6_bitsOf_11 rfl rfl ?_
        refine zV_iload_n dX6_bitsOf_12 rfl rfl ?_
        refine zV_iconst dX6_bitsOf_13 ?_
        refine zV_isub dX6_bitsOf_14 ?_
        refine zV_iand dX6_bitsOf_15 ?_
        refine zV_istore_n dX6_bitsOf_16 rfl (Nat.le_of_ble_eq_true rfl) rfl ?_
        refine zV_goto (tgt := 4) dX6_bitsOf_17 (by decide) ?_
        rw [bit_and v hv]
        have b1 := (bit_fu v hv).2 (by omega)
        exact ih (c + 1) (v &&& (v - 1)) (by omega) (by omega) (by rw [← hc, bitC_st hv (by omega)]; omega)
  exact L4 (x + 1) 0 x (by omega) hx (by omega)
set_option maxRecDepth 100000 in
theorem c6_ringOf {E : zE} {h : zH} {x y : Int} (d k : Nat) (hx : -2147483648 ≤ x ∧ x ≤ 2147483647) (hy : 0 < y ∧ y ≤ 1000) : zCal E mX6_ringOf d k [ziv x, ziv y] h (fun r h' => r = some (ziv (x % y)) ∧ h' = h) (fun _ _ => False) := by
  refine zCal_of (by decide) (Nat.le_of_ble_eq_true rfl) (fun a => ?_)
  show zV _ 0 0 [ziv x, ziv y, .null] [] _
  refine zV_iload_n dX6_ringOf_0 rfl rfl ?_
  refine zV_iload_n dX6_ringOf_1 rfl rfl ?_
  refine zV_irem dX6_ringOf_2 (by rw [zn_of (by omega) (by omega)]; omega) ?_
  rw [zrem_eq hx ⟨hy.1, by omega⟩]
  have tr := tm_r (x := x) hy.1 hy.2
  refine zV_istore_n dX6_ringOf_3 rfl (Nat.le_of_ble_eq_true rfl) rfl ?_
  refine zV_iload_n dX6_ringOf_4 rfl rfl ?_
  refine zR_if_ge (tgt := 14) dX6_ringOf_5 (by decide) (by omega) (fun h5 => ?_) (fun h5 => ?_)
  · refine zV_iload_n dX6_ringOf_14 rfl rfl ?_
    exact zV_ireturn dX6_ringOf_15 rfl (Nat.zero_le _) ⟨by rw [tm_pos hy.1 (by omega)], rfl⟩
  · refine zV_iload_n dX6_ringOf_8 rfl rfl ?_
    refine zV_iload_n dX6_ringOf_9 rfl rfl ?_
    refine zV_iadd dX6_ringOf_10 ?_
    refine zV_goto (tgt := 15) dX6_ringOf_11 (by decide) ?_
    exact zV_ireturn dX6_ringOf_15 rfl (Nat.zero_le _) ⟨by rw [tm_neg hy.1 (by omega)], rfl⟩
set_option maxRecDepth 100000 in
theorem c6_isLeaf {E : zE} {h : zH} {x : Int} {n jn : Nat} (d k : Nat) (hd : 1 ≤ d) (hx : -2147483648 ≤ x ∧ x ≤ 2147483647) (h0 : h 68 0 = (n : Int)) (hn : n ≤ 8) : zCal E mX6_isLeaf d k [zrv E 64, ziv x] h (fun r h' => r = some (ziv (if 0 ≤ x ∧ x < n then 1 else 0)) ∧ h' = h) (fun _ _ => False) := by
  refine zCal_of (by decide) (Nat.le_of_ble_eq_true rfl) (fun a => ?_)
  show zV _ 0 0 [zrv E 64, ziv x] [] _
  refine zV_iload_n dX6_isLeaf_0 rfl rfl ?_
  refine zV_i2l dX6_isLeaf_1 (by omega) ?_
  refine zV_lconst dX6_isLeaf_2 ?_
  refine zV_aload_nr dX6_isLeaf_3 rfl rfl ?_
  refine gf6_42 rfl (rfl) dX6_isLeaf_4 ?_
  refine zV_teq (w := zrv E 68) rfl ?_
  refine zV_iconst dX6_isLeaf_7 ?_
  refine zV_ialoadN (i := 0) (N := 10) (rfl) (by decide) (by decide) dX6_isLeaf_8 ?_
  rw [h0]
  refine zV_iconst dX6_isLeaf_9 ?_
  refine zV_isub dX6_isLeaf_10 ?_
  refine zV_i2l dX6_isLeaf_11 (by omega) ?_
  refine zV_callS (As := [zlv x, zlv ((0 : Nat) : Int), zlv ((n : Int) - 1)]) lk6_160 (c6_isIn (d - 1) 0 (by omega) (by omega) (by omega)) ⟨by show _ + 1 ≤ d; omega, by show _ ≤ k; omega⟩ rfl (Nat.le_of_ble_eq_true rfl) dX6_isLeaf_12 (fun _ _ z => z.elim) (fun r h9 q => ?_)
  obtain ⟨rfl, rfl⟩ := q
  exact zV_zreturn dX6_isLeaf_15 rfl ip01 (Nat.zero_le _) ⟨by congr 2; apply propext_ite; omega, rfl⟩
set_option maxRecDepth 100000 in
theorem c6_isJudge {E : zE} {h : zH} {x : Int} {n jn : Nat} (d k : Nat) (hd : 1 ≤ d) (hx : -2147483648 ≤ x ∧ x ≤ 2147483647) (h0 : h 68 1 = (n : Int)) (hn : n ≤ 8) : zCal E mX6_isJudge d k [zrv E 64, ziv x] h (fun r h' => r = some (ziv (if 0 ≤ x ∧ x < n then 1 else 0)) ∧ h' = h) (fun _ _ => False) := by
  refine zCal_of (by decide) (Nat.le_of_ble_eq_true rfl) (fun a => ?_)
  show zV _ 0 0 [zrv E 64, ziv x] [] _
  refine zV_iload_n dX6_isJudge_0 rfl rfl ?_
  refine zV_i2l dX6_isJudge_1 (by omega) ?_
  refine zV_lconst dX6_isJudge_2 ?_
  refine zV_aload_nr dX6_isJudge_3 rfl rfl ?_
  refine gf6_42 rfl (rfl) dX6_isJudge_4 ?_
  refine zV_teq (w := zrv E 68) rfl ?_
  refine zV_iconst dX6_isJudge_7 ?_
  refine zV_ialoadN (i := 1) (N := 10) (rfl) (by decide) (by decide) dX6_isJudge_8 ?_
  rw [h0]
  refine zV_iconst dX6_isJudge_9 ?_
  refine zV_isub dX6_isJudge_10 ?_
  refine zV_i2l dX6_isJudge_11 (by omega) ?_
  refine zV_callS (As := [zlv x, zlv ((0 : Nat) : Int), zlv ((n : Int) - 1)]) lk6_160 (c6_isIn (d - 1) 0 (by omega) (by omega) (by omega)) ⟨by show _ + 1 ≤ d; omega, by show _ ≤ k; omega⟩ rfl (Nat.le_of_ble_eq_true rfl) dX6_isJudge_12 (fun _ _ z => z.elim) (fun r h9 q => ?_)
  obtain ⟨rfl, rfl⟩ := q
  exact zV_zreturn dX6_isJudge_15 rfl ip01 (Nat.zero_le _) ⟨by congr 2; apply propext_ite; omega, rfl⟩
set_option maxRecDepth 100000 in
theorem c6_isVerdict {E : zE} {h : zH} {x : Int} (d k : Nat) (hd : 1 ≤ d) (hx : -2147483648 ≤ x ∧ x ≤ 2147483647) : zCal E mX6_isVerdict d k [ziv x] h (fun r h' => r = some (ziv (if 0 ≤ x ∧ x < 5 then 1 else 0)) ∧ h' = h) (fun _ _ => False) := by
  refine zCal_of (by decide) (Nat.le_of_ble_eq_true rfl) (fun a => ?_)
  show zV _ 0 0 [ziv x] [] _
  refine zV_iload_n dX6_isVerdict_0 rfl rfl ?_
  refine zV_i2l dX6_isVerdict_1 (by omega) ?_
  refine zV_lconst dX6_isVerdict_2 ?_
  refine zV_ldc2 (v := 4) kl6_164 dX6_isVerdict_3 ?_
  refine zV_callS (As := [zlv x, zlv ((0 : Nat) : Int), zlv 4]) lk6_160 (c6_isIn (d - 1) 0 (by omega) (by omega) (by omega)) ⟨by show _ + 1 ≤ d; omega, by show _ ≤ k; omega⟩ rfl (Nat.le_of_ble_eq_true rfl) dX6_isVerdict_6 (fun _ _ z => z.elim) (fun r h9 q => ?_)
  obtain ⟨rfl, rfl⟩ := q
  exact zV_zreturn dX6_isVerdict_9 rfl ip01 (Nat.zero_le _) ⟨by congr 2; apply propext_ite; omega, rfl⟩
set_option maxRecDepth 100000 in
theorem c6_isPlace {E : zE} {h : zH} {x : Int} (d k : Nat) (hd : 1 ≤ d) (hx : -2147483648 ≤ x ∧ x ≤ 2147483647) : zCal E mX6_isPlace d k [ziv x] h (fun r h' => r = some (ziv (if 0 ≤ x ∧ x < 12 then 1 else 0)) ∧ h' = h) (fun _ _ => False) := by
  refine zCal_of (by decide) (Nat.le_of_ble_eq_true rfl) (fun a => ?_)
  show zV _ 0 0 [ziv x] [] _
  refine zV_iload_n dX6_isPlace_0 rfl rfl ?_
  refine zV_i2l dX6_isPlace_1 (by omega) ?_
  refine zV_lconst dX6_isPlace_2 ?_
  refine zV_ldc2 (v := 11) kl6_166 dX6_isPlace_3 ?_
  refine zV_callS (As := [zlv x, zlv ((0 : Nat) : Int), zlv 11]) lk6_160 (c6_isIn (d - 1) 0 (by omega) (by omega) (by omega)) ⟨by show _ + 1 ≤ d; omega, by show _ ≤ k; omega⟩ rfl (Nat.le_of_ble_eq_true rfl) dX6_isPlace_6 (fun _ _ z => z.elim) (fun r h9 q => ?_)
  obtain ⟨rfl, rfl⟩ := q
  exact zV_zreturn dX6_isPlace_9 rfl ip01 (Nat.zero_le _) ⟨by congr 2; apply propext_ite; omega, rfl⟩
set_option maxRecDepth 100000 in
theorem c6_thrown {E : zE} {h : zH} (d k : Nat) : zCal E mX6_thrown d k [zrv E 64] h (fun r h' => r = some (ziv (h 64 4)) ∧ h' = h) (fun _ _ => False) := by
  refine zCal_of (by decide) (Nat.le_of_ble_eq_true rfl) (fun a => ?_)
  show zV _ 0 0 [zrv E 64] [] _
  refine zV_aload_nr dX6_thrown_0 rfl rfl ?_
  refine gf6_157 rfl rfl dX6_thrown_1 ?_
  exact zV_ireturn dX6_thrown_4 rfl (Nat.zero_le _) ⟨rfl, rfl⟩
set_option maxRecDepth 100000 in
theorem c6_fail {E : zE} {h : zH} {x : Int} (d k : Nat) : zCal E mX6_fail d k [zrv E 64, ziv x] h (fun r h' => r = some (ziv 0) ∧ h' = zup h 64 4 x) (fun _ _ => False) := by
  refine zCal_of (by decide) (Nat.le_of_ble_eq_true rfl) (fun a => ?_)
  show zV _ 0 0 [zrv E 64, ziv x] [] _
  refine zV_aload_nr dX6_fail_0 rfl rfl ?_
  refine zV_iload_n dX6_fail_1 rfl rfl ?_
  refine pf6_157 rfl (rfl) dX6_fail_2 ?_
  refine zV_iconst dX6_fail_5 ?_
  exact zV_ireturn dX6_fail_6 rfl (Nat.zero_le _) ⟨rfl, rfl⟩
set_option maxRecDepth 100000 in
theorem c6_failing {E : zE} {h : zH} {x : Int} (d k : Nat) : zCal E mX6_failing d k [zrv E 64, ziv x] h (fun r h' => r = some (ziv 0) ∧ h' = zup h 64 4 x) (fun _ _ => False) := by
  refine zCal_of (by decide) (Nat.le_of_ble_eq_true rfl) (fun a => ?_)
  show zV _ 0 0 [zrv E 64, ziv x] [] _
  refine zV_aload_nr dX6_failing_0 rfl rfl ?_
  refine zV_iload_n dX6_failing_1 rfl rfl ?_
  refine pf6_157 rfl (rfl) dX6_failing_2 ?_
  refine zV_iconst dX6_failing_5 ?_
  exact zV_zreturn dX6_failing_6 rfl (Or.inl rfl) (Nat.zero_le _) ⟨rfl, rfl⟩
