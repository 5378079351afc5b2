/-! THE REFERENCE: a line -/
def b01 (b : Bool) (v : Int) : Int := if b = true then v else 0
def dnD (D : zDf) : Int := b01 D.2.2.2.1 1 + b01 (ruO D 0).isSome 2 + b01 (ruO D 1).isSome 4
def kxW (T : Nat → Int) (n p : Nat) : Int := if isW T n p wPot = true then 1 else if isW T n p wDrinks = true then 2 else if isW T n p wReads = true then 4 else 0
/-- already told -/
def rpt (D : zDf) (x : Int) : Prop := (x = 1 ∧ D.2.2.2.1 = true) ∨ (x = 2 ∧ (ruO D 0).isSome = true) ∨ (x = 4 ∧ (ruO D 1).isSome = true)
theorem dn_b : ∀ a b c : Bool, zand 0 (b01 a 1 + b01 b 2 + b01 c 4) = 0 ∧ (zand 1 (b01 a 1 + b01 b 2 + b01 c 4) = 0 ↔ ¬ a = true) ∧ (zand 2 (b01 a 1 + b01 b 2 + b01 c 4) = 0 ↔ ¬ b = true) ∧ (zand 4 (b01 a 1 + b01 b 2 + b01 c 4) = 0 ↔ ¬ c = true) ∧
    zor (b01 a 1 + b01 b 2 + b01 c 4) 0 = b01 a 1 + b01 b 2 + b01 c 4 ∧ zor (b01 a 1 + b01 b 2 + b01 c 4) 1 = b01 true 1 + b01 b 2 + b01 c 4 ∧ zor (b01 a 1 + b01 b 2 + b01 c 4) 2 = b01 a 1 + b01 true 2 + b01 c 4 ∧ zor (b01 a 1 + b01 b 2 + b01 c 4) 4 = b01 a 1 + b01 b 2 + b01 true 4 := by decide +kernel
theorem kx_lo (T : Nat → Int) (n p : Nat) : kxW T n p = 0 ∨ kxW T n p = 1 ∨ kxW T n p = 2 ∨ kxW T n p = 4 := by
  unfold kxW; split
  · omega
  · split
    · omega
    · split <;> omega
def lineS (T : Nat → Int) (n : Nat) (D : zDf) (p : Nat) : zRD := match lineP T n D p with
  | .inl e => .inl e
  | .inr (D2, q) => if isS T n q 59 = true then .inr (D2, tB T n q) else .inl (1, q)
theorem line_k {T : Nat → Int} {n p : Nat} {D : zDf} (h : kxW T n p ≠ 0) : (kxW T n p = 1 ∧ lineP T n D p = potP T n D p) ∨ (kxW T n p = 2 ∧ lineP T n D p = rulP T n D 0 p) ∨ (kxW T n p = 4 ∧ lineP T n D p = rulP T n D 1 p) := by
  have nx : ∀ a b : List Int, a ≠ b → isW T n p a = true → ¬ isW T n p b = true := fun a b e x y => e (isW_u x y)
  unfold kxW at h ⊢
  unfold lineP
  by_cases y1 : isW T n p wPot = true
  · refine Or.inl ⟨by rw [if_pos y1], ?_⟩
    rw [if_neg (nx wPot wLeaf (by decide) y1), if_neg (nx wPot wJudge (by decide) y1), if_neg (nx wPot wBarr (by decide) y1), if_pos y1]
  · rw [if_neg y1] at h ⊢
    by_cases y2 : isW T n p wDrinks = true
    · refine Or.inr (Or.inl ⟨by rw [if_pos y2], ?_⟩)
      rw [if_neg (nx wDrinks wLeaf (by decide) y2), if_neg (nx wDrinks wJudge (by decide) y2), if_neg (nx wDrinks wBarr (by decide) y2), if_neg y1, if_pos y2]
    · rw [if_neg y2] at h ⊢
      by_cases y3 : isW T n p wReads = true
      · refine Or.inr (Or.inr ⟨by rw [if_pos y3], ?_⟩)
        rw [if_neg (nx wReads wLeaf (by decide) y3), if_neg (nx wReads wJudge (by decide) y3), if_neg (nx wReads wBarr (by decide) y3), if_neg y1, if_neg y2, if_pos y3]
      · rw [if_neg y3] at h; exact absurd rfl h
theorem kx_b {T : Nat → Int} {n p : Nat} (h : kxW T n p ≠ 0) : ¬ isW T n p wJudge = true ∧ ¬ isW T n p wBarr = true ∧ ¬ isW T n p wLeaf = true := by
  have nx : ∀ a b : List Int, a ≠ b → isW T n p a = true → ¬ isW T n p b = true := fun a b e x y => e (isW_u x y)
  unfold kxW at h
  by_cases y1 : isW T n p wPot = true
  · exact ⟨nx wPot wJudge (by decide) y1, nx wPot wBarr (by decide) y1, nx wPot wLeaf (by decide) y1⟩
  · rw [if_neg y1] at h
    by_cases y2 : isW T n p wDrinks = true
    · exact ⟨nx wDrinks wJudge (by decide) y2, nx wDrinks wBarr (by decide) y2, nx wDrinks wLeaf (by decide) y2⟩
    · rw [if_neg y2] at h
      by_cases y3 : isW T n p wReads = true
      · exact ⟨nx wReads wJudge (by decide) y3, nx wReads wBarr (by decide) y3, nx wReads wLeaf (by decide) y3⟩
      · rw [if_neg y3] at h; exact absurd rfl h
theorem kx_n {T : Nat → Int} {n p : Nat} (h : kxW T n p = 0) : ¬ isW T n p wPot = true ∧ ¬ isW T n p wDrinks = true ∧ ¬ isW T n p wReads = true := by
  unfold kxW at h
  by_cases y1 : isW T n p wPot = true
  · rw [if_pos y1] at h; exact absurd h (by decide)
  · rw [if_neg y1] at h
    by_cases y2 : isW T n p wDrinks = true
    · rw [if_pos y2] at h; exact absurd h (by decide)
    · rw [if_neg y2] at h
      by_cases y3 : isW T n p wReads = true
      · rw [if_pos y3] at h; exact absurd h (by decide)
      · exact ⟨y1, y2, y3⟩
theorem line_r {T : Nat → Int} {n p : Nat} {D : zDf} (h : zand (kxW T n p) (dnD D) ≠ 0) : kxW T n p ≠ 0 ∧ lineP T n D p = .inl (5, p) := by
  have db := dn_b D.2.2.2.1 (ruO D 0).isSome (ruO D 1).isSome
  have h0 : kxW T n p ≠ 0 := fun z => h (by rw [z]; exact db.1)
  refine ⟨h0, ?_⟩
  unfold dnD at h
  rcases line_k (D := D) h0 with ⟨e, e2⟩ | ⟨e, e2⟩ | ⟨e, e2⟩
  · rw [e] at h
    rw [e2]; unfold potP; rw [if_pos (Decidable.not_not.mp (fun z => h (db.2.1.mpr z)))]
  · rw [e] at h
    rw [e2]; unfold rulP; rw [if_pos (Decidable.not_not.mp (fun z => h (db.2.2.1.mpr z)))]
  · rw [e] at h
    rw [e2]; unfold rulP; rw [if_pos (Decidable.not_not.mp (fun z => h (db.2.2.2.1.mpr z)))]
theorem dn_set (D : zDf) (x : List Int × Bool) : dnD (setR D 0 x) = b01 D.2.2.2.1 1 + b01 true 2 + b01 (ruO D 1).isSome 4 ∧ dnD (setR D 1 x) = b01 D.2.2.2.1 1 + b01 (ruO D 0).isSome 2 + b01 true 4 := ⟨rfl, rfl⟩
theorem line_dn {T : Nat → Int} {n p : Nat} {D D2 : zDf} {q : Nat} (h : lineP T n D p = .inr (D2, q)) : zor (dnD D) (kxW T n p) = dnD D2 := by
  have db := dn_b D.2.2.2.1 (ruO D 0).isSome (ruO D 1).isSome
  have db5 : zor (dnD D) 0 = dnD D := db.2.2.2.2.1
  by_cases h0 : kxW T n p = 0
  · rw [h0, db5]
    obtain ⟨z1, z2, z3⟩ := kx_n h0
    have hj : ∀ br : Int, judP T n D br p = .inr (D2, q) → dnD D = dnD D2 := by
      intro br h
      unfold judP at h
      split at h
      · cases h
      · cases e1 : numP T n 0 30 (tB T n p) with
        | inl e => rw [e1] at h; cases h
        | inr w =>
          rw [e1] at h
          replace h : bn2 (numP T n 0 12 w.2) (fun b q2 => bn2 (numP T n 0 4 q2) (fun c q3 => .inr ((D.1, D.2.1 ++ [(w.1, b, c, br)], D.2.2), q3))) = .inr (D2, q) := h
          cases e2 : numP T n 0 12 w.2 with
          | inl e => rw [e2] at h; cases h
          | inr w2 =>
            rw [e2] at h
            replace h : bn2 (numP T n 0 4 w2.2) (fun c q3 => .inr ((D.1, D.2.1 ++ [(w.1, w2.1, c, br)], D.2.2), q3)) = .inr (D2, q) := h
            cases e3 : numP T n 0 4 w2.2 with
            | inl e => rw [e3] at h; cases h
            | inr w3 => rw [e3] at h; cases h; rfl
    unfold lineP at h
    split at h
    · unfold leafP at h
      split at h
      · cases h
      · cases e1 : numP T n 0 11 (tB T n p) with
        | inl e => rw [e1] at h; cases h
        | inr w =>
          rw [e1] at h
          replace h : bn2 (numP T n 1 9 w.2) (fun b q2 => .inr ((D.1 ++ [(w.1, b)], D.2), q2)) = .inr (D2, q) := h
          cases e2 : numP T n 1 9 w.2 with
          | inl e => rw [e2] at h; cases h
          | inr w2 => rw [e2] at h; cases h; rfl
    · split at h
      · exact hj _ h
      · split at h
        · exact hj _ h
        · cases h
  · have hr : ∀ ru : Nat, rulP T n D ru p = .inr (D2, q) → ∃ x, D2 = setR D ru x := by
      intro ru h
      unfold rulP at h
      split at h
      · cases h
      · cases e1 : exprP T n (decide (ru = 0)) 6 (tB T n p) with
        | inl e => rw [e1] at h; cases h
        | inr w => rw [e1] at h; cases h; exact ⟨_, rfl⟩
    rcases line_k (D := D) h0 with ⟨e, e2⟩ | ⟨e, e2⟩ | ⟨e, e2⟩
    · rw [e2] at h
      unfold potP at h
      split at h
      · cases h
      · cases e1 : numP T n 0 99 (tB T n p) with
        | inl e => rw [e1] at h; cases h
        | inr w => rw [e1] at h; cases h; rw [e]; exact db.2.2.2.2.2.1
    · rw [e2] at h
      obtain ⟨x, rfl⟩ := hr 0 h
      rw [e, (dn_set D x).1]; exact db.2.2.2.2.2.2.1
    · rw [e2] at h
      obtain ⟨x, rfl⟩ := hr 1 h
      rw [e, (dn_set D x).2]; exact db.2.2.2.2.2.2.2
theorem c6_once {E : zE} {h : zH} {T : Nat → Int} {n p : Nat} {D : zDf} (d k : Nat) (hp : preL h T n D p) (hd : 51 ≤ d) (h0 : kxW T n p ≠ 0) (hz : zand (kxW T n p) (dnD D) = 0) : zCal E mX6_sayOnce d k [zrv E 64, ziv (kxW T n p)] h (fun r h' => r = none ∧ lnS h T n (lineP T n D p) h') (fun _ _ => False) := by
  have db := dn_b D.2.2.2.1 (ruO D 0).isSome (ruO D 1).isSome
  unfold dnD at hz
  rcases line_k (D := D) h0 with ⟨e, e2⟩ | ⟨e, e2⟩ | ⟨e, e2⟩
  · rw [e] at hz ⊢
    rw [e2]; exact c6_sayOnce1 hp (db.2.1.mp hz) (by omega)
  · rw [e] at hz ⊢
    rw [e2]; exact c6_sayOnce2 hp (db.2.2.1.mp hz) (by omega)
  · rw [e] at hz ⊢
    rw [e2]; exact c6_sayOnce4 hp (db.2.2.2.1.mp hz) (by omega)
def bW (j : Nat) : List Int := zstb.getD (28 + j) []
theorem bws : ∀ j, j < 2 → zstb[28 + j]? = some (bW j) := by decide
theorem b_v {T : Nat → Int} {n p : Nat} : ∃ v : Int, fstB (fun j => isW T n p (bW j)) 0 2 = v ∧ ((v = 0 ∧ isW T n p wJudge = true) ∨ (v = 1 ∧ isW T n p wBarr = true) ∨ (v = -1 ∧ ¬ isW T n p wJudge = true ∧ ¬ isW T n p wBarr = true)) := by
  have e0 : bW 0 = wJudge := rfl
  have e1 : bW 1 = wBarr := rfl
  refine ⟨_, rfl, ?_⟩
  simp only [fstB, e0, e1, Nat.zero_add, Nat.reduceAdd]
  by_cases y0 : isW T n p wJudge = true
  · rw [if_pos y0]; exact Or.inl ⟨rfl, y0⟩
  · rw [if_neg y0]
    by_cases y1 : isW T n p wBarr = true
    · rw [if_pos y1]; exact Or.inr (Or.inl ⟨rfl, y1⟩)
    · rw [if_neg y1]; exact Or.inr (Or.inr ⟨rfl, y0, y1⟩)
theorem line_j {T : Nat → Int} {n p : Nat} {D : zDf} {v : Int} (h : (v = 0 ∧ isW T n p wJudge = true) ∨ (v = 1 ∧ isW T n p wBarr = true)) : lineP T n D p = judP T n D v p := by
  have nx : ∀ a b : List Int, a ≠ b → isW T n p a = true → ¬ isW T n p b = true := fun a b e x y => e (isW_u x y)
  unfold lineP
  rcases h with ⟨rfl, y⟩ | ⟨rfl, y⟩
  · rw [if_neg (nx wJudge wLeaf (by decide) y), if_pos y]
  · rw [if_neg (nx wBarr wLeaf (by decide) y), if_neg (nx wBarr wJudge (by decide) y), if_pos y]
/-- a line's sign, in every state -/
theorem c6_markU {E : zE} {h h1 : zH} {T : Nat → Int} {n p : Nat} {D : zDf} (d k : Nat) (hd : 2 ≤ d) (hk : mclk h1 T n) (hl : lnS h T n (lineP T n D p) h1) : zCal E mX6_mark d k [zrv E 64, ziv 59] h1 (fun r h' => r = none ∧ lnS h T n (lineS T n D p) h') (fun _ _ => False) := by
  unfold lineS
  cases e : lineP T n D p with
  | inl w =>
    rw [e] at hl
    obtain ⟨f, a, b, c⟩ := hl
    refine zCal_mono (c6_markB d k (by rw [a]; omega) (by rw [a]; omega)) (fun r h' z => ?_) (fun _ _ z => z)
    obtain ⟨rfl, rfl⟩ := z
    exact ⟨rfl, f, a, b, c⟩
  | inr w =>
    obtain ⟨D2, q⟩ := w
    rw [e] at hl
    obtain ⟨f, ⟨a, b, c⟩, dd⟩ := hl
    refine zCal_mono (c6_mark d k hd hk b c a (by decide) (by decide)) (fun r h' z => ?_) (fun _ _ z => z)
    obtain ⟨rfl, z⟩ := z
    refine ⟨rfl, ?_⟩
    show lnS h T n (if isS T n q 59 = true then .inr (D2, tB T n q) else .inl (1, q)) h'
    by_cases y : isS T n q 59 = true
    · rw [if_pos y] at z ⊢
      exact ⟨frH_trans f (frH_nf (mnf_st z.1)), ⟨by rw [z.1.2 24 (by decide) (by decide) (by decide) (by decide) (by decide)]; exact a, z.2, (tB_lo c).2.1⟩, drM_cg (fun c2 x y => z.1.1 c2 (by omega)) dd⟩
    · rw [if_neg y] at z ⊢
      rw [z]
      exact ⟨frH_trans f (frH_nf (mnf_wrg 1)), ts_wrg (by decide) b⟩

theorem line_dn2 {T : Nat → Int} {n p : Nat} {D D2 : zDf} {q : Nat} (h : lineS T n D p = .inr (D2, q)) : zor (dnD D) (kxW T n p) = dnD D2 := by
  unfold lineS at h
  cases e : lineP T n D p with
  | inl w => rw [e] at h; cases h
  | inr w =>
    obtain ⟨D3, q3⟩ := w
    rw [e] at h
    replace h : (if isS T n q3 59 = true then (.inr (D3, tB T n q3) : zRD) else .inl (1, q3)) = .inr (D2, q) := h
    by_cases y : isS T n q3 59 = true
    · rw [if_pos y] at h; cases h; exact line_dn e
    · rw [if_neg y] at h; cases h

set_option maxRecDepth 100000 in
theorem c6_readLine {E : zE} {h : zH} {T : Nat → Int} {n p : Nat} {D : zDf} {d k : Nat} (hp : preL h T n D p) (hd : 52 ≤ d) : zCal E mX6_readLine d k [zrv E 64, ziv (dnD D)] h (fun r h' => ∃ v : Int, r = some (ziv v) ∧ lnS h T n (lineS T n D p) h' ∧ ∀ D2 q, lineS T n D p = .inr (D2, q) → v = dnD D2) (fun _ _ => False) := by
  refine zCal_of (by decide) (Nat.le_of_ble_eq_true rfl) (fun a => ?_)
  show zV _ 0 0 [zrv E 64, ziv (dnD D), .null, .null] [] _
  obtain ⟨hk, htk, hpn, hb0, hD, hsI, hok⟩ := id hp
  have tl := tB_lo (T := T) hpn
  have ta := tA_lo (T := T) hpn
  have J118 : ∀ (b2 : Int) (h1 : zH), (lnS h T n (lineP T n D p) h1) → zV (E, mX6_readLine, d, k, (fun r h' => ∃ v : Int, r = some (ziv v) ∧ lnS h T n (lineS T n D p) h' ∧ ∀ D2 q, lineS T n D p = .inr (D2, q) → v = dnD D2), (fun _ _ => False), a) 0 118 [zrv E 64, ziv (dnD D), ziv b2, ziv (kxW T n p)] [] h1 := by
    intro b2 h1 hl
    refine zV_aload_nr dX6_readLine_118 rfl rfl ?_
    refine zV_bipush dX6_readLine_119 (by decide) ?_
    refine zV_callV (As := [ziv 59]) lk6_252 (rfl) rfl rfl (c6_markU (d - 1) 0 (by omega) (mclk_H hk hl.1) hl) ⟨by show _ + 1 ≤ d; omega, by show _ ≤ k; omega⟩ rfl (Nat.le_of_ble_eq_true rfl) dX6_readLine_121 (fun _ _ z => z.elim) (fun r h2 q => ?_)
    obtain ⟨rfl, hl2⟩ := q
    refine zV_iload_n dX6_readLine_124 rfl rfl ?_
    refine zV_iload_n dX6_readLine_125 rfl rfl ?_
    refine zV_ior dX6_readLine_126 ?_
    exact zV_ireturn dX6_readLine_127 rfl (Nat.zero_le _) ⟨_, rfl, hl2, fun D2 q e => line_dn2 e⟩
  have JB64 : ∀ (h1 : zH), (lnS h T n (lineP T n D p) h1) → (lineP T n D p = .inl (5, p)) → (0 < (kxW T n p)) → zV (E, mX6_readLine, d, k, (fun r h' => ∃ v : Int, r = some (ziv v) ∧ lnS h T n (lineS T n D p) h' ∧ ∀ D2 q, lineS T n D p = .inr (D2, q) → v = dnD D2), (fun _ _ => False), a) 0 64 [zrv E 64, ziv (dnD D), ziv (-1), ziv (kxW T n p)] [] h1 := by
    intro h1 hl hR hx
    have kl := kx_lo T n p
    have b1 : h1 64 24 = 5 := by have := hl.2; rw [hR] at this; exact this.1
    refine zV_iload_n dX6_readLine_64 rfl rfl ?_
    refine zR_if_le (tgt := 83) dX6_readLine_65 (by decide) (by omega) (fun h65 => ?_) (fun h65 => ?_)
    · exact absurd h65 (by omega)
    · refine zV_aload_nr dX6_readLine_68 rfl rfl ?_
      refine gf6_210 rfl rfl dX6_readLine_69 ?_
      refine zR_if_ne (tgt := 83) dX6_readLine_72 (by decide) (by rw [b1]; decide) (fun h72 => ?_) (fun h72 => ?_)
      · refine zV_iload_n dX6_readLine_83 rfl rfl ?_
        refine zV_iconst dX6_readLine_84 ?_
        refine zR_icmp_eq (tgt := 96) dX6_readLine_85 (by decide) (by decide) (by decide) (fun h85 => ?_) (fun h85 => ?_)
        · refine zV_aload_nr dX6_readLine_96 rfl rfl ?_
          refine zV_ldsw (i := 43) rfl rfl dX6_readLine_97 ?_
          refine zV_callV (As := [.ref (eK E 43)]) lk6_224 (rfl) rfl rfl (c6_isB (i := 43) (d - 1) 0 (by rw [b1]; decide) (by rw [b1]; decide)) ⟨by show _ + 1 ≤ d; omega, by show _ ≤ k; omega⟩ rfl (Nat.le_of_ble_eq_true rfl) dX6_readLine_100 (fun _ _ z => z.elim) (fun r h9 q => ?_)
          obtain ⟨rfl, hh⟩ := q
          rw [hh]
          clear hh
          refine zR_if_eq (tgt := 113) dX6_readLine_103 (by decide) (by decide) (fun h103 => ?_) (fun h103 => ?_)
          · refine zV_aload_nr dX6_readLine_113 rfl rfl ?_
            refine zV_iconst dX6_readLine_114 ?_
            refine zV_callV (As := [ziv 1]) lk6_231 (rfl) rfl rfl (c6_wrong (d - 1) 0 (by rw [b1]; decide)) ⟨by show _ + 1 ≤ d; omega, by show _ ≤ k; omega⟩ rfl (Nat.le_of_ble_eq_true rfl) dX6_readLine_115 (fun _ _ z => z.elim) (fun r h9 q => ?_)
            obtain ⟨rfl, hh⟩ := q
            rw [if_neg (by rw [b1]; decide)] at hh
            rw [hh]
            clear hh
            exact J118 (-1) h1 hl
          · exact absurd rfl h103
        · exact absurd rfl h85
      · exact absurd h72 (by rw [b1]; decide)
  refine zV_aload_nr dX6_readLine_0 rfl rfl ?_
  refine zV_aload_nr dX6_readLine_1 rfl rfl ?_
  refine gf6_15 rfl (rfl) dX6_readLine_2 ?_
  refine zV_teq (w := zrv E 65) rfl ?_
  refine zV_callV (As := [zrv E 65]) lk6_248 (rfl) rfl rfl (c6_which (T := T) (n := n) (p := p) (c := 65) (N := 2) (i0 := 28) (W := bW) (d - 1) 0 (by omega) rfl (by decide) hk htk hpn (by rw [hb0]; decide) (fun j hj => ⟨hsI.1 j hj, bws j hj⟩)) ⟨by show _ + 1 ≤ d; omega, by show _ ≤ k; omega⟩ rfl (Nat.le_of_ble_eq_true rfl) dX6_readLine_5 (fun _ _ z => z.elim) (fun r h9 q => ?_)
  obtain ⟨rfl, hh⟩ := q
  rw [hh]
  clear hh
  rw [fst_and hb0]
  obtain ⟨b2, hb2, hbv⟩ := b_v (T := T) (n := n) (p := p)
  rw [hb2]
  clear hb2
  refine zV_istore_n dX6_readLine_8 rfl (Nat.le_of_ble_eq_true rfl) rfl ?_
  refine zV_aload_nr dX6_readLine_9 rfl rfl ?_
  refine zV_ldsw (i := 40) rfl rfl dX6_readLine_10 ?_
  refine zV_callV (As := [.ref (eK E 40)]) lk6_224 (rfl) rfl rfl (c6_is (T := T) (n := n) (p := p) (i := 40) (b := wPot) (d - 1) 0 (by omega) hk htk hpn (by rw [hb0]; decide) rfl) ⟨by show _ + 1 ≤ d; omega, by show _ ≤ k; omega⟩ rfl (Nat.le_of_ble_eq_true rfl) dX6_readLine_13 (fun _ _ z => z.elim) (fun r h9 q => ?_)
  obtain ⟨rfl, hh⟩ := q
  rw [hh]
  clear hh
  rw [if_and hb0]
  have J52 : (kxW T n p = 0 ∨ kxW T n p = 1 ∨ kxW T n p = 2 ∨ kxW T n p = 4) → zV (E, mX6_readLine, d, k, (fun r h' => ∃ v : Int, r = some (ziv v) ∧ lnS h T n (lineS T n D p) h' ∧ ∀ D2 q, lineS T n D p = .inr (D2, q) → v = dnD D2), (fun _ _ => False), a) 0 52 [zrv E 64, ziv (dnD D), ziv b2, .null] [ziv (kxW T n p)] h := by
    intro  kl
    refine zV_istore_n dX6_readLine_52 rfl (Nat.le_of_ble_eq_true rfl) rfl ?_
    refine zV_iload_n dX6_readLine_53 rfl rfl ?_
    refine zV_iload_n dX6_readLine_54 rfl rfl ?_
    refine zV_iand dX6_readLine_55 ?_
    refine zR_if_eq (tgt := 64) dX6_readLine_56 (by decide) (zand_r _ _) (fun h56 => ?_) (fun h56 => ?_)
    · refine zV_iload_n dX6_readLine_64 rfl rfl ?_
      refine zR_if_le (tgt := 83) dX6_readLine_65 (by decide) (by omega) (fun h65 => ?_) (fun h65 => ?_)
      · have k0 : (kxW T n p) = 0 := by omega
        obtain ⟨z1, z2, z3⟩ := kx_n k0
        refine zV_iload_n dX6_readLine_83 rfl rfl ?_
        refine zV_iconst dX6_readLine_84 ?_
        refine zR_icmp_eq (tgt := 96) dX6_readLine_85 (by decide) (by clear hp hok; omega) (by decide) (fun h85 => ?_) (fun h85 => ?_)
        · have nb : ¬ isW T n p wJudge = true ∧ ¬ isW T n p wBarr = true := by
            rcases hbv with ⟨e, -⟩ | ⟨e, -⟩ | ⟨-, e⟩
            · rw [e] at h85; exact absurd h85 (by decide)
            · rw [e] at h85; exact absurd h85 (by decide)
            · exact e
          refine zV_aload_nr dX6_readLine_96 rfl rfl ?_
          refine zV_ldsw (i := 43) rfl rfl dX6_readLine_97 ?_
          refine zV_callV (As := [.ref (eK E 43)]) lk6_224 (rfl) rfl rfl (c6_is (T := T) (n := n) (p := p) (i := 43) (b := wLeaf) (d - 1) 0 (by omega) hk htk hpn (by rw [hb0]; decide) rfl) ⟨by show _ + 1 ≤ d; omega, by show _ ≤ k; omega⟩ rfl (Nat.le_of_ble_eq_true rfl) dX6_readLine_100 (fun _ _ z => z.elim) (fun r h9 q => ?_)
          obtain ⟨rfl, hh⟩ := q
          rw [hh]
          clear hh
          rw [if_and hb0]
          refine zR_if_eq (tgt := 113) dX6_readLine_103 (by decide) (by split <;> omega) (fun h103 => ?_) (fun h103 => ?_)
          · have n103 := ipF h103
            refine zV_aload_nr dX6_readLine_113 rfl rfl ?_
            refine zV_iconst dX6_readLine_114 ?_
            refine zV_callV (As := [ziv 1]) lk6_231 (rfl) rfl rfl (c6_wrong (d - 1) 0 (by rw [hb0]; decide)) ⟨by show _ + 1 ≤ d; omega, by show _ ≤ k; omega⟩ rfl (Nat.le_of_ble_eq_true rfl) dX6_readLine_115 (fun _ _ z => z.elim) (fun r h9 q => ?_)
            obtain ⟨rfl, hh⟩ := q
            rw [if_pos hb0] at hh
            rw [hh]
            clear hh
            exact J118 b2 _ (by unfold lineP; rw [if_neg n103, if_neg nb.1, if_neg nb.2, if_neg z1, if_neg z2, if_neg z3]; exact lnS_w (by decide) htk)
          · have y103 := ipT h103
            refine zV_aload_nr dX6_readLine_106 rfl rfl ?_
            refine zV_callV (As := []) lk6_297 (rfl) rfl rfl (c6_sayLeaf (d := d - 1) (k := 0) hp (by omega)) ⟨by show _ + 1 ≤ d; omega, by show _ ≤ k; omega⟩ rfl (Nat.le_of_ble_eq_true rfl) dX6_readLine_107 (fun _ _ z => z.elim) (fun r h1 q => ?_)
            obtain ⟨rfl, hl⟩ := q
            refine zV_goto (tgt := 118) dX6_readLine_110 (by decide) ?_
            exact J118 b2 _ (by unfold lineP; rw [if_pos y103]; exact hl)
        · have yb : (b2 = 0 ∧ isW T n p wJudge = true) ∨ (b2 = 1 ∧ isW T n p wBarr = true) := by
            rcases hbv with e | e | ⟨e, -⟩
            · exact Or.inl e
            · exact Or.inr e
            · exact absurd e h85
          refine zV_aload_nr dX6_readLine_88 rfl rfl ?_
          refine zV_iload_n dX6_readLine_89 rfl rfl ?_
          refine zV_callV (As := [ziv b2]) lk6_292 (rfl) rfl rfl (c6_sayJudge (br := b2) (d := d - 1) (k := 0) hp (by omega)) ⟨by show _ + 1 ≤ d; omega, by show _ ≤ k; omega⟩ rfl (Nat.le_of_ble_eq_true rfl) dX6_readLine_90 (fun _ _ z => z.elim) (fun r h1 q => ?_)
          obtain ⟨rfl, hl⟩ := q
          refine zV_goto (tgt := 118) dX6_readLine_93 (by decide) ?_
          exact J118 b2 _ (by rw [line_j yb]; exact hl)
      · refine zV_aload_nr dX6_readLine_68 rfl rfl ?_
        refine gf6_210 rfl rfl dX6_readLine_69 ?_
        refine zR_if_ne (tgt := 83) dX6_readLine_72 (by decide) (by rw [hb0]; decide) (fun h72 => ?_) (fun h72 => ?_)
        · exact absurd hb0 h72
        · refine zV_aload_nr dX6_readLine_75 rfl rfl ?_
          refine zV_iload_n dX6_readLine_76 rfl rfl ?_
          refine zV_callV (As := [ziv (kxW T n p)]) lk6_289 (rfl) rfl rfl (c6_once (d - 1) 0 hp (by omega) (by omega) h56) ⟨by show _ + 1 ≤ d; omega, by show _ ≤ k; omega⟩ rfl (Nat.le_of_ble_eq_true rfl) dX6_readLine_77 (fun _ _ z => z.elim) (fun r h1 q => ?_)
          obtain ⟨rfl, hl⟩ := q
          refine zV_goto (tgt := 118) dX6_readLine_80 (by decide) ?_
          exact J118 b2 _ hl
    · have hr9 := line_r h56
      refine zV_aload_nr dX6_readLine_59 rfl rfl ?_
      refine zV_iconst dX6_readLine_60 ?_
      refine zV_callV (As := [ziv 5]) lk6_231 (rfl) rfl rfl (c6_wrong (d - 1) 0 (by rw [hb0]; decide)) ⟨by show _ + 1 ≤ d; omega, by show _ ≤ k; omega⟩ rfl (Nat.le_of_ble_eq_true rfl) dX6_readLine_61 (fun _ _ z => z.elim) (fun r h9 q => ?_)
      obtain ⟨rfl, hh⟩ := q
      rw [if_pos hb0] at hh
      rw [hh]
      clear hh
      have eb2 : b2 = -1 := by
        have := kx_b hr9.1
        rcases hbv with ⟨-, y⟩ | ⟨-, y⟩ | ⟨e, -⟩
        · exact absurd y this.1
        · exact absurd y this.2.1
        · exact e
      subst eb2
      exact JB64 _ (by rw [hr9.2]; exact lnS_w (by decide) htk) hr9.2 (by have := hr9.1; clear hbv; omega)
  refine zR_if_eq (tgt := 23) dX6_readLine_16 (by decide) (by split <;> omega) (fun h16 => ?_) (fun h16 => ?_)
  · have n16 := ipF h16
    refine zV_aload_nr dX6_readLine_23 rfl rfl ?_
    refine zV_ldsw (i := 41) rfl rfl dX6_readLine_24 ?_
    refine zV_callV (As := [.ref (eK E 41)]) lk6_224 (rfl) rfl rfl (c6_is (T := T) (n := n) (p := p) (i := 41) (b := wDrinks) (d - 1) 0 (by omega) hk htk hpn (by rw [hb0]; decide) rfl) ⟨by show _ + 1 ≤ d; omega, by show _ ≤ k; omega⟩ rfl (Nat.le_of_ble_eq_true rfl) dX6_readLine_27 (fun _ _ z => z.elim) (fun r h9 q => ?_)
    obtain ⟨rfl, hh⟩ := q
    rw [hh]
    clear hh
    rw [if_and hb0]
    refine zR_if_eq (tgt := 37) dX6_readLine_30 (by decide) (by split <;> omega) (fun h30 => ?_) (fun h30 => ?_)
    · have n30 := ipF h30
      refine zV_aload_nr dX6_readLine_37 rfl rfl ?_
      refine zV_ldsw (i := 42) rfl rfl dX6_readLine_38 ?_
      refine zV_callV (As := [.ref (eK E 42)]) lk6_224 (rfl) rfl rfl (c6_is (T := T) (n := n) (p := p) (i := 42) (b := wReads) (d - 1) 0 (by omega) hk htk hpn (by rw [hb0]; decide) rfl) ⟨by show _ + 1 ≤ d; omega, by show _ ≤ k; omega⟩ rfl (Nat.le_of_ble_eq_true rfl) dX6_readLine_41 (fun _ _ z => z.elim) (fun r h9 q => ?_)
      obtain ⟨rfl, hh⟩ := q
      rw [hh]
      clear hh
      rw [if_and hb0]
      refine zR_if_eq (tgt := 51) dX6_readLine_44 (by decide) (by split <;> omega) (fun h44 => ?_) (fun h44 => ?_)
      · have n44 := ipF h44
        refine zV_iconst dX6_readLine_51 ?_
        refine zV_teq (w := ziv (kxW T n p)) (congrArg ziv (by unfold kxW; rw [if_neg n16, if_neg n30, if_neg n44])) ?_
        exact J52 (kx_lo T n p)
      · have y44 := ipT h44
        refine zV_iconst dX6_readLine_47 ?_
        refine zV_goto (tgt := 52) dX6_readLine_48 (by decide) ?_
        refine zV_teq (w := ziv (kxW T n p)) (congrArg ziv (by unfold kxW; rw [if_neg n16, if_neg n30, if_pos y44])) ?_
        exact J52 (kx_lo T n p)
    · have y30 := ipT h30
      refine zV_iconst dX6_readLine_33 ?_
      refine zV_goto (tgt := 52) dX6_readLine_34 (by decide) ?_
      refine zV_teq (w := ziv (kxW T n p)) (congrArg ziv (by unfold kxW; rw [if_neg n16, if_pos y30])) ?_
      exact J52 (kx_lo T n p)
  · have y16 := ipT h16
    refine zV_iconst dX6_readLine_19 ?_
    refine zV_goto (tgt := 52) dX6_readLine_20 (by decide) ?_
    refine zV_teq (w := ziv (kxW T n p)) (congrArg ziv (by unfold kxW; rw [if_pos y16])) ?_
    exact J52 (kx_lo T n p)
