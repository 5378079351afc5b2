/-! THE REFERENCE: the court -/
/-- what stays as it was behind a court's text -/
def frC (h h' : zH) : Prop := (∀ c2 : Nat, (c2 < 64 ∨ (64 < c2 ∧ c2 < 68) ∨ 77 < c2) → h' c2 = h c2) ∧ (∀ j, j ≠ 3 → j ≠ 4 → j ≠ 17 → (j < 18 ∨ 27 < j) → h' 64 j = h 64 j) ∧ (∀ j, j < 5 → h' 68 j = h 68 j) ∧ (∀ c2 : Nat, 69 ≤ c2 → c2 ≤ 74 → ∀ i, i < 8 → h' c2 i = h c2 i) ∧ ∀ c2 : Nat, 75 ≤ c2 → c2 ≤ 76 → ∀ i, i < 700 → h' c2 i = h c2 i
def crtM (h : zH) (R : (Int × Nat) ⊕ zDf) (n : Nat) : Option Value → zH → Prop := fun r h' => match R with
  | .inl (k, q) => r = some (ziv k) ∧ frC h h' ∧ h' 64 4 = 0 ∧ h' 64 17 = 0 ∧ h' 64 26 = (tA (h 79) n q : Int) ∧ h' 77 0 = h 77 0 + 1 ∧ ∀ j, j ≠ 0 → h' 77 j = h 77 j
  | .inr D => r = some (ziv 0) ∧ ∃ g : zH, frC h g ∧ g 77 = h 77 ∧ g 64 4 = 0 ∧ g 64 17 = 0 ∧ g 64 26 = -1 ∧ drM g D ∧ dfOK D ∧ tkQ g h'
def cG0 (h : zH) (n : Nat) : zH := zup (zup (zup (zup (zup (zup h 64 4 0) 64 17 0) 64 19 (n : Int)) 64 18 0) 64 24 0) 64 26 (-1)
/-- the heap ahead of the first word -/
def cG1 (h : zH) (n : Nat) (g : zH) : Prop := (∀ c2 : Nat, c2 ≠ 68 → g c2 = cG0 h n c2) ∧ (∀ j, 5 ≤ j → j < 10 → g 68 j = if j = 7 then 60 else 0) ∧ ∀ j, j < 5 → g 68 j = h 68 j
theorem cG0_j {h : zH} {n j : Nat} (a : j ≠ 4) (b : j ≠ 17) (c : j ≠ 19) (d : j ≠ 18) (e : j ≠ 24) (f : j ≠ 26) : cG0 h n 64 j = h 64 j := by
  unfold cG0; rw [zup_at, if_neg f, zup_at, if_neg e, zup_at, if_neg d, zup_at, if_neg c, zup_at, if_neg b, zup_at, if_neg a]
theorem cG0_c {h : zH} {n c2 : Nat} (a : c2 ≠ 64) : cG0 h n c2 = h c2 := by
  unfold cG0; rw [zup_fn a, zup_fn a, zup_fn a, zup_fn a, zup_fn a, zup_fn a]
theorem cG0_v (h : zH) (n : Nat) : cG0 h n 64 4 = 0 ∧ cG0 h n 64 17 = 0 ∧ cG0 h n 64 19 = (n : Int) ∧ cG0 h n 64 18 = 0 ∧ cG0 h n 64 24 = 0 ∧ cG0 h n 64 26 = -1 := by
  unfold cG0
  exact ⟨rfl, rfl, rfl, rfl, rfl, rfl⟩
theorem frC_of {h g h' : zH} {n : Nat} (hg : cG1 h n g) (f : frH g h') : frC h h' ∧ h' 77 = h 77 ∧ h' 64 4 = 0 ∧ h' 64 17 = 0 ∧ h' 64 26 = -1 := by
  obtain ⟨a, b, c⟩ := hg
  have v := cG0_v h n
  exact ⟨⟨fun c2 x => by rw [f.1 c2 (by omega), a c2 (by omega), cG0_c (by omega)], fun j x y z w => by rw [f.2.1 j x (by omega), a 64 (by decide), cG0_j y z (by omega) (by omega) (by omega) (by omega)], fun j hj => (f.2.2.1 j hj).trans (c j hj), fun c2 x y i hi => by rw [f.2.2.2.1 c2 x y i hi, a c2 (by omega), cG0_c (by omega)], fun c2 x y i hi => by rw [f.2.2.2.2 c2 x y i hi, a c2 (by omega), cG0_c (by omega)]⟩, by rw [f.1 77 (by omega), a 77 (by decide), cG0_c (by decide)], by rw [f.2.1 4 (by decide) (by omega), a 64 (by decide)]; exact v.1, by rw [f.2.1 17 (by decide) (by omega), a 64 (by decide)]; exact v.2.1, by rw [f.2.1 26 (by decide) (by omega), a 64 (by decide)]; exact v.2.2.2.2.2⟩
theorem cG1_dr {h g g2 : zH} {n : Nat} (hg : cG1 h n g) (e : ∀ c2 : Nat, c2 ≠ 64 → g2 c2 = g c2) : drM g2 df0 := by
  obtain ⟨a, b, c⟩ := hg
  have e68 : g2 68 = g 68 := e 68 (by decide)
  refine ⟨⟨by rw [e68, b 5 (by decide) (by decide)]; rfl, fun i hi => absurd hi (Nat.not_lt_zero i)⟩, ⟨by rw [e68, b 6 (by decide) (by decide)]; rfl, fun i hi => absurd hi (Nat.not_lt_zero i)⟩, by rw [e68, b 7 (by decide) (by decide)]; rfl, fun ru hru => ?_⟩
  have er : rlL (ruO df0 ru) = [] := by
    rcases (show ru = 0 ∨ ru = 1 by omega) with rfl | rfl <;> rfl
  rw [er]
  exact ⟨by rw [e68, b (8 + ru) (by omega) (by omega), if_neg (by omega)]; rfl, fun i hi => absurd hi (Nat.not_lt_zero i)⟩
theorem text_S (T : Nat → Int) (n k : Nat) (D : zDf) (p : Nat) : textP T n (k + 1) D p = if tK T n p = 0 then .inr D else match lineS T n D p with
    | .inl e => .inl e
    | .inr (D2, q) => textP T n k D2 q := by
  rw [textP_s]
  by_cases e : tK T n p = 0
  · rw [if_pos e, if_pos e]
  · rw [if_neg e, if_neg e]
    unfold lineS
    cases lineP T n D p with
    | inl w => rfl
    | inr w =>
      obtain ⟨D2, q⟩ := w
      show (if isS T n q 59 = true then textP T n k D2 (tB T n q) else .inl (1, q)) = match (if isS T n q 59 = true then (.inr (D2, tB T n q) : zRD) else .inl (1, q)) with | .inl e => .inl e | .inr (D2, q) => textP T n k D2 q
      by_cases y : isS T n q 59 = true
      · rw [if_pos y, if_pos y]
      · rw [if_neg y, if_neg y]
theorem lineS_ok {T : Nat → Int} {n p q : Nat} {D D2 : zDf} (hT : ∀ i, i < n → 0 ≤ T i ∧ T i ≤ 255) (hp : p ≤ n) (hD : dfOK D) (h : lineS T n D p = .inr (D2, q)) : dfOK D2 ∧ p < q ∧ q ≤ n := by
  have := line_ok hT hp hD
  unfold lineS at h
  cases e : lineP T n D p with
  | inl w => rw [e] at h; cases h
  | inr w =>
    obtain ⟨D3, q3⟩ := w
    rw [e] at h this
    obtain ⟨x1, x2, x3⟩ := this
    replace h : (if isS T n q3 59 = true then (.inr (D3, tB T n q3) : zRD) else .inl (1, q3)) = .inr (D2, q) := h
    by_cases y : isS T n q3 59 = true
    · rw [if_pos y] at h
      cases h
      have tl := tB_lo (T := T) x3
      have ta := tA_lo (T := T) x3
      have := tl.2.2 (by rw [isS_k y]; decide)
      exact ⟨x1, by omega, tl.2.1⟩
    · rw [if_neg y] at h; cases h

set_option maxRecDepth 100000 in
theorem c6_court {E : zE} {h : zH} {x : Int} (d k : Nat) (hd : 53 ≤ d) (hx : -2147483648 ≤ x ∧ x ≤ 2147483647) (hl : 0 ≤ h 64 17 ∧ h 64 17 ≤ 700) (hT : ∀ i : Nat, (i : Int) < h 64 17 → 0 ≤ h 79 i ∧ h 79 i ≤ 255) (hsI : strI h) : zCal E mX6_court d k [zrv E 64, ziv x] h (fun r h' => (¬ (0 ≤ x ∧ x ≤ h 64 17) → r = some (ziv 0) ∧ h' = zup (zup h 64 4 0) 64 4 1) ∧ ((0 ≤ x ∧ x ≤ h 64 17) → crtM h (textP (h 79) x.toNat (x.toNat + 1) df0 0) x.toNat r h')) (fun _ _ => False) := by
  refine zCal_of (by decide) (Nat.le_of_ble_eq_true rfl) (fun a => ?_)
  show zV _ 0 0 [zrv E 64, ziv x, .null] [] _
  have JB105 : ∀ (n : Nat) (dv v9 : Int) (ke : Int) (q0 : Nat) (h1 h4 : zH), (x = (n : Int)) → (x ≤ h 64 17) → (cG1 h n h1) → (frH h1 h4) → ((textP (h 79) n (n + 1) df0 0) = .inl (ke, q0)) → (tsM h4 (h 79) n (.inl (ke, q0))) → zV (E, mX6_court, d, k, (fun r h' => (¬ (0 ≤ x ∧ x ≤ h 64 17) → r = some (ziv 0) ∧ h' = zup (zup h 64 4 0) 64 4 1) ∧ ((0 ≤ x ∧ x ≤ h 64 17) → crtM h (textP (h 79) x.toNat (x.toNat + 1) df0 0) x.toNat r h')), (fun _ _ => False), a) 0 105 [zrv E 64, ziv x, ziv dv] [ziv v9] h4 := by
    intro n dv v9 ke q0 h1 h4 hxn hxl hg fr hR ts
    obtain ⟨b1, b2, b3⟩ := ts
    refine zV_istore_n dX6_court_105 rfl (Nat.le_of_ble_eq_true rfl) rfl ?_
    refine zV_goto (tgt := 86) dX6_court_106 (by decide) ?_
    refine zV_aload_nr dX6_court_86 rfl rfl ?_
    refine gf6_210 rfl rfl dX6_court_87 ?_
    refine zR_if_ne (tgt := 109) dX6_court_90 (by decide) (by rw [b1]; omega) (fun h90 => ?_) (fun h90 => ?_)
    · refine zV_aload_nr dX6_court_109 rfl rfl ?_
      refine gf6_210 rfl rfl dX6_court_110 ?_
      refine zR_if_eq (tgt := 139) dX6_court_113 (by decide) (by rw [b1]; omega) (fun h113 => ?_) (fun h113 => ?_)
      · exact absurd h113 (by rw [b1]; omega)
      · refine zV_aload_nr dX6_court_116 rfl rfl ?_
        refine zV_aload_nr dX6_court_117 rfl rfl ?_
        refine gf6_213 rfl rfl dX6_court_118 ?_
        refine pf6_78 rfl (rfl) dX6_court_121 ?_
        refine zV_aload_nr dX6_court_124 rfl rfl ?_
        refine gf6_70 rfl (rfl) dX6_court_125 ?_
        refine zV_teq (w := zrv E 77) rfl ?_
        refine zV_iconst dX6_court_128 ?_
        refine zV_dup2 dX6_court_129 rfl rfl ?_
        refine zV_ialoadN (i := 0) (N := 3) (rfl) (by decide) (by decide) dX6_court_130 ?_
        refine zV_iconst dX6_court_131 ?_
        refine zV_iadd dX6_court_132 ?_
        refine zV_iastoreN (i := 0) (N := 3) (rfl) (by decide) (by decide) dX6_court_133 ?_
        refine zV_aload_nr dX6_court_134 rfl rfl ?_
        refine gf6_210 rfl rfl dX6_court_135 ?_
        exact zV_ireturn dX6_court_138 rfl (Nat.zero_le _) ⟨fun z => absurd ⟨by omega, hxl⟩ z, fun _ => by
            rw [show x.toNat = n by omega, hR]
            obtain ⟨c1, c2, c3, c4, c5⟩ := frC_of hg fr
            exact ⟨by rw [zup_fn (by decide), zup_at, if_neg (by decide), b1], ⟨fun c2 x => by rw [zup_fn (by omega), zup_fn (by omega)]; exact c1.1 c2 x, fun j a b c d => by rw [zup_fn (by decide), zup_at, if_neg (by omega)]; exact c1.2.1 j a b c d, fun j hj => by rw [zup_fn (by decide), zup_fn (by decide)]; exact c1.2.2.1 j hj, fun c2 a b i hi => by rw [zup_fn (by omega), zup_fn (by omega)]; exact c1.2.2.2.1 c2 a b i hi, fun c2 a b i hi => by rw [zup_fn (by omega), zup_fn (by omega)]; exact c1.2.2.2.2 c2 a b i hi⟩, by rw [zup_fn (by decide), zup_at, if_neg (by decide)]; exact c3, by rw [zup_fn (by decide), zup_at, if_neg (by decide)]; exact c4, by rw [zup_fn (by decide), zup_at, if_pos rfl]; exact b3, by rw [zup_at, if_pos rfl, zup_fn (by decide), c2], fun j hj => by rw [zup_at, if_neg hj, zup_fn (by decide), c2]⟩⟩
    · exact absurd h90 (by rw [b1]; omega)
  refine zV_aload_nr dX6_court_0 rfl rfl ?_
  refine zV_iconst dX6_court_1 ?_
  refine pf6_157 rfl (rfl) dX6_court_2 ?_
  refine zV_iload_n dX6_court_5 rfl rfl ?_
  refine zR_if_lt (tgt := 17) dX6_court_6 (by decide) (by omega) (fun h6 => ?_) (fun h6 => ?_)
  · refine zV_aload_nr dX6_court_17 rfl rfl ?_
    refine zV_iconst dX6_court_18 ?_
    refine zV_callV (As := [ziv 1]) lk6_300 (rfl) rfl rfl (c6_fail (d - 1) 0) ⟨by show _ + 1 ≤ d; omega, by show _ ≤ k; omega⟩ rfl (Nat.le_of_ble_eq_true rfl) dX6_court_19 (fun _ _ z => z.elim) (fun r h2 q => ?_)
    obtain ⟨rfl, hh⟩ := q
    rw [hh]
    clear hh
    exact zV_ireturn dX6_court_22 rfl (Nat.zero_le _) ⟨fun _ => ⟨rfl, rfl⟩, fun z => absurd z (by omega)⟩
  · refine zV_iload_n dX6_court_9 rfl rfl ?_
    refine zV_aload_nr dX6_court_10 rfl rfl ?_
    refine gf6_168 rfl rfl dX6_court_11 ?_
    refine zV_teq (w := ziv (h 64 17)) (congrArg ziv (by rw [zup_at, if_neg (by decide)])) ?_
    refine zR_icmp_le (tgt := 23) dX6_court_14 (by decide) (by omega) (by omega) (fun h14 => ?_) (fun h14 => ?_)
    · obtain ⟨n, hxn⟩ : ∃ n : Nat, x = (n : Int) := ⟨x.toNat, by omega⟩
      refine zV_aload_nr dX6_court_23 rfl rfl ?_
      refine zV_iconst dX6_court_24 ?_
      refine pf6_168 rfl (rfl) dX6_court_25 ?_
      refine zV_aload_nr dX6_court_28 rfl rfl ?_
      refine zV_iload_n dX6_court_29 rfl rfl ?_
      refine pf6_171 rfl (rfl) dX6_court_30 ?_
      refine zV_aload_nr dX6_court_33 rfl rfl ?_
      refine zV_iconst dX6_court_34 ?_
      refine pf6_174 rfl (rfl) dX6_court_35 ?_
      refine zV_aload_nr dX6_court_38 rfl rfl ?_
      refine zV_iconst dX6_court_39 ?_
      refine pf6_210 rfl (rfl) dX6_court_40 ?_
      refine zV_aload_nr dX6_court_43 rfl rfl ?_
      refine zV_iconst dX6_court_44 ?_
      refine pf6_78 rfl (rfl) dX6_court_45 ?_
      refine zV_iconst dX6_court_48 ?_
      refine zV_istore_n dX6_court_49 rfl (Nat.le_of_ble_eq_true rfl) rfl ?_
      have L50 : ∀ (m : Nat) (s : Nat) (h1 : zH), (5 + 1 ≤ s + m) → (s ≤ 5) → (∀ c2 : Nat, c2 ≠ 68 → h1 c2 = cG0 h n c2) → (∀ j, h1 68 j = if 5 ≤ j ∧ j < 5 + s then (if j = 7 then 60 else 0) else h 68 j) → zV (E, mX6_court, d, k, (fun r h' => (¬ (0 ≤ x ∧ x ≤ h 64 17) → r = some (ziv 0) ∧ h' = zup (zup h 64 4 0) 64 4 1) ∧ ((0 ≤ x ∧ x ≤ h 64 17) → crtM h (textP (h 79) x.toNat (x.toNat + 1) df0 0) x.toNat r h')), (fun _ _ => False), a) 0 50 [zrv E 64, ziv x, ziv (s : Int)] [] h1 := by
        intro m
        induction m with
        | zero => intro s h1 hm_ hs o1 o2; exfalso; omega
        | succ m ih =>
          intro s h1 hm_ hs o1 o2
          refine zV_iload_n dX6_court_50 rfl rfl ?_
          refine zV_iconst dX6_court_51 ?_
          refine zR_icmp_ge (tgt := 80) dX6_court_52 (by decide) (by omega) (by decide) (fun h52 => ?_) (fun h52 => ?_)
          · have hg : cG1 h n h1 := ⟨o1, fun j a b => by rw [o2 j, if_pos (by omega)], fun j hj => by rw [o2 j, if_neg (by omega)]⟩
            have gv := cG0_v h n
            have hk1 : mclk h1 (h 79) n := ⟨by rw [o1 64 (by decide)]; exact gv.2.2.1, by omega, by rw [o1 79 (by decide), cG0_c (by decide)], fun i hi => hT i (by omega)⟩
            clear hs o1 o2
            refine zV_aload_nr dX6_court_80 rfl rfl ?_
            refine zV_callV (As := []) lk6_235 (rfl) rfl rfl (c6_stepOn (T := (h 79)) (n := n) (p := 0) (d - 1) 0 (by omega) hk1 (by rw [hg.1 64 (by decide)]; exact gv.2.2.2.1) (Nat.zero_le _)) ⟨by show _ + 1 ≤ d; omega, by show _ ≤ k; omega⟩ rfl (Nat.le_of_ble_eq_true rfl) dX6_court_81 (fun _ _ z => z.elim) (fun r h2 q => ?_)
            obtain ⟨rfl, st2, tk2⟩ := q
            have fr2 : frH h1 h2 := frH_nf (mnf_st st2)
            have hp2 : preL h2 (h 79) n df0 0 := ⟨mclk_st hk1 st2, tk2, Nat.zero_le _, by rw [st2.2 24 (by decide) (by decide) (by decide) (by decide) (by decide), hg.1 64 (by decide)]; exact gv.2.2.2.2.1, cG1_dr hg st2.1, str_H ⟨by rw [hg.1 65 (by decide), cG0_c (by decide)]; exact hsI.1, by rw [hg.1 66 (by decide), cG0_c (by decide)]; exact hsI.2.1, by rw [hg.1 67 (by decide), cG0_c (by decide)]; exact hsI.2.2⟩ fr2, df0_ok⟩
            refine zV_iconst dX6_court_84 ?_
            refine zV_istore_n dX6_court_85 rfl (Nat.le_of_ble_eq_true rfl) rfl ?_
            have L86 : ∀ (m2 : Nat) (i p : Nat) (D : zDf) (h3 : zH), (n + 1 ≤ i + m2) → (preL h3 (h 79) n D p) → (frH h1 h3) → (i ≤ p) → ((textP (h 79) n (n + 1) df0 0) = textP (h 79) n (n + 1 - i) D p) → zV (E, mX6_court, d, k, (fun r h' => (¬ (0 ≤ x ∧ x ≤ h 64 17) → r = some (ziv 0) ∧ h' = zup (zup h 64 4 0) 64 4 1) ∧ ((0 ≤ x ∧ x ≤ h 64 17) → crtM h (textP (h 79) x.toNat (x.toNat + 1) df0 0) x.toNat r h')), (fun _ _ => False), a) 0 86 [zrv E 64, ziv x, ziv (dnD D)] [] h3 := by
              intro m2
              induction m2 with
              | zero => intro i p D h3 hm_ hp3 fr3 hi9 hR; exfalso; (have := hp3.2.2.1; omega)
              | succ m2 ih2 =>
                intro i p D h3 hm_ hp3 fr3 hi9 hR
                obtain ⟨hk, htk, hpn, hb0, hD, hsI3, hok⟩ := id hp3
                have q4 := tQ_lo (h 79) n p
                refine zV_aload_nr dX6_court_86 rfl rfl ?_
                refine gf6_210 rfl rfl dX6_court_87 ?_
                refine zR_if_ne (tgt := 109) dX6_court_90 (by decide) (by rw [hb0]; decide) (fun h90 => ?_) (fun h90 => ?_)
                · exact absurd hb0 h90
                · refine zV_aload_nr dX6_court_93 rfl rfl ?_
                  refine gf6_184 rfl rfl dX6_court_94 ?_
                  rw [htk.2.2.2.1]
                  refine zR_if_eq (tgt := 109) dX6_court_97 (by decide) (by omega) (fun h97 => ?_) (fun h97 => ?_)
                  · have k0 := tQ_0.mp h97
                    have hRD : (textP (h 79) n (n + 1) df0 0) = .inr D := by rw [hR, show n + 1 - i = (n - i) + 1 by omega, text_S, if_pos k0]
                    refine zV_aload_nr dX6_court_109 rfl rfl ?_
                    refine gf6_210 rfl rfl dX6_court_110 ?_
                    refine zR_if_eq (tgt := 139) dX6_court_113 (by decide) (by rw [hb0]; decide) (fun h113 => ?_) (fun h113 => ?_)
                    · refine zV_aload_nr dX6_court_139 rfl rfl ?_
                      refine zV_callV (As := []) lk6_306 (rfl) rfl rfl (c6_takeOver (na := D.1.length) (nb := D.2.1.length) (d - 1) 0 (by omega) hD.1.1 hok.1 hD.2.1.1 hok.2.2.1) ⟨by show _ + 1 ≤ d; omega, by show _ ≤ k; omega⟩ rfl (Nat.le_of_ble_eq_true rfl) dX6_court_140 (fun _ _ z => z.elim) (fun r h4 q => ?_)
                      obtain ⟨rfl, tk4⟩ := q
                      refine zV_iconst dX6_court_143 ?_
                      exact zV_ireturn dX6_court_144 rfl (Nat.zero_le _) ⟨fun z => absurd (show 0 ≤ x ∧ x ≤ h 64 17 by omega) z, fun _ => by
                        rw [show x.toNat = n by omega, hRD]
                        obtain ⟨c1, c2, c3, c4, c5⟩ := frC_of hg fr3
                        exact ⟨rfl, h3, c1, c2, c3, c4, c5, hD, hok, tk4⟩⟩
                    · exact absurd hb0 h113
                  · have k0 : ¬ tK (h 79) n p = 0 := fun z => h97 (tQ_0.mpr z)
                    have hRS : (textP (h 79) n (n + 1) df0 0) = match lineS (h 79) n D p with | .inl e => .inl e | .inr (D2, q) => textP (h 79) n (n - i) D2 q := by rw [hR, show n + 1 - i = (n - i) + 1 by omega, text_S, if_neg k0]
                    refine zV_aload_nr dX6_court_100 rfl rfl ?_
                    refine zV_iload_n dX6_court_101 rfl rfl ?_
                    refine zV_callV (As := [ziv (dnD D)]) lk6_303 (rfl) rfl rfl (c6_readLine (d := d - 1) (k := 0) hp3 (by omega)) ⟨by show _ + 1 ≤ d; omega, by show _ ≤ k; omega⟩ rfl (Nat.le_of_ble_eq_true rfl) dX6_court_102 (fun _ _ z => z.elim) (fun r h4 q => ?_)
                    obtain ⟨v9, rfl, hl9, hv9⟩ := q
                    have hcs : (∃ ke q0, lineS (h 79) n D p = .inl (ke, q0)) ∨ ∃ D2 q2, lineS (h 79) n D p = .inr (D2, q2) := by
                      cases lineS (h 79) n D p with
                      | inl w => exact Or.inl ⟨w.1, w.2, rfl⟩
                      | inr w => exact Or.inr ⟨w.1, w.2, rfl⟩
                    rcases hcs with ⟨ke, q0, eS⟩ | ⟨D2, q2, eS⟩
                    · rw [eS] at hl9 hRS; exact JB105 n _ v9 ke q0 h1 h4 hxn (by omega) hg (frH_trans fr3 hl9.1) hRS hl9.2
                    have hv2 := hv9 D2 q2 eS
                    subst hv2
                    have hnx := lineS_ok (fun i hi => hT i (by omega)) hpn hok eS
                    rw [eS] at hl9 hRS
                    clear hv9
                    refine zV_istore_n dX6_court_105 rfl (Nat.le_of_ble_eq_true rfl) rfl ?_
                    refine zV_goto (tgt := 86) dX6_court_106 (by decide) ?_
                    exact ih2 (i + 1) q2 D2 h4 (by omega) ⟨mclk_H hk hl9.1, hl9.2.1.2.1, hnx.2.2, hl9.2.1.1, hl9.2.2, str_H hsI3 hl9.1, hnx.1⟩ (frH_trans fr3 hl9.1) (by omega) (by rw [hRS, show n + 1 - (i + 1) = n - i by omega])
            exact L86 (n + 2) 0 0 df0 h2 (by omega) hp2 fr2 (Nat.le_refl _) rfl
          · refine zV_aload_nr dX6_court_55 rfl rfl ?_
            refine gf6_42 rfl (rfl) dX6_court_56 ?_
            refine zV_teq (w := zrv E 68) rfl ?_
            refine zV_iconst dX6_court_59 ?_
            refine zV_iload_n dX6_court_60 rfl rfl ?_
            refine zV_iadd dX6_court_61 ?_
            refine zV_teq (w := ziv ((5 + s : Nat) : Int)) (congrArg ziv (by omega)) ?_
            refine zV_iload_n dX6_court_62 rfl rfl ?_
            refine zV_iconst dX6_court_63 ?_
            refine zR_icmp_ne (tgt := 72) dX6_court_64 (by decide) (by omega) (by decide) (fun h64 => ?_) (fun h64 => ?_)
            · have v5 : (0 : Int) = if 5 + s = 7 then 60 else 0 := by rw [if_neg (by omega)]
              refine zV_iconst dX6_court_72 ?_
              refine zV_iastoreN (i := (5 + s)) (N := 10) (rfl) (by omega) (by decide) dX6_court_73 ?_
              refine zV_iinc dX6_court_74 rfl (Nat.le_of_ble_eq_true rfl) rfl ?_
              refine zV_goto (tgt := 50) dX6_court_77 (by decide) ?_
              exact ih (s + 1) _ (by omega) (by omega) (fun c2 e => by rw [zup_fn e]; exact o1 c2 e) (fun j => by
                rw [zup_at]
                by_cases e : j = 5 + s
                · rw [if_pos e, if_pos (by omega), e]; exact v5
                · rw [if_neg e, o2 j]; exact ite_congr (propext ⟨fun z => by omega, fun z => by omega⟩) (fun _ => rfl) (fun _ => rfl))
            · have v5 : (60 : Int) = if 5 + s = 7 then 60 else 0 := by rw [if_pos (by omega)]
              refine zV_bipush dX6_court_67 (by decide) ?_
              refine zV_goto (tgt := 73) dX6_court_69 (by decide) ?_
              refine zV_iastoreN (i := (5 + s)) (N := 10) (rfl) (by omega) (by decide) dX6_court_73 ?_
              refine zV_iinc dX6_court_74 rfl (Nat.le_of_ble_eq_true rfl) rfl ?_
              refine zV_goto (tgt := 50) dX6_court_77 (by decide) ?_
              exact ih (s + 1) _ (by omega) (by omega) (fun c2 e => by rw [zup_fn e]; exact o1 c2 e) (fun j => by
                rw [zup_at]
                by_cases e : j = 5 + s
                · rw [if_pos e, if_pos (by omega), e]; exact v5
                · rw [if_neg e, o2 j]; exact ite_congr (propext ⟨fun z => by omega, fun z => by omega⟩) (fun _ => rfl) (fun _ => rfl))
      have l0 := L50 6 0 (cG0 h n) (by omega) (by omega) (fun _ _ => rfl) (fun j => by rw [if_neg (by omega), cG0_c (by decide)])
      unfold cG0 at l0
      rw [← hxn] at l0
      exact l0
    · refine zV_aload_nr dX6_court_17 rfl rfl ?_
      refine zV_iconst dX6_court_18 ?_
      refine zV_callV (As := [ziv 1]) lk6_300 (rfl) rfl rfl (c6_fail (d - 1) 0) ⟨by show _ + 1 ≤ d; omega, by show _ ≤ k; omega⟩ rfl (Nat.le_of_ble_eq_true rfl) dX6_court_19 (fun _ _ z => z.elim) (fun r h2 q => ?_)
      obtain ⟨rfl, hh⟩ := q
      rw [hh]
      clear hh
      exact zV_ireturn dX6_court_22 rfl (Nat.zero_le _) ⟨fun _ => ⟨rfl, rfl⟩, fun z => absurd z (by omega)⟩
