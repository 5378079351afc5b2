/-! YEARS -/
theorem zand_k (x : Int) : 0 ≤ zand x 32767 ∧ zand x 32767 ≤ 32767 := by
  unfold zand
  have h1 : (Int32.ofInt x &&& Int32.ofInt 32767).toBitVec.toNat ≤ 32767 := by
    rw [Int32.toBitVec_and, BitVec.toNat_and]
    exact Nat.and_le_right
  have h2 : (Int32.ofInt x &&& Int32.ofInt 32767).toInt = ((Int32.ofInt x &&& Int32.ofInt 32767).toBitVec.toNat : Int) := BitVec.toInt_eq_toNat_of_lt (by omega)
  omega
def drS (s : Int) : Int := s * 1103515245 + 12345
def drV (s m : Int) : Int := zand (zshr (drS s) 16) 32767 % m
theorem drV_lo (s : Int) {m : Int} (hm : 0 < m) : 0 ≤ drV s m ∧ drV s m < m := ⟨Int.emod_nonneg _ (by omega), Int.emod_lt_of_pos _ hm⟩
abbrev zY : Type := Int × (Nat → Int) × (Nat → Int) × Int
/-- what befalls: seed, places, hands, pot -/
def befS (n jn : Nat) (y : zY) : zY :=
  if drV y.1 6 = 0 then (if 0 < n then (drS (drS (drS y.1)), setF y.2.1 (drV (drS y.1) n).toNat (drV (drS (drS y.1)) 12), y.2.2) else (drS y.1, y.2))
  else if drV y.1 6 = 1 then (if 0 < jn then (drS (drS (drS y.1)), y.2.1, setF y.2.2.1 (drV (drS y.1) jn).toNat (drV (drS (drS y.1)) 13), y.2.2.2) else (drS y.1, y.2))
  else if drV y.1 6 = 2 then (drS (drS y.1), y.2.1, y.2.2.1, drV (drS y.1) 100) else (drS y.1, y.2)
def yOf (h : zH) : zY := (h 0 15, h 54, h 56, h 53 5)
def yag (n jn : Nat) (a b : zY) : Prop := a.1 = b.1 ∧ agn n a.2.1 b.2.1 ∧ agn jn a.2.2.1 b.2.2.1 ∧ a.2.2.2 = b.2.2.2
theorem befS_congr {n jn : Nat} {a b : zY} (h : yag n jn a b) : yag n jn (befS n jn a) (befS n jn b) := by
  obtain ⟨h1, h2, h3, h4⟩ := h
  unfold befS
  rw [h1, h4]
  split
  · split
    · exact ⟨rfl, agn_set h2, h3, h4⟩
    · exact ⟨rfl, h2, h3, h4⟩
  · split
    · split
      · exact ⟨rfl, h2, agn_set h3, rfl⟩
      · exact ⟨rfl, h2, h3, h4⟩
    · split
      · exact ⟨rfl, h2, h3, rfl⟩
      · exact ⟨rfl, h2, h3, h4⟩
theorem setF_lo {f : Nat → Int} {n i : Nat} {v lo hi : Int} (h : ∀ l, l < n → lo ≤ f l ∧ f l < hi) (hv : lo ≤ v ∧ v < hi) : ∀ l, l < n → lo ≤ setF f i v l ∧ setF f i v l < hi := fun l hl => by
  unfold setF; split; exact hv; exact h l hl
theorem befS_lo {n jn : Nat} {y : zY} (h2 : ∀ l, l < n → 0 ≤ y.2.1 l ∧ y.2.1 l < 12) (h3 : ∀ j, j < jn → 0 ≤ y.2.2.1 j ∧ y.2.2.1 j ≤ 12) (h4 : 0 ≤ y.2.2.2 ∧ y.2.2.2 ≤ 99) : (∀ l, l < n → 0 ≤ (befS n jn y).2.1 l ∧ (befS n jn y).2.1 l < 12) ∧ (∀ j, j < jn → 0 ≤ (befS n jn y).2.2.1 j ∧ (befS n jn y).2.2.1 j ≤ 12) ∧ (0 ≤ (befS n jn y).2.2.2 ∧ (befS n jn y).2.2.2 ≤ 99) := by
  have d12 := drV_lo (drS (drS y.1)) (m := 12) (by decide)
  have d13 := drV_lo (drS (drS y.1)) (m := 13) (by decide)
  have d100 := drV_lo (drS y.1) (m := 100) (by decide)
  unfold befS
  split
  · split
    · exact ⟨setF_lo h2 d12, h3, h4⟩
    · exact ⟨h2, h3, h4⟩
  · split
    · split
      · refine ⟨h2, fun j hj => ?_, h4⟩
        show 0 ≤ setF _ _ _ j ∧ setF _ _ _ j ≤ 12
        unfold setF; split
        · omega
        · exact h3 j hj
      · exact ⟨h2, h3, h4⟩
    · split
      · exact ⟨h2, h3, by show 0 ≤ drV _ 100 ∧ drV _ 100 ≤ 99; omega⟩
      · exact ⟨h2, h3, h4⟩
def befell (h : zH) (n jn : Nat) (h' : zH) : Prop := (∀ c2 : Nat, c2 ≠ 0 → c2 ≠ 53 → c2 ≠ 54 → c2 ≠ 56 → h' c2 = h c2) ∧ (∀ j, j ≠ 15 → h' 0 j = h 0 j) ∧ (∀ j, j ≠ 5 → h' 53 j = h 53 j) ∧ yOf h' = befS n jn (yOf h)
def gY (g : zG) (y : zY) : zG := gPo (gHa g y.2.2.1) y.2.2.2
/-- k years: what stands, the last verdict -/
def yrS (n jn : Nat) (g : zG) (ca : Int) (y : zY) : Nat → zY × Int
  | 0 => (y, -1)
  | k + 1 => (((befS n jn (yrS n jn g ca y k).1).1, (runG n jn (gY g (befS n jn (yrS n jn g ca y k).1)) (ca + k) ((befS n jn (yrS n jn g ca y k).1).2.1, 0, 0, fun _ => 0) 1).1, (befS n jn (yrS n jn g ca y k).1).2.2), oneV n jn (gY g (befS n jn (yrS n jn g ca y k).1)) (ca + k) (befS n jn (yrS n jn g ca y k).1).2.1)
/-- a cup that is heard once -/
theorem heard_1 {h1 h2 : zH} {t n jn : Nat} {g : zG} {p : Nat → Int} {ca : Int} (ht : isCourt t) (hp : agn n (h1 54) p) (hg : gag n jn (gOf h1 53 t) g) (h6 : h1 53 6 = ca) (hca : ca + 1 ≤ 100000) (hc : cupOK h1 53 n jn) (h9 : heard h1 53 t n jn h2) :
    agn n (h2 54) (runG n jn g ca (p, 0, 0, fun _ => 0) 1).1 ∧ h2 53 7 = oneV n jn g ca p ∧ gag n jn (gOf h2 53 t) g ∧ h2 53 6 = ca + 1 ∧ cupOK h2 53 n jn ∧ rkOK h2 := by
  have ht9 : t = 2 ∨ t = 16 := ht
  obtain ⟨b0, b1, b2, b3, b4, b5, b6, b7⟩ := h9
  have hX : caseX h1 53 t n jn jn = seatsG n jn (gOf h1 53 t) ca (h1 54, g.2.2.2.1, h1 58) jn := by
    rw [← hg.2.2.2.1, ← h6]; rfl
  have hcc := seatsG_congr hg (fun s hs => hc.2.2.2.2.1 s hs) (ca := ca) (lev := g.2.2.2.1) (s1 := h1 58) (s2 := fun _ => 0) hp jn (Nat.le_refl _)
  rw [← hX] at hcc
  have e7 := hg.2.2.2.2.2.2
  have hlo := caseX_lo (h := h1) (c := 53) (t := t) (n := n) (jn := jn) hc.2.1 hc.2.2.2.2.2.1 jn
  have cc : ∀ o, o ≤ 4 → 2 ≤ o → h2 (53 + o) = h1 (53 + o) := fun o o1 o2 => b0 (53 + o) (by omega) (by omega) (by omega) (by omega) (by omega) (by omega)
  have ct : ∀ o, o ≤ 11 → h2 (t + o) = h1 (t + o) := fun o ho => b0 (t + o) (by omega) (by omega) (by omega) (by omega) (by omega) (by omega)
  have eg : gOf h2 53 t = gOf h1 53 t := by
    unfold gOf
    rw [cc 4 (by omega) (by omega), cc 3 (by omega) (by omega), cc 2 (by omega) (by omega), b4, ct 2 (by omega), ct 6 (by omega), ct 10 (by omega), ruleV_congr (ct 7 (by omega)) (ct 8 (by omega)) (ct 9 (by omega)), ruleV_congr (ct 7 (by omega)) (ct 8 (by omega)) (ct 9 (by omega))]
  have ez : ca + ((0 : Nat) : Int) = ca := by omega
  refine ⟨?_, ?_, by rw [eg]; exact hg, by rw [b5, h6], ?_, b7⟩
  · rw [show h2 54 = _ from b1]
    show agn n _ (seatsG n jn g (ca + ((0 : Nat) : Int)) _ jn).1
    rw [ez]; exact hcc.1
  · rw [b6]
    show verdS _ n _ (h1 53 6) (gOf h1 53 t).2.2.2.2.2.2.2.2.1 (gOf h1 53 t).2.2.2.2.2.2.2.2.2 = verdS (seatsG n jn g (ca + ((0 : Nat) : Int)) _ jn).1 n (seatsG n jn g (ca + ((0 : Nat) : Int)) _ jn).2.1 (ca + ((0 : Nat) : Int)) _ _
    rw [ez, e7, h6, hcc.2.1, verdS_congr hcc.1]; rfl
  · obtain ⟨c1, c2, c3, c4, c5, c6, c7⟩ := hc
    refine ⟨c1, ?_, ?_, ?_, ?_, by rw [b4]; exact c6, by rw [b5]; omega⟩
    · rw [show h2 (53 + 1) = _ from b1]; exact hlo.1
    · rw [cc 2 (by omega) (by omega)]; exact c3
    · rw [cc 3 (by omega) (by omega)]; exact c4
    · rw [cc 4 (by omega) (by omega)]; exact c5
/-- the trial behind k years -/
def yI (h : zH) (t n jn : Nat) (sd : Int) (k : Nat) (h1 : zH) : Prop :=
  (∀ c2 : Nat, c2 ≠ 0 → (c2 < 28 ∨ (30 < c2 ∧ c2 < 53) ∨ 63 < c2) → h1 c2 = h c2) ∧ (∀ j, j ≠ 15 → h1 0 j = h 0 j) ∧ yag n jn (yOf h1) (yrS n jn (gOf h 32 t) (h 32 6) (sd, h 33, h 35, h 32 5) k).1 ∧
  gag n jn (gOf h1 53 t) (gY (gOf h 32 t) (yrS n jn (gOf h 32 t) (h 32 6) (sd, h 33, h 35, h 32 5) k).1) ∧ h1 53 6 = h 32 6 + k ∧ cupOK h1 53 n jn ∧ rkOK h1
theorem yI_q {h h1 : zH} {t n jn k : Nat} {sd : Int} (a : yI h t n jn sd k h1) : qry h h1 := ⟨a.1, a.2.1, a.2.2.2.2.2.2⟩
theorem yI_ct {h h1 : zH} {t n jn k : Nat} {sd : Int} (hct : courtOK h t n jn) (a : yI h t n jn sd k h1) : courtOK h1 t n jn := by
  have ht9 : t = 2 ∨ t = 16 := hct.1
  exact courtOK_congr (fun o ho => a.1 (t + o) (by omega) (by omega)) hct
/-- a year -/
theorem yI_s {h h1 h2 h3 : zH} {t n jn k : Nat} {sd : Int} (hct : courtOK h t n jn) (hk : h 32 6 + k + 1 ≤ 100000) (a : yI h t n jn sd k h1) (b : befell h1 n jn h2) (h9 : heard h2 53 t n jn h3) : yI h t n jn sd (k + 1) h3 ∧ h3 53 7 = (yrS n jn (gOf h 32 t) (h 32 6) (sd, h 33, h 35, h 32 5) (k + 1)).2 := by
  have ht9 : t = 2 ∨ t = 16 := hct.1
  obtain ⟨a1, a2, a3, a4, a5, a6, a7⟩ := a
  obtain ⟨b1, b2, b3, b4⟩ := b
  have hy := befS_congr a3
  rw [← b4] at hy
  obtain ⟨y1, y2, y3, y4⟩ := hy
  have ct : ∀ o, o ≤ 11 → h2 (t + o) = h1 (t + o) := fun o ho => b1 (t + o) (by omega) (by omega) (by omega) (by omega)
  have e57 : h2 57 = h1 57 := b1 57 (by omega) (by omega) (by omega) (by omega)
  have e55 : h2 55 = h1 55 := b1 55 (by omega) (by omega) (by omega) (by omega)
  have hg2 : gag n jn (gOf h2 53 t) (gY (gOf h 32 t) (befS n jn (yrS n jn (gOf h 32 t) (h 32 6) (sd, h 33, h 35, h 32 5) k).1)) := by
    obtain ⟨p1, p2, p3, p4, p5, p6, p7⟩ := a4
    have r0 := ruleV_congr (h := h1) (h1 := h2) (t := t) (ru := 0) (ct 7 (by omega)) (ct 8 (by omega)) (ct 9 (by omega))
    have r1 := ruleV_congr (h := h1) (h1 := h2) (t := t) (ru := 1) (ct 7 (by omega)) (ct 8 (by omega)) (ct 9 (by omega))
    refine ⟨?_, y3, ?_, y4, ?_, ?_, ?_⟩
    · show agn jn (h2 57) _; rw [e57]; exact p1
    · show agn jn (h2 55) _; rw [e55]; exact p3
    · show agn n (h2 (t + 2)) _; rw [ct 2 (by omega)]; exact p5
    · show agn jn (h2 (t + 6)) _; rw [ct 6 (by omega)]; exact p6
    · show (h2 (t + 10) 0, ruleV h2 t 0, h2 (t + 10) 1, ruleV h2 t 1) = _; rw [ct 10 (by omega), r0, r1]; exact p7
  have e6 : h2 53 6 = h 32 6 + k := by rw [b3 6 (by decide)]; exact a5
  obtain ⟨c1, c2, c3, c4, c5, c6, c7⟩ := a6
  have yl := befS_lo (n := n) (jn := jn) (y := yOf h1) c2 c4 c6
  rw [← b4] at yl
  have hc2 : cupOK h2 53 n jn := ⟨c1, yl.1, by rw [show h2 (53 + 2) = h1 (53 + 2) from e55]; exact c3, yl.2.1, by rw [show h2 (53 + 4) = h1 (53 + 4) from e57]; exact c5, yl.2.2, by rw [e6]; omega⟩
  have w := heard_1 hct.1 y2 hg2 e6 (by omega) hc2 h9
  obtain ⟨q0, q1, q2, q3, q4, q5, q6, q7⟩ := h9
  refine ⟨⟨fun c2 z hh => by rw [q0 c2 (by omega) (by omega) (by omega) (by omega) (by omega) (by omega), b1 c2 z (by omega) (by omega) (by omega)]; exact a1 c2 z hh, fun j hj => by rw [q0 0 (by decide) (by decide) (by decide) (by decide) (by decide) (by decide), b2 j hj]; exact a2 j hj, ⟨?_, w.1, ?_, ?_⟩, w.2.2.1, by rw [w.2.2.2.1]; omega, w.2.2.2.2.1, w.2.2.2.2.2⟩, w.2.1⟩
  · show h3 0 15 = _; rw [q0 0 (by decide) (by decide) (by decide) (by decide) (by decide) (by decide)]; exact y1
  · show agn jn (h3 56) _; rw [q0 56 (by decide) (by decide) (by decide) (by decide) (by decide) (by decide)]; exact y3
  · show h3 53 5 = _; rw [q4]; exact y4
theorem argS_pos (f : Nat → Int) (m : Nat) : argS f (m + 1) ≠ -1 := by
  rw [argS_s]
  split
  · omega
  · rename_i h; exact fun z => h (Or.inl z)
def yV (h : zH) (t n jn : Nat) (sd : Int) (k : Nat) : Int := (yrS n jn (gOf h 32 t) (h 32 6) (sd, h 33, h 35, h 32 5) k).2
theorem yV_lo (h : zH) (t n jn : Nat) (sd : Int) (k : Nat) : 0 ≤ yV h t n jn sd (k + 1) ∧ yV h t n jn sd (k + 1) < 5 := oneV_lo _ _ _ _ _
def yWs (w : Nat → Int) (jn : Nat) (f : Nat → Int) : Nat → Int
  | 0 => 0
  | k + 1 => yWs w jn f k + bitC (ptS w (f (k + 1)) jn)
def yeV (h : zH) (t n jn : Nat) (sd y w : Int) : Int :=
  if w = 2 then yWs (h (t + 5)) jn (yV h t n jn sd) y.toNat else if w = 0 then oftS (yV h t n jn sd) (argS (fun v => oftS (yV h t n jn sd) v y.toNat) 5) y.toNat else if y = 0 then -1 else argS (fun v => oftS (yV h t n jn sd) v y.toNat) 5

set_option maxRecDepth 100000 in
theorem c5_draw {E : zE} {h : zH} {m : Int} (d k : Nat) (hm : 1 ≤ m ∧ m ≤ 1000) : zCal E mX5_draw d k [zrv E 0, ziv m] h (fun r h' => r = some (ziv (drV (h 0 15) m)) ∧ h' = zup h 0 15 (drS (h 0 15))) (fun _ _ => False) := by
  refine zCal_of (by decide) (Nat.le_of_ble_eq_true rfl) (fun a => ?_)
  show zV _ 0 0 [zrv E 0, ziv m] [] _
  refine zV_aload_nr dX5_draw_0 rfl rfl ?_
  refine zV_aload_nr dX5_draw_1 rfl rfl ?_
  refine gf5_340 rfl rfl dX5_draw_2 ?_
  refine zV_ldcw (v := 1103515245) kc5_349 dX5_draw_5 ?_
  refine zV_imul dX5_draw_8 ?_
  refine zV_sipush dX5_draw_9 (by decide) ?_
  refine zV_iadd dX5_draw_12 ?_
  refine pf5_340 rfl (rfl) dX5_draw_13 ?_
  refine zV_iload_n dX5_draw_16 rfl rfl ?_
  refine zV_iconst dX5_draw_17 ?_
  refine zR_icmp_ge (tgt := 25) dX5_draw_18 (by decide) (by omega) (by omega) (fun h18 => ?_) (fun h18 => ?_)
  · refine zV_aload_nr dX5_draw_25 rfl rfl ?_
    refine gf5_340 rfl rfl dX5_draw_26 ?_
    refine zV_bipush dX5_draw_29 (by decide) ?_
    refine zV_ishr dX5_draw_31 ?_
    refine zV_sipush dX5_draw_32 (by decide) ?_
    refine zV_iand dX5_draw_35 ?_
    refine zV_iload_n dX5_draw_36 rfl rfl ?_
    rw [zup_at, if_pos rfl]
    have zk := zand_k (zshr (h 0 15 * 1103515245 + 12345) 16)
    refine zV_irem dX5_draw_37 (by rw [zn_of (by omega) (by omega)]; omega) ?_
    rw [zrem_eq (by omega) (by omega), Int.tmod_eq_emod_of_nonneg zk.1]
    exact zV_ireturn dX5_draw_38 rfl (Nat.zero_le _) ⟨rfl, rfl⟩
  · exact absurd h18 (by omega)
set_option maxRecDepth 100000 in
theorem c5_befall {E : zE} {h : zH} {t n jn : Nat} (d k : Nat) (hd : 1 ≤ d) (k0 : h 0 3 = (t : Int)) (hct : courtOK h t n jn) : zCal E mX5_befall d k [zrv E 0] h (fun r h' => r = none ∧ befell h n jn h') (fun _ _ => False) := by
  refine zCal_of (by decide) (Nat.le_of_ble_eq_true rfl) (fun a => ?_)
  show zV _ 0 0 [zrv E 0, .null] [] _
  have ht := hct.1
  have ht9 : t = 2 ∨ t = 16 := ht
  have hn8 := hct.2.1
  have hjn8 := hct.2.2.1
  have d6 := drV_lo (h 0 15) (m := 6) (by decide)
  refine zV_aload_nr dX5_befall_0 rfl rfl ?_
  refine zV_bipush dX5_befall_1 (by decide) ?_
  refine zV_callV (As := [ziv 6]) lk5_346 (rfl) rfl rfl (c5_draw (d - 1) 0 (by decide)) ⟨by show _ + 1 ≤ d; omega, by show _ ≤ k; omega⟩ rfl (Nat.le_of_ble_eq_true rfl) dX5_befall_3 (fun _ _ z => z.elim) (fun r h5 q => ?_)
  obtain ⟨rfl, hh5⟩ := q
  have s1 : h5 0 15 = drS (h 0 15) := by rw [hh5, zup_at, if_pos rfl]
  have k0 : h5 0 3 = (t : Int) := by rw [hh5, zup_at, if_neg (by decide)]; exact k0
  have hl0 : h5 t 0 = (n : Int) := by rw [hh5, zup_fn (by omega)]; exact hct.2.2.2.1
  have hl3 : h5 t 3 = (jn : Int) := by rw [hh5, zup_fn (by omega)]; exact hct.2.2.2.2.1
  rcases (show (drV (h 0 15) 6) = 0 ∨ (drV (h 0 15) 6) = 1 ∨ (drV (h 0 15) 6) = 2 ∨ ((drV (h 0 15) 6) < 0 ∨ 2 < (drV (h 0 15) 6)) by omega) with hv6 | hv6 | hv6 | hv6
  · refine zV_teq (congrArg ziv hv6.symm) ?_
    refine zV_tableIn (off := 26) (tgt := 32) dX5_befall_6 (by decide) (by decide) (by decide) (by decide) ?_
    refine zV_aload_nr dX5_befall_32 rfl rfl ?_
    refine gf5_20 (t := t) (k0) rfl (rfl) dX5_befall_33 ?_
    refine gf5_106 rfl (court_0 ht) dX5_befall_36 ?_
    rw [hl0]
    refine zR_if_le (tgt := 128) dX5_befall_39 (by decide) (by omega) (fun h39 => ?_) (fun h39 => ?_)
    · exact zV_vreturn dX5_befall_128 rfl (Nat.zero_le _) ⟨rfl, fun c2 z0 z1 z2 z3 => by rw [hh5, zup_fn z0], fun j hj => by rw [hh5, zup_at, if_neg hj], fun j hj => by rw [hh5, zup_fn (by decide)], by
        unfold befS
        rw [show (yOf h).1 = h 0 15 from rfl, if_pos hv6, if_neg (by omega), hh5]
        simp [yOf, zup_at, zup_fn]⟩
    · refine zV_aload_nr dX5_befall_42 rfl rfl ?_
      refine zV_aload_nr dX5_befall_43 rfl rfl ?_
      refine gf5_20 (t := t) (k0) rfl (rfl) dX5_befall_44 ?_
      refine gf5_106 rfl (court_0 ht) dX5_befall_47 ?_
      rw [hl0]
      refine zV_callV (As := [ziv (n : Int)]) lk5_346 (rfl) rfl rfl (c5_draw (d - 1) 0 (by omega)) ⟨by show _ + 1 ≤ d; omega, by show _ ≤ k; omega⟩ rfl (Nat.le_of_ble_eq_true rfl) dX5_befall_50 (fun _ _ z => z.elim) (fun r h6 q => ?_)
      obtain ⟨rfl, hh6⟩ := q
      rw [s1]
      have s2 : h6 0 15 = drS (drS (h 0 15)) := by rw [hh6, zup_at, if_pos rfl, s1]
      have dn := drV_lo (drS (h 0 15)) (m := (n : Int)) (by omega)
      refine zV_istore_n dX5_befall_53 rfl (Nat.le_of_ble_eq_true rfl) rfl ?_
      refine zV_aload_nr dX5_befall_54 rfl rfl ?_
      refine gf5_51 rfl (rfl) dX5_befall_55 ?_
      refine zV_teq (w := zrv E 53) rfl ?_
      refine gf5_159 rfl (rfl) dX5_befall_58 ?_
      refine zV_teq (w := zrv E 54) rfl ?_
      refine zV_iload_n dX5_befall_61 rfl rfl ?_
      refine zV_aload_nr dX5_befall_62 rfl rfl ?_
      refine zV_bipush dX5_befall_63 (by decide) ?_
      refine zV_callV (As := [ziv 12]) lk5_346 (rfl) rfl rfl (c5_draw (d - 1) 0 (by decide)) ⟨by show _ + 1 ≤ d; omega, by show _ ≤ k; omega⟩ rfl (Nat.le_of_ble_eq_true rfl) dX5_befall_65 (fun _ _ z => z.elim) (fun r h7 q => ?_)
      obtain ⟨rfl, hh7⟩ := q
      rw [s2, hh7, s2, hh6, s1, hh5]
      refine zV_iastore (N := 8) (rfl) (by omega) (by decide) dX5_befall_68 ?_
      refine zV_goto (tgt := 128) dX5_befall_69 (by decide) ?_
      exact zV_vreturn dX5_befall_128 rfl (Nat.zero_le _) ⟨rfl, fun c2 z0 z1 z2 z3 => by rw [zup_fn z2, zup_fn z0, zup_fn z0, zup_fn z0], fun j hj => by rw [zup_fn (by decide), zup_at, if_neg hj, zup_at, if_neg hj, zup_at, if_neg hj], fun j hj => by rw [zup_fn (by decide), zup_fn (by decide), zup_fn (by decide), zup_fn (by decide)], by
          unfold befS
          rw [show (yOf h).1 = h 0 15 from rfl, if_pos hv6, if_pos (by omega)]
          unfold yOf
          rw [zup_set]
          simp [zup_at, zup_fn]⟩
  · refine zV_teq (congrArg ziv hv6.symm) ?_
    refine zV_tableIn (off := 66) (tgt := 72) dX5_befall_6 (by decide) (by decide) (by decide) (by decide) ?_
    refine zV_aload_nr dX5_befall_72 rfl rfl ?_
    refine gf5_20 (t := t) (k0) rfl (rfl) dX5_befall_73 ?_
    refine gf5_109 rfl (court_0 ht) dX5_befall_76 ?_
    rw [hl3]
    refine zR_if_le (tgt := 128) dX5_befall_79 (by decide) (by omega) (fun h79 => ?_) (fun h79 => ?_)
    · exact zV_vreturn dX5_befall_128 rfl (Nat.zero_le _) ⟨rfl, fun c2 z0 z1 z2 z3 => by rw [hh5, zup_fn z0], fun j hj => by rw [hh5, zup_at, if_neg hj], fun j hj => by rw [hh5, zup_fn (by decide)], by
        unfold befS
        rw [show (yOf h).1 = h 0 15 from rfl, if_neg (by omega), if_pos hv6, if_neg (by omega), hh5]
        simp [yOf, zup_at, zup_fn]⟩
    · refine zV_aload_nr dX5_befall_82 rfl rfl ?_
      refine zV_aload_nr dX5_befall_83 rfl rfl ?_
      refine gf5_20 (t := t) (k0) rfl (rfl) dX5_befall_84 ?_
      refine gf5_109 rfl (court_0 ht) dX5_befall_87 ?_
      rw [hl3]
      refine zV_callV (As := [ziv (jn : Int)]) lk5_346 (rfl) rfl rfl (c5_draw (d - 1) 0 (by omega)) ⟨by show _ + 1 ≤ d; omega, by show _ ≤ k; omega⟩ rfl (Nat.le_of_ble_eq_true rfl) dX5_befall_90 (fun _ _ z => z.elim) (fun r h6 q => ?_)
      obtain ⟨rfl, hh6⟩ := q
      rw [s1]
      have s2 : h6 0 15 = drS (drS (h 0 15)) := by rw [hh6, zup_at, if_pos rfl, s1]
      have dn := drV_lo (drS (h 0 15)) (m := (jn : Int)) (by omega)
      refine zV_istore_n dX5_befall_93 rfl (Nat.le_of_ble_eq_true rfl) rfl ?_
      refine zV_aload_nr dX5_befall_94 rfl rfl ?_
      refine gf5_51 rfl (rfl) dX5_befall_95 ?_
      refine zV_teq (w := zrv E 53) rfl ?_
      refine gf5_173 rfl (rfl) dX5_befall_98 ?_
      refine zV_teq (w := zrv E 56) rfl ?_
      refine zV_iload_n dX5_befall_101 rfl rfl ?_
      refine zV_aload_nr dX5_befall_102 rfl rfl ?_
      refine zV_bipush dX5_befall_103 (by decide) ?_
      refine zV_callV (As := [ziv 13]) lk5_346 (rfl) rfl rfl (c5_draw (d - 1) 0 (by decide)) ⟨by show _ + 1 ≤ d; omega, by show _ ≤ k; omega⟩ rfl (Nat.le_of_ble_eq_true rfl) dX5_befall_105 (fun _ _ z => z.elim) (fun r h7 q => ?_)
      obtain ⟨rfl, hh7⟩ := q
      rw [s2, hh7, s2, hh6, s1, hh5]
      refine zV_iastore (N := 8) (rfl) (by omega) (by decide) dX5_befall_108 ?_
      refine zV_goto (tgt := 128) dX5_befall_109 (by decide) ?_
      exact zV_vreturn dX5_befall_128 rfl (Nat.zero_le _) ⟨rfl, fun c2 z0 z1 z2 z3 => by rw [zup_fn z3, zup_fn z0, zup_fn z0, zup_fn z0], fun j hj => by rw [zup_fn (by decide), zup_at, if_neg hj, zup_at, if_neg hj, zup_at, if_neg hj], fun j hj => by rw [zup_fn (by decide), zup_fn (by decide), zup_fn (by decide), zup_fn (by decide)], by
          unfold befS
          rw [show (yOf h).1 = h 0 15 from rfl, if_neg (by omega), if_pos hv6, if_pos (by omega)]
          unfold yOf
          rw [zup_set]
          simp [zup_at, zup_fn]⟩
  · refine zV_teq (congrArg ziv hv6.symm) ?_
    refine zV_tableIn (off := 106) (tgt := 112) dX5_befall_6 (by decide) (by decide) (by decide) (by decide) ?_
    refine zV_aload_nr dX5_befall_112 rfl rfl ?_
    refine gf5_51 rfl (rfl) dX5_befall_113 ?_
    refine zV_teq (w := zrv E 53) rfl ?_
    refine zV_aload_nr dX5_befall_116 rfl rfl ?_
    refine zV_bipush dX5_befall_117 (by decide) ?_
    refine zV_callV (As := [ziv 100]) lk5_346 (rfl) rfl rfl (c5_draw (d - 1) 0 (by decide)) ⟨by show _ + 1 ≤ d; omega, by show _ ≤ k; omega⟩ rfl (Nat.le_of_ble_eq_true rfl) dX5_befall_119 (fun _ _ z => z.elim) (fun r h6 q => ?_)
    obtain ⟨rfl, hh6⟩ := q
    rw [s1, hh6, s1, hh5]
    refine pf5_118 rfl (rfl) dX5_befall_122 ?_
    refine zV_goto (tgt := 128) dX5_befall_125 (by decide) ?_
    exact zV_vreturn dX5_befall_128 rfl (Nat.zero_le _) ⟨rfl, fun c2 z0 z1 z2 z3 => by rw [zup_fn z1, zup_fn z0, zup_fn z0], fun j hj => by rw [zup_fn (by decide), zup_at, if_neg hj, zup_at, if_neg hj], fun j hj => by rw [zup_at, if_neg hj, zup_fn (by decide), zup_fn (by decide)], by
        unfold befS
        rw [show (yOf h).1 = h 0 15 from rfl, if_neg (by omega), if_neg (by omega), if_pos hv6]
        simp [yOf, zup_at, zup_fn]⟩
  · refine zV_tableOut (tgt := 128) dX5_befall_6 (by rw [zn_of (by omega) (by omega)]; omega) (by decide) ?_
    exact zV_vreturn dX5_befall_128 rfl (Nat.zero_le _) ⟨rfl, fun c2 z0 z1 z2 z3 => by rw [hh5, zup_fn z0], fun j hj => by rw [hh5, zup_at, if_neg hj], fun j hj => by rw [hh5, zup_fn (by decide)], by
        unfold befS
        rw [show (yOf h).1 = h 0 15 from rfl, if_neg (by omega), if_neg (by omega), if_neg (by omega), hh5]
        simp [yOf, zup_at, zup_fn]⟩
set_option maxRecDepth 100000 in
theorem c5_years {E : zE} {h : zH} {t n jn : Nat} {sd y w : Int} (hsd : -2147483648 ≤ sd ∧ sd ≤ 2147483647) (hy : -2147483648 ≤ y ∧ y ≤ 2147483647) (hw : -2147483648 ≤ w ∧ w ≤ 2147483647) (hwi : ∀ j, j < jn → 0 ≤ h (t + 5) j ∧ h (t + 5) j ≤ 4) (hi : tInv h t n jn) : zCal E mX5_years 12 4 [zrv E 0, ziv sd, ziv y, ziv w] h (fun r h' => (0 ≤ w ∧ w ≤ 2) ∧ (0 ≤ y ∧ y ≤ 60) ∧ r = some (ziv (yeV h t n jn sd y w)) ∧ qry h h') (fun e h' => h' = h ∧ ((e = NSE ∧ ¬ (0 ≤ w ∧ w ≤ 2)) ∨ (e = IAE ∧ ((0 ≤ w ∧ w ≤ 2) ∧ ¬ (0 ≤ y ∧ y ≤ 60))))) := by
  refine zCal_of (by decide) (Nat.le_of_ble_eq_true rfl) (fun a => ?_)
  show zV _ 0 0 [zrv E 0, ziv sd, ziv y, ziv w, .null, .null, .null] [] _
  have ht := hi.2.1.1
  have k0 := hi.1
  have hnum := hi.2.2.2.2
  have hn8 := hi.2.1.2.1
  have hjn8 := hi.2.1.2.2.1
  refine zV_iload_n dX5_years_0 rfl rfl ?_
  refine zV_iconst dX5_years_1 ?_
  refine zV_callS (As := [ziv w, ziv 2]) lk5_251 (c5_needWhat (by omega) (by decide)) ⟨Nat.le_of_ble_eq_true rfl, Nat.le_of_ble_eq_true rfl⟩ rfl (Nat.le_of_ble_eq_true rfl) dX5_years_2 (fun e h2 z => ⟨z.2.1, Or.inl ⟨z.1, z.2.2⟩⟩) (fun r h' q => ?_)
  obtain ⟨rfl, hh, cw⟩ := q
  rw [hh]
  refine zV_iload_n dX5_years_5 rfl rfl ?_
  refine zV_iconst dX5_years_6 ?_
  refine zV_bipush dX5_years_7 (by decide) ?_
  refine zV_callS (As := [ziv y, ziv 0, ziv 60]) lk5_208 (c5_needWithin (by omega) (by decide) (by decide)) ⟨Nat.le_of_ble_eq_true rfl, Nat.le_of_ble_eq_true rfl⟩ rfl (Nat.le_of_ble_eq_true rfl) dX5_years_9 (fun e h2 z => ⟨z.2.1, Or.inr ⟨z.1, cw, z.2.2⟩⟩) (fun r h' q => ?_)
  obtain ⟨rfl, hh, ci⟩ := q
  rw [hh]
  obtain ⟨kk, hkk⟩ : ∃ z : Nat, y = (z : Int) := ⟨y.toNat, by omega⟩
  refine zV_aload_nr dX5_years_12 rfl rfl ?_
  refine zV_iload_n dX5_years_13 rfl rfl ?_
  refine pf5_340 rfl (rfl) dX5_years_14 ?_
  refine zV_aload_nr dX5_years_17 rfl rfl ?_
  refine zV_callV (As := []) lk5_271 (rfl) rfl rfl (c5_clearTally 11 0) ⟨by show _ + 1 ≤ 12; omega, by show _ ≤ 4; omega⟩ rfl (Nat.le_of_ble_eq_true rfl) dX5_years_18 (fun _ _ z => z.elim) (fun r h5 q => ?_)
  obtain ⟨rfl, e5, z5⟩ := q
  refine zV_aload_nr dX5_years_21 rfl rfl ?_
  refine zV_callV (As := []) lk5_248 (rfl) rfl rfl (c5_startTrial 11 0 (by decide)) ⟨by show _ + 1 ≤ 12; omega, by show _ ≤ 4; omega⟩ rfl (Nat.le_of_ble_eq_true rfl) dX5_years_22 (fun _ _ z => z.elim) (fun r h' q => ?_)
  obtain ⟨rfl, q⟩ := q
  have yi0 : yI h t n jn sd 0 h' := by
    have ht9 : t = 2 ∨ t = 16 := ht
    have tr := tri_0' (h := zup h 0 15 sd) (t := t) (n := n) (jn := jn) (h0 := h5) (by
      obtain ⟨i0, i1, i2, i3, i4⟩ := hi
      obtain ⟨c1, c2, c3, c4, c5, c6, c7⟩ := i2
      exact ⟨by rw [zup_at, if_neg (by decide)]; exact i0, courtOK_congr (fun o ho => zup_fn (by omega)) i1, ⟨c1, by rw [zup_fn (by decide)]; exact c2, by rw [zup_fn (by decide)]; exact c3, by rw [zup_fn (by decide)]; exact c4, by rw [zup_fn (by decide)]; exact c5, by rw [zup_fn (by decide)]; exact c6, by rw [zup_fn (by decide)]; exact c7⟩, fun j j1 j2 => by rw [zup_fn (by decide)]; exact i3 j j1 j2, by rw [zup_fn (by decide)]; exact i4⟩) (fun c2 _ => e5 c2 (by omega)) (fun c2 _ => e5 c2 (by omega)) q
    have eg : gOf (zup h 0 15 sd) 32 t = gOf h 32 t := by
      unfold gOf
      rw [ruleV_congr (zup_fn (by omega)) (zup_fn (by omega)) (zup_fn (by omega)), ruleV_congr (zup_fn (by omega)) (zup_fn (by omega)) (zup_fn (by omega)), zup_fn (by decide), zup_fn (by decide), zup_fn (by decide), zup_fn (by decide), zup_fn (by omega), zup_fn (by omega), zup_fn (by omega)]
    rw [eg] at tr
    obtain ⟨a0, a1, a2, a3, a4, a5, a6⟩ := tr
    refine ⟨fun c2 z hh => by rw [a0 c2 hh, zup_fn z], fun j hj => by rw [a0 0 (by omega), zup_at, if_neg hj], ⟨?_, ?_, a3.2.1, a3.2.2.2.1⟩, a3, by rw [a4, zup_fn (by decide)], a5, a6⟩
    · show h' 0 15 = sd
      rw [a0 0 (by omega), zup_at, if_pos rfl]
    · have a1' : agn n (h' 54) (zup h 0 15 sd 33) := a1
      rw [zup_fn (by decide)] at a1'; exact a1'
  have z6 : ∀ v : Nat, v < 5 → h' 59 v = 0 := fun v hv => by rw [q.1 59 (by decide) (by decide) (by decide) (by decide) (by decide)]; exact z5 v (by omega)
  refine zV_iconst dX5_years_25 ?_
  refine zV_istore dX5_years_26 (Nat.le_of_ble_eq_true rfl) rfl ?_
  refine zV_iconst dX5_years_28 ?_
  refine zV_istore dX5_years_29 (Nat.le_of_ble_eq_true rfl) rfl ?_
  have L31 : ∀ (m : Nat) (s : Nat) (h1 : zH), (kk + 1 ≤ s + m) → (s ≤ kk) → (yI h t n jn sd s h1) → (∀ v : Nat, v < 5 → h1 59 v = oftS (yV h t n jn sd) (v : Int) s) → zV (E, mX5_years, 12, 4, (fun r h' => (0 ≤ w ∧ w ≤ 2) ∧ (0 ≤ y ∧ y ≤ 60) ∧ r = some (ziv (yeV h t n jn sd y w)) ∧ qry h h'), (fun e h' => h' = h ∧ ((e = NSE ∧ ¬ (0 ≤ w ∧ w ≤ 2)) ∨ (e = IAE ∧ ((0 ≤ w ∧ w ≤ 2) ∧ ¬ (0 ≤ y ∧ y ≤ 60))))), a) 2 31 [zrv E 0, ziv sd, ziv y, ziv w, ziv (yWs (h (t + 5)) jn (yV h t n jn sd) s), ziv (s : Int), .null] [] h1 := by
    intro m
    induction m with
    | zero => intro s h1 hm_ hsn yi htl; exfalso; omega
    | succ m ih =>
      intro s h1 hm_ hsn yi htl
      have k0 : h1 0 3 = (t : Int) := by rw [yi.2.1 3 (by decide)]; exact hi.1
      have hct2 := yI_ct hi.2.1 yi
      refine zV_iload dX5_years_31 rfl ?_
      refine zV_iload_n dX5_years_33 rfl rfl ?_
      refine zR_icmp_ge (tgt := 93) dX5_years_34 (by decide) (by omega) (by omega) (fun h34 => ?_) (fun h34 => ?_)
      · refine zV_iload_n dX5_years_93 rfl rfl ?_
        refine zV_iconst dX5_years_94 ?_
        refine zR_icmp_ne (tgt := 101) dX5_years_95 (by decide) (by omega) (by omega) (fun h95 => ?_) (fun h95 => ?_)
        · refine zV_aload_nr dX5_years_101 rfl rfl ?_
          refine zV_iconst dX5_years_102 ?_
          refine zV_callV (As := [ziv 5]) lk5_274 (rfl) rfl rfl (c5_mostInTally (mm := 5) 11 0 (by decide) (fun i hi9 => by rw [htl i hi9]; have := oftS_lo (yV h t n jn sd) i s; omega)) ⟨by show _ + 1 ≤ 12; omega, by show _ ≤ 4; omega⟩ rfl (Nat.le_of_ble_eq_true rfl) dX5_years_103 (fun _ _ z => z.elim) (fun r h' q => ?_)
          obtain ⟨rfl, hh⟩ := q
          rw [hh, argS_congr (g := fun v => oftS (yV h t n jn sd) v y.toNat) 5 (fun i hi9 => by rw [htl i hi9, show y.toNat = s by omega])]
          have ap := argS_pos (fun v => oftS (yV h t n jn sd) v y.toNat) 4
          have al := argS_lo (fun v => oftS (yV h t n jn sd) v y.toNat) 5
          refine zV_istore dX5_years_106 (Nat.le_of_ble_eq_true rfl) rfl ?_
          refine zV_iload_n dX5_years_108 rfl rfl ?_
          refine zR_if_ne (tgt := 130) dX5_years_109 (by decide) (by omega) (fun h109 => ?_) (fun h109 => ?_)
          · refine zV_iload_n dX5_years_130 rfl rfl ?_
            refine zR_if_ne (tgt := 138) dX5_years_131 (by decide) (by omega) (fun h131 => ?_) (fun h131 => ?_)
            · refine zV_iload dX5_years_138 rfl ?_
              exact zV_ireturn dX5_years_140 rfl (Nat.le_of_ble_eq_true rfl) ⟨cw, ci, by unfold yeV; rw [if_neg h95, if_neg h109, if_neg h131], yI_q yi⟩
            · refine zV_iconst dX5_years_134 ?_
              refine zV_goto (tgt := 140) dX5_years_135 (by decide) ?_
              exact zV_ireturn dX5_years_140 rfl (Nat.le_of_ble_eq_true rfl) ⟨cw, ci, by unfold yeV; rw [if_neg h95, if_neg h109, if_pos h131], yI_q yi⟩
          · refine zV_iload dX5_years_112 rfl ?_
            refine zV_iconst dX5_years_114 ?_
            refine zR_icmp_ne (tgt := 122) dX5_years_115 (by decide) (by omega) (by omega) (fun h115 => ?_) (fun h115 => ?_)
            · refine zV_aload_nr dX5_years_122 rfl rfl ?_
              refine gf5_55 rfl (rfl) dX5_years_123 ?_
              refine zV_teq (w := zrv E 59) rfl ?_
              refine zV_iload dX5_years_126 rfl ?_
              refine zV_iaload (N := 8) (rfl) (by omega) (by decide) dX5_years_128 ?_
              exact zV_ireturn dX5_years_129 rfl (Nat.le_of_ble_eq_true rfl) ⟨cw, ci, by unfold yeV; rw [if_neg h95, if_pos h109]; congr 2; rw [htl _ (by omega)]; congr 1 <;> omega, yI_q yi⟩
            · exact absurd h115 ap
        · refine zV_iload dX5_years_98 rfl ?_
          exact zV_ireturn dX5_years_100 rfl (Nat.le_of_ble_eq_true rfl) ⟨cw, ci, by unfold yeV; rw [if_pos h95, show y.toNat = s by omega], yI_q yi⟩
      · refine zV_aload_nr dX5_years_37 rfl rfl ?_
        refine zV_callV (As := []) lk5_343 (rfl) rfl rfl (c5_befall 11 0 (by decide) k0 hct2) ⟨by show _ + 1 ≤ 12; omega, by show _ ≤ 4; omega⟩ rfl (Nat.le_of_ble_eq_true rfl) dX5_years_38 (fun _ _ z => z.elim) (fun r h5 q => ?_)
        obtain ⟨rfl, qb⟩ := q
        have ht9 : t = 2 ∨ t = 16 := ht
        have k5 : h5 0 3 = (t : Int) := by rw [qb.2.1 3 (by decide)]; exact k0
        have hct5 : courtOK h5 t n jn := courtOK_congr (fun o ho => qb.1 (t + o) (by omega) (by omega) (by omega) (by omega)) hct2
        have hrk5 : rkOK h5 := fun j j1 j2 => by rw [qb.1 28 (by decide) (by decide) (by decide) (by decide)]; exact yi.2.2.2.2.2.2 j j1 j2
        have hcu5 : cupOK h5 53 n jn := by
          obtain ⟨c1, c2, c3, c4, c5, c6, c7⟩ := yi.2.2.2.2.2.1
          have yl := befS_lo (n := n) (jn := jn) (y := yOf h1) c2 c4 c6
          rw [← qb.2.2.2] at yl
          exact ⟨c1, yl.1, by rw [show h5 (53 + 2) = h1 (53 + 2) from qb.1 55 (by decide) (by decide) (by decide) (by decide)]; exact c3, yl.2.1, by rw [show h5 (53 + 4) = h1 (53 + 4) from qb.1 57 (by decide) (by decide) (by decide) (by decide)]; exact c5, yl.2.2, by rw [qb.2.2.1 6 (by decide)]; exact c7⟩
        refine zV_aload_nr dX5_years_41 rfl rfl ?_
        refine zV_callV (As := []) lk5_264 (rfl) rfl rfl (c5_nextVerdict 11 0 (by decide) k5 hct5 hcu5 hrk5) ⟨by show _ + 1 ≤ 12; omega, by show _ ≤ 4; omega⟩ rfl (Nat.le_of_ble_eq_true rfl) dX5_years_42 (fun _ _ z => z.elim) (fun r h6 q => ?_)
        obtain ⟨rfl, qh⟩ := q
        obtain ⟨yi2, yv⟩ := yI_s hi.2.1 (by omega) yi qb qh
        rw [yv]
        rw [show (yrS n jn (gOf h 32 t) (h 32 6) (sd, h 33, h 35, h 32 5) (s + 1)).2 = yV h t n jn sd (s + 1) from rfl]
        have yl := yV_lo h t n jn sd s
        have q59 : h6 59 = h1 59 := by rw [qh.1 59 (by decide) (by decide) (by decide) (by decide) (by decide) (by decide), qb.1 59 (by decide) (by decide) (by decide) (by decide)]
        have k6 : h6 0 3 = (t : Int) := by rw [yi2.2.1 3 (by decide)]; exact hi.1
        refine zV_istore dX5_years_45 (Nat.le_of_ble_eq_true rfl) rfl ?_
        refine zV_iload dX5_years_47 rfl ?_
        refine zR_if_lt (tgt := 73) dX5_years_49 (by decide) (by omega) (fun h49 => ?_) (fun h49 => ?_)
        · exact absurd h49 (by omega)
        · refine zV_iload dX5_years_52 rfl ?_
          refine zV_aload_nr dX5_years_54 rfl rfl ?_
          refine gf5_55 rfl (rfl) dX5_years_55 ?_
          refine zV_teq (w := zrv E 59) rfl ?_
          refine zV_alen (t := 0) (N := 8) (rfl) dX5_years_58 ?_
          refine zR_icmp_ge (tgt := 73) dX5_years_59 (by decide) (by omega) (by omega) (fun h59 => ?_) (fun h59 => ?_)
          · exact absurd h59 (by omega)
          · refine zV_aload_nr dX5_years_62 rfl rfl ?_
            refine gf5_55 rfl (rfl) dX5_years_63 ?_
            refine zV_teq (w := zrv E 59) rfl ?_
            refine zV_iload dX5_years_66 rfl ?_
            refine zV_dup2 dX5_years_68 rfl rfl ?_
            refine zV_iaload (N := 8) (rfl) (by omega) (by decide) dX5_years_69 ?_
            refine zV_iconst dX5_years_70 ?_
            refine zV_iadd dX5_years_71 ?_
            refine zV_iastore (N := 8) (rfl) (by omega) (by decide) dX5_years_72 ?_
            have ht9 : t = 2 ∨ t = 16 := ht
            have k7 : zup h6 59 (yV h t n jn sd (s + 1)).toNat (h6 59 (yV h t n jn sd (s + 1)).toNat + 1) 0 3 = (t : Int) := by rw [zup_fn (by decide)]; exact k6
            have ew : zup h6 59 (yV h t n jn sd (s + 1)).toNat (h6 59 (yV h t n jn sd (s + 1)).toNat + 1) (t + 5) = h (t + 5) := by rw [zup_fn (by omega), yi2.1 (t + 5) (by omega) (by omega)]
            refine zV_iload dX5_years_73 rfl ?_
            refine zV_aload_nr dX5_years_75 rfl rfl ?_
            refine zV_iload dX5_years_76 rfl ?_
            refine zV_callV (As := [ziv (yV h t n jn sd (s + 1))]) lk5_187 (rfl) rfl rfl (c5_partyOf 11 0 k7 (courtOK_congr (fun o ho => zup_fn (by omega)) (yI_ct hi.2.1 yi2)) (by rw [ew]; exact hwi) (by omega)) ⟨by show _ + 1 ≤ 12; omega, by show _ ≤ 4; omega⟩ rfl (Nat.le_of_ble_eq_true rfl) dX5_years_78 (fun _ _ z => z.elim) (fun r h7 q => ?_)
            obtain ⟨rfl, hh⟩ := q
            rw [hh, ew]
            refine zV_callS (As := [ziv (ptS (h (t + 5)) (yV h t n jn sd (s + 1)) jn)]) lk5_302 (cJ_bitCount 11 0) ⟨by show _ + 1 ≤ 12; omega, by show _ ≤ 4; omega⟩ rfl (Nat.le_of_ble_eq_true rfl) dX5_years_81 (fun _ _ z => z.elim) (fun r h' q => ?_)
            obtain ⟨rfl, hh⟩ := q
            rw [hh]
            refine zV_iadd dX5_years_84 ?_
            refine zV_istore dX5_years_85 (Nat.le_of_ble_eq_true rfl) rfl ?_
            refine zV_iinc dX5_years_87 rfl (Nat.le_of_ble_eq_true rfl) rfl ?_
            refine zV_goto (tgt := 31) dX5_years_90 (by decide) ?_
            refine zV_drop 6 ?_
            refine ih (s + 1) _ (by omega) (by omega) ?_ (fun v hv => ?_)
            · obtain ⟨a1, a2, a3, a4, a5, a6, a7⟩ := yi2
              refine ⟨fun c2 z hh9 => by rw [zup_fn (by omega)]; exact a1 c2 z hh9, fun j hj => by rw [zup_fn (by decide)]; exact a2 j hj, ?_, ?_, by rw [zup_fn (by decide)]; exact a5, ?_, fun j j1 j2 => by rw [zup_fn (by decide)]; exact a7 j j1 j2⟩
              · have e : yOf (zup h6 59 (yV h t n jn sd (s + 1)).toNat (h6 59 (yV h t n jn sd (s + 1)).toNat + 1)) = yOf h6 := by unfold yOf; rw [zup_fn (by decide), zup_fn (by decide), zup_fn (by decide), zup_fn (by decide)]
                rw [e]; exact a3
              · have e : gOf (zup h6 59 (yV h t n jn sd (s + 1)).toNat (h6 59 (yV h t n jn sd (s + 1)).toNat + 1)) 53 t = gOf h6 53 t := by
                  unfold gOf
                  rw [ruleV_congr (zup_fn (by omega)) (zup_fn (by omega)) (zup_fn (by omega)), ruleV_congr (zup_fn (by omega)) (zup_fn (by omega)) (zup_fn (by omega)), zup_fn (by decide), zup_fn (by decide), zup_fn (by decide), zup_fn (by decide), zup_fn (by omega), zup_fn (by omega), zup_fn (by omega)]
                rw [e]; exact a4
              · obtain ⟨c1, c2, c3, c4, c5, c6, c7⟩ := a6
                exact ⟨c1, by rw [zup_fn (by decide)]; exact c2, by rw [zup_fn (by decide)]; exact c3, by rw [zup_fn (by decide)]; exact c4, by rw [zup_fn (by decide)]; exact c5, by rw [zup_fn (by decide)]; exact c6, by rw [zup_fn (by decide)]; exact c7⟩
            · rw [zup_at, q59]
              show _ = oftS _ _ (s + 1)
              by_cases e : v = (yV h t n jn sd (s + 1)).toNat
              · rw [if_pos e, ← e, htl v hv, show oftS (yV h t n jn sd) (v : Int) (s + 1) = oftS (yV h t n jn sd) (v : Int) s + 1 from if_pos (by omega)]
              · rw [if_neg e, htl v hv, show oftS (yV h t n jn sd) (v : Int) (s + 1) = oftS (yV h t n jn sd) (v : Int) s from if_neg (by omega)]
  exact L31 (kk + 1) 0 _ (by omega) (by omega) yi0 z6
