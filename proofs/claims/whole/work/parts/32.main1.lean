/-! WHAT WOULD BE: the trial's cup beside the one that is now -/
def tInv (h : zH) (t n jn : Nat) : Prop := h 0 3 = (t : Int) ∧ courtOK h t n jn ∧ cupOK h 32 n jn ∧ rkOK h ∧ h 32 6 ≤ 999
/-- k cases from now on -/
def nowR (h : zH) (t n jn k : Nat) : (Nat → Int) × Int × Int × (Nat → Int) := runH h 32 t n jn k
def seated (f : Nat → Int) (jn : Nat) (j : Nat) : Prop := ∃ s, s < jn ∧ f s = (j : Int)
/-- the trial behind k cases of G, X (what stays, and what there was) -/
def tri (h : zH) (t n jn : Nat) (g : zG) (x : (Nat → Int) × Int × Int × (Nat → Int)) (k : Nat) (h' : zH) : Prop :=
  (∀ c2 : Nat, (c2 < 28 ∨ (30 < c2 ∧ c2 < 53) ∨ 63 < c2) → h' c2 = h c2) ∧ agn n (h' 54) (runG n jn g (h 32 6) x k).1 ∧
  (1 ≤ k → h' 53 7 = (runG n jn g (h 32 6) x k).2.1 ∧ h' 53 8 = (runG n jn g (h 32 6) x k).2.2.1 ∧ ∀ j : Nat, seated g.1 jn j → h' 58 j = (runG n jn g (h 32 6) x k).2.2.2 j) ∧ gag n jn (gOf h' 53 t) g ∧ h' 53 6 = h 32 6 + k ∧ cupOK h' 53 n jn ∧ rkOK h'
theorem tri_ct {h h' : zH} {t n jn k : Nat} {g : zG} {x : (Nat → Int) × Int × Int × (Nat → Int)} (hct : courtOK h t n jn) (h0 : tri h t n jn g x k h') : courtOK h' t n jn := by
  have ht9 : t = 2 ∨ t = 16 := hct.1
  exact courtOK_congr (fun o ho => h0.1 (t + o) (by omega)) hct
theorem tri_s {h h1 h2 : zH} {t n jn k : Nat} {g : zG} {x : (Nat → Int) × Int × Int × (Nat → Int)} (hct : courtOK h t n jn) (hk : h 32 6 + k + 1 ≤ 100000) (h0 : tri h t n jn g x k h1) (h9 : heard h1 53 t n jn h2) : tri h t n jn g x (k + 1) h2 := by
  have ht9 : t = 2 ∨ t = 16 := hct.1
  obtain ⟨a0, a1, a2, a3, a4, a5, a6⟩ := h0
  obtain ⟨b0, b1, b2, b3, b4, b5, b6, b7⟩ := h9
  have hX : caseX h1 53 t n jn jn = seatsG n jn (gOf h1 53 t) (h 32 6 + k) (h1 54, g.2.2.2.1, h1 58) jn := by
    rw [← a3.2.2.2.1, ← a4]; rfl
  have hc := seatsG_congr a3 (fun s hs => a5.2.2.2.2.1 s hs) (ca := h 32 6 + k) (lev := g.2.2.2.1) (s1 := h1 58) (s2 := (runG n jn g (h 32 6) x k).2.2.2) a1 jn (Nat.le_refl _)
  rw [← hX] at hc
  have e7 := a3.2.2.2.2.2.2
  have ev : caseX h1 53 t n jn jn = caseX h1 53 t n jn jn := rfl
  have hsw : ∀ j : Nat, seated g.1 jn j → ∃ s, s < jn ∧ (gOf h1 53 t).1 s = (j : Int) := fun j ⟨s, s1, s2⟩ => ⟨s, s1, by rw [a3.1 s s1]; exact s2⟩
  have hlo := caseX_lo (h := h1) (c := 53) (t := t) (n := n) (jn := jn) a5.2.1 a5.2.2.2.2.2.1 jn
  have cc : ∀ o, o ≤ 4 → 2 ≤ o → h2 (53 + o) = h1 (53 + o) := fun o o1 o2 => b0 (53 + o) (by omega) (by omega) (by omega) (by omega) (by omega) (by omega)
  have ct : ∀ o, o ≤ 11 → h2 (t + o) = h1 (t + o) := fun o ho => b0 (t + o) (by omega) (by omega) (by omega) (by omega) (by omega) (by omega)
  have eg : gOf h2 53 t = gOf h1 53 t := by
    unfold gOf
    rw [cc 4 (by omega) (by omega), cc 3 (by omega) (by omega), cc 2 (by omega) (by omega), b4, ct 2 (by omega), ct 6 (by omega), ct 10 (by omega), ruleV_congr (ct 7 (by omega)) (ct 8 (by omega)) (ct 9 (by omega)), ruleV_congr (ct 7 (by omega)) (ct 8 (by omega)) (ct 9 (by omega))]
  refine ⟨fun c2 hh => (b0 c2 (by omega) (by omega) (by omega) (by omega) (by omega) (by omega)).trans (a0 c2 hh), ?_, fun _ => ⟨?_, ?_, fun j hj => ?_⟩, by rw [eg]; exact a3, by rw [b5, a4]; omega, ?_, b7⟩
  · rw [show h2 54 = _ from b1]; exact hc.1
  · rw [b6]
    show verdS _ n _ (h1 53 6) (gOf h1 53 t).2.2.2.2.2.2.2.2.1 (gOf h1 53 t).2.2.2.2.2.2.2.2.2 = _
    rw [e7, a4, hc.2.1, verdS_congr hc.1]; rfl
  · rw [b2]; exact hc.2.1
  · rw [show h2 58 = _ from b3]; exact hc.2.2 j (Or.inr (hsw j hj))
  · obtain ⟨c1, c2, c3, c4, c5, c6, c7⟩ := a5
    refine ⟨c1, ?_, ?_, ?_, ?_, by rw [b4]; exact c6, by rw [b5]; omega⟩
    · rw [show h2 (53 + 1) = _ from b1]; exact hlo.1
    · rw [cc 2 (by omega) (by omega)]; exact c3
    · rw [cc 3 (by omega) (by omega)]; exact c4
    · rw [cc 4 (by omega) (by omega)]; exact c5
theorem tri_0 {h h1 : zH} {t n jn : Nat} (hi : tInv h t n jn) (hc : copied h 32 53 h1) : tri h t n jn (gOf h 32 t) (xOf h 32) 0 h1 := by
  obtain ⟨i0, i1, i2, i3, i4⟩ := hi
  have ht9 : t = 2 ∨ t = 16 := i1.1
  obtain ⟨a0, a1, a2, a3, a4, a5, a6, a7, a8⟩ := hc
  have hn := i1.2.1
  have hjn := i1.2.2.1
  have ct : ∀ o, o ≤ 11 → h1 (t + o) = h (t + o) := fun o ho => a0 (t + o) (by omega) (by omega) (by omega) (by omega) (by omega)
  obtain ⟨c1, c2, c3, c4, c5, c6, c7⟩ := i2
  refine ⟨fun c2 hh => a0 c2 (by omega) (by omega) (by omega) (by omega) (by omega), agn_le hn a1, fun hh => absurd hh (by omega), ?_, by rw [a6]; simp, ?_, fun j j1 j2 => by rw [a0 28 (by decide) (by decide) (by decide) (by decide) (by decide)]; exact i3 j j1 j2⟩
  · unfold gOf
    rw [ct 2 (by omega), ct 6 (by omega), ct 10 (by omega), ruleV_congr (ct 7 (by omega)) (ct 8 (by omega)) (ct 9 (by omega)), ruleV_congr (ct 7 (by omega)) (ct 8 (by omega)) (ct 9 (by omega))]
    exact ⟨agn_le hjn a4, agn_le hjn a3, agn_le hjn a2, a5, agn_rfl _ _, agn_rfl _ _, rfl⟩
  · refine ⟨Or.inr (Or.inr rfl), fun l hl => ?_, fun j hj => ?_, fun j hj => ?_, fun s hs => ?_, by rw [a5]; exact c6, by rw [a6]; exact c7⟩
    · rw [a1 l (by omega)]; exact c2 l hl
    · rw [a2 j (by omega)]; exact c3 j hj
    · rw [a3 j (by omega)]; exact c4 j hj
    · rw [a4 s (by omega)]; exact c5 s hs
abbrev NSE : String := "java/util/NoSuchElementException"
abbrev IAE : String := "java/lang/IllegalArgumentException"

set_option maxRecDepth 100000 in
theorem c5_needLeaf {E : zE} {h : zH} {t n : Nat} {x : Int} (ht : isCourt t) (k0 : h 0 3 = (t : Int)) (hl : h t 0 = (n : Int)) (hn : n ≤ 8) (hx : -2147483648 ≤ x ∧ x ≤ 2147483647) : zCal E mX5_needLeaf 6 1 [zrv E 0, ziv x] h (fun r h' => r = none ∧ h' = h ∧ (0 ≤ x ∧ x < n)) (fun e h' => e = NSE ∧ h' = h ∧ ¬ (0 ≤ x ∧ x < n)) := by
  refine zCal_of (by decide) (Nat.le_of_ble_eq_true rfl) (fun a => ?_)
  show zV _ 0 0 [zrv E 0, ziv x] [] _
  refine zV_iload_n dX5_needLeaf_0 rfl rfl ?_
  refine zR_if_lt (tgt := 15) dX5_needLeaf_1 (by decide) (by omega) (fun h1 => ?_) (fun h1 => ?_)
  · exact zV_nse (i := 5) rfl rfl ⟨Nat.le_of_ble_eq_true rfl, Nat.le_of_ble_eq_true rfl⟩ dX5_needLeaf_15 dX5_needLeaf_18 dX5_needLeaf_19 dX5_needLeaf_21 dX5_needLeaf_24 ⟨rfl, rfl, by omega⟩
  · refine zV_iload_n dX5_needLeaf_4 rfl rfl ?_
    refine zV_aload_nr dX5_needLeaf_5 rfl rfl ?_
    refine gf5_20 (t := t) (k0) rfl (rfl) dX5_needLeaf_6 ?_
    refine gf5_106 rfl (court_0 ht) dX5_needLeaf_9 ?_
    rw [hl]
    refine zR_icmp_lt (tgt := 25) dX5_needLeaf_12 (by decide) (by omega) (by omega) (fun h12 => ?_) (fun h12 => ?_)
    · exact zV_vreturn dX5_needLeaf_25 rfl (Nat.le_of_ble_eq_true rfl) ⟨rfl, rfl, by omega⟩
    · exact zV_nse (i := 5) rfl rfl ⟨Nat.le_of_ble_eq_true rfl, Nat.le_of_ble_eq_true rfl⟩ dX5_needLeaf_15 dX5_needLeaf_18 dX5_needLeaf_19 dX5_needLeaf_21 dX5_needLeaf_24 ⟨rfl, rfl, by omega⟩
set_option maxRecDepth 100000 in
theorem c5_needJudge {E : zE} {h : zH} {t n : Nat} {x : Int} (ht : isCourt t) (k0 : h 0 3 = (t : Int)) (hl : h t 3 = (n : Int)) (hn : n ≤ 8) (hx : -2147483648 ≤ x ∧ x ≤ 2147483647) : zCal E mX5_needJudge 6 1 [zrv E 0, ziv x] h (fun r h' => r = none ∧ h' = h ∧ (0 ≤ x ∧ x < n)) (fun e h' => e = NSE ∧ h' = h ∧ ¬ (0 ≤ x ∧ x < n)) := by
  refine zCal_of (by decide) (Nat.le_of_ble_eq_true rfl) (fun a => ?_)
  show zV _ 0 0 [zrv E 0, ziv x] [] _
  refine zV_iload_n dX5_needJudge_0 rfl rfl ?_
  refine zR_if_lt (tgt := 15) dX5_needJudge_1 (by decide) (by omega) (fun h1 => ?_) (fun h1 => ?_)
  · exact zV_nse (i := 6) rfl rfl ⟨Nat.le_of_ble_eq_true rfl, Nat.le_of_ble_eq_true rfl⟩ dX5_needJudge_15 dX5_needJudge_18 dX5_needJudge_19 dX5_needJudge_21 dX5_needJudge_24 ⟨rfl, rfl, by omega⟩
  · refine zV_iload_n dX5_needJudge_4 rfl rfl ?_
    refine zV_aload_nr dX5_needJudge_5 rfl rfl ?_
    refine gf5_20 (t := t) (k0) rfl (rfl) dX5_needJudge_6 ?_
    refine gf5_109 rfl (court_0 ht) dX5_needJudge_9 ?_
    rw [hl]
    refine zR_icmp_lt (tgt := 25) dX5_needJudge_12 (by decide) (by omega) (by omega) (fun h12 => ?_) (fun h12 => ?_)
    · exact zV_vreturn dX5_needJudge_25 rfl (Nat.le_of_ble_eq_true rfl) ⟨rfl, rfl, by omega⟩
    · exact zV_nse (i := 6) rfl rfl ⟨Nat.le_of_ble_eq_true rfl, Nat.le_of_ble_eq_true rfl⟩ dX5_needJudge_15 dX5_needJudge_18 dX5_needJudge_19 dX5_needJudge_21 dX5_needJudge_24 ⟨rfl, rfl, by omega⟩
set_option maxRecDepth 100000 in
theorem c5_needPlace {E : zE} {h : zH} {x : Int} (hx : -2147483648 ≤ x ∧ x ≤ 2147483647) : zCal E mX5_needPlace 6 1 [ziv x] h (fun r h' => r = none ∧ h' = h ∧ (0 ≤ x ∧ x < 12)) (fun e h' => e = NSE ∧ h' = h ∧ ¬ (0 ≤ x ∧ x < 12)) := by
  refine zCal_of (by decide) (Nat.le_of_ble_eq_true rfl) (fun a => ?_)
  show zV _ 0 0 [ziv x] [] _
  refine zV_iload_n dX5_needPlace_0 rfl rfl ?_
  refine zR_if_lt (tgt := 10) dX5_needPlace_1 (by decide) (by omega) (fun h1 => ?_) (fun h1 => ?_)
  · exact zV_nse (i := 7) rfl rfl ⟨Nat.le_of_ble_eq_true rfl, Nat.le_of_ble_eq_true rfl⟩ dX5_needPlace_10 dX5_needPlace_13 dX5_needPlace_14 dX5_needPlace_16 dX5_needPlace_19 ⟨rfl, rfl, by omega⟩
  · refine zV_iload_n dX5_needPlace_4 rfl rfl ?_
    refine zV_bipush dX5_needPlace_5 (by decide) ?_
    refine zR_icmp_lt (tgt := 20) dX5_needPlace_7 (by decide) (by omega) (by omega) (fun h7 => ?_) (fun h7 => ?_)
    · exact zV_vreturn dX5_needPlace_20 rfl (Nat.le_of_ble_eq_true rfl) ⟨rfl, rfl, by omega⟩
    · exact zV_nse (i := 7) rfl rfl ⟨Nat.le_of_ble_eq_true rfl, Nat.le_of_ble_eq_true rfl⟩ dX5_needPlace_10 dX5_needPlace_13 dX5_needPlace_14 dX5_needPlace_16 dX5_needPlace_19 ⟨rfl, rfl, by omega⟩
set_option maxRecDepth 100000 in
theorem c5_needVerdict {E : zE} {h : zH} {x : Int} (hx : -2147483648 ≤ x ∧ x ≤ 2147483647) : zCal E mX5_needVerdict 6 1 [ziv x] h (fun r h' => r = none ∧ h' = h ∧ (0 ≤ x ∧ x < 5)) (fun e h' => e = NSE ∧ h' = h ∧ ¬ (0 ≤ x ∧ x < 5)) := by
  refine zCal_of (by decide) (Nat.le_of_ble_eq_true rfl) (fun a => ?_)
  show zV _ 0 0 [ziv x] [] _
  refine zV_iload_n dX5_needVerdict_0 rfl rfl ?_
  refine zR_if_lt (tgt := 9) dX5_needVerdict_1 (by decide) (by omega) (fun h1 => ?_) (fun h1 => ?_)
  · exact zV_nse (i := 8) rfl rfl ⟨Nat.le_of_ble_eq_true rfl, Nat.le_of_ble_eq_true rfl⟩ dX5_needVerdict_9 dX5_needVerdict_12 dX5_needVerdict_13 dX5_needVerdict_15 dX5_needVerdict_18 ⟨rfl, rfl, by omega⟩
  · refine zV_iload_n dX5_needVerdict_4 rfl rfl ?_
    refine zV_iconst dX5_needVerdict_5 ?_
    refine zR_icmp_lt (tgt := 19) dX5_needVerdict_6 (by decide) (by omega) (by omega) (fun h6 => ?_) (fun h6 => ?_)
    · exact zV_vreturn dX5_needVerdict_19 rfl (Nat.le_of_ble_eq_true rfl) ⟨rfl, rfl, by omega⟩
    · exact zV_nse (i := 8) rfl rfl ⟨Nat.le_of_ble_eq_true rfl, Nat.le_of_ble_eq_true rfl⟩ dX5_needVerdict_9 dX5_needVerdict_12 dX5_needVerdict_13 dX5_needVerdict_15 dX5_needVerdict_18 ⟨rfl, rfl, by omega⟩
set_option maxRecDepth 100000 in
theorem c5_needWhat {E : zE} {h : zH} {x y : Int} (hx : -2147483648 ≤ x ∧ x ≤ 2147483647) (hy : 0 ≤ y ∧ y ≤ 100) : zCal E mX5_needWhat 6 1 [ziv x, ziv y] h (fun r h' => r = none ∧ h' = h ∧ (0 ≤ x ∧ x ≤ y)) (fun e h' => e = NSE ∧ h' = h ∧ ¬ (0 ≤ x ∧ x ≤ y)) := by
  refine zCal_of (by decide) (Nat.le_of_ble_eq_true rfl) (fun a => ?_)
  show zV _ 0 0 [ziv x, ziv y] [] _
  refine zV_iload_n dX5_needWhat_0 rfl rfl ?_
  refine zR_if_lt (tgt := 9) dX5_needWhat_1 (by decide) (by omega) (fun h1 => ?_) (fun h1 => ?_)
  · exact zV_nse (i := 9) rfl rfl ⟨Nat.le_of_ble_eq_true rfl, Nat.le_of_ble_eq_true rfl⟩ dX5_needWhat_9 dX5_needWhat_12 dX5_needWhat_13 dX5_needWhat_15 dX5_needWhat_18 ⟨rfl, rfl, by omega⟩
  · refine zV_iload_n dX5_needWhat_4 rfl rfl ?_
    refine zV_iload_n dX5_needWhat_5 rfl rfl ?_
    refine zR_icmp_le (tgt := 19) dX5_needWhat_6 (by decide) (by omega) (by omega) (fun h6 => ?_) (fun h6 => ?_)
    · exact zV_vreturn dX5_needWhat_19 rfl (Nat.le_of_ble_eq_true rfl) ⟨rfl, rfl, by omega⟩
    · exact zV_nse (i := 9) rfl rfl ⟨Nat.le_of_ble_eq_true rfl, Nat.le_of_ble_eq_true rfl⟩ dX5_needWhat_9 dX5_needWhat_12 dX5_needWhat_13 dX5_needWhat_15 dX5_needWhat_18 ⟨rfl, rfl, by omega⟩
set_option maxRecDepth 100000 in
theorem c5_needWithin {E : zE} {h : zH} {x y z : Int} (hx : -2147483648 ≤ x ∧ x ≤ 2147483647) (hy : 0 ≤ y ∧ y ≤ 100) (hz : 0 ≤ z ∧ z ≤ 100) : zCal E mX5_needWithin 6 1 [ziv x, ziv y, ziv z] h (fun r h' => r = none ∧ h' = h ∧ (y ≤ x ∧ x ≤ z)) (fun e h' => e = IAE ∧ h' = h ∧ ¬ (y ≤ x ∧ x ≤ z)) := by
  refine zCal_of (by decide) (Nat.le_of_ble_eq_true rfl) (fun a => ?_)
  show zV _ 0 0 [ziv x, ziv y, ziv z] [] _
  refine zV_iload_n dX5_needWithin_0 rfl rfl ?_
  refine zV_iload_n dX5_needWithin_1 rfl rfl ?_
  refine zR_icmp_lt (tgt := 10) dX5_needWithin_2 (by decide) (by omega) (by omega) (fun h2 => ?_) (fun h2 => ?_)
  · exact zV_iae (i := 10) rfl rfl ⟨Nat.le_of_ble_eq_true rfl, Nat.le_of_ble_eq_true rfl⟩ dX5_needWithin_10 dX5_needWithin_13 dX5_needWithin_14 dX5_needWithin_16 dX5_needWithin_19 ⟨rfl, rfl, by omega⟩
  · refine zV_iload_n dX5_needWithin_5 rfl rfl ?_
    refine zV_iload_n dX5_needWithin_6 rfl rfl ?_
    refine zR_icmp_le (tgt := 20) dX5_needWithin_7 (by decide) (by omega) (by omega) (fun h7 => ?_) (fun h7 => ?_)
    · exact zV_vreturn dX5_needWithin_20 rfl (Nat.le_of_ble_eq_true rfl) ⟨rfl, rfl, by omega⟩
    · exact zV_iae (i := 10) rfl rfl ⟨Nat.le_of_ble_eq_true rfl, Nat.le_of_ble_eq_true rfl⟩ dX5_needWithin_10 dX5_needWithin_13 dX5_needWithin_14 dX5_needWithin_16 dX5_needWithin_19 ⟨rfl, rfl, by omega⟩
set_option maxRecDepth 100000 in
theorem c5_startTrial {E : zE} {h : zH} (d k : Nat) (hd : 2 ≤ d) : zCal E mX5_startTrial d k [zrv E 0] h (fun r h' => r = none ∧ copied h 32 53 h') (fun _ _ => False) := by
  refine zCal_of (by decide) (Nat.le_of_ble_eq_true rfl) (fun a => ?_)
  show zV _ 0 0 [zrv E 0] [] _
  refine zV_aload_nr dX5_startTrial_0 rfl rfl ?_
  refine gf5_51 rfl (rfl) dX5_startTrial_1 ?_
  refine zV_teq (w := zrv E 53) rfl ?_
  refine zV_aload_nr dX5_startTrial_4 rfl rfl ?_
  refine gf5_41 rfl (rfl) dX5_startTrial_5 ?_
  refine zV_teq (w := zrv E 31) rfl ?_
  refine gf5_112 rfl (rfl) dX5_startTrial_8 ?_
  refine zV_teq (w := zrv E 32) rfl ?_
  refine zV_callV (As := [zrv E 32]) lk5_244 (rfl) rfl rfl (c2_copyFrom (d - 1) 0 (by omega) (Or.inr (Or.inr rfl)) (Or.inl rfl) (by decide)) ⟨by show _ + 1 ≤ d; omega, by show _ ≤ k; omega⟩ rfl (Nat.le_of_ble_eq_true rfl) dX5_startTrial_11 (fun _ _ z => z.elim) (fun r h' q => ?_)
  obtain ⟨rfl, q⟩ := q
  exact zV_vreturn dX5_startTrial_14 rfl (Nat.zero_le _) ⟨rfl, q⟩
set_option maxRecDepth 100000 in
theorem c5_nextVerdict {E : zE} {h : zH} {t n jn : Nat} (d k : Nat) (hd : 4 ≤ d) (k0 : h 0 3 = (t : Int)) (hct : courtOK h t n jn) (hcu : cupOK h 53 n jn) (hrk : rkOK h) : zCal E mX5_nextVerdict d k [zrv E 0] h (fun r h' => r = some (ziv (h' 53 7)) ∧ heard h 53 t n jn h') (fun _ _ => False) := by
  refine zCal_of (by decide) (Nat.le_of_ble_eq_true rfl) (fun a => ?_)
  show zV _ 0 0 [zrv E 0] [] _
  have ht := hct.1
  refine zV_aload_nr dX5_nextVerdict_0 rfl rfl ?_
  refine gf5_51 rfl (rfl) dX5_nextVerdict_1 ?_
  refine zV_teq (w := zrv E 53) rfl ?_
  refine zV_aload_nr dX5_nextVerdict_4 rfl rfl ?_
  refine gf5_20 (t := t) (k0) rfl (rfl) dX5_nextVerdict_5 ?_
  refine zV_aload_nr dX5_nextVerdict_8 rfl rfl ?_
  refine gf5_34 rfl (rfl) dX5_nextVerdict_9 ?_
  refine zV_teq (w := zrv E 28) rfl ?_
  refine zV_callV (As := [zrv E t, zrv E 28]) lk5_234 (rfl) rfl rfl (c2_hear (d - 1) 0 (by omega) hct hcu hrk) ⟨by show _ + 1 ≤ d; omega, by show _ ≤ k; omega⟩ rfl (Nat.le_of_ble_eq_true rfl) dX5_nextVerdict_12 (fun _ _ z => z.elim) (fun r h' q => ?_)
  obtain ⟨rfl, q⟩ := q
  refine zV_aload_nr dX5_nextVerdict_15 rfl rfl ?_
  refine gf5_51 rfl (rfl) dX5_nextVerdict_16 ?_
  refine zV_teq (w := zrv E 53) rfl ?_
  refine gf5_121 rfl rfl dX5_nextVerdict_19 ?_
  exact zV_ireturn dX5_nextVerdict_22 rfl (Nat.zero_le _) ⟨rfl, q⟩
set_option maxRecDepth 100000 in
theorem c5_goAhead {E : zE} {h : zH} {t n jn : Nat} {y : Int} (d k : Nat) (hd : 4 ≤ d) (hi : tInv h t n jn) (hy : 0 ≤ y ∧ y ≤ 60) : zCal E mX5_goAhead d k [zrv E 0, ziv y] h (fun r h' => r = none ∧ tri h t n jn (gOf h 32 t) (xOf h 32) y.toNat h') (fun _ _ => False) := by
  refine zCal_of (by decide) (Nat.le_of_ble_eq_true rfl) (fun a => ?_)
  show zV _ 0 0 [zrv E 0, ziv y, .null] [] _
  have ht := hi.2.1.1
  have hnum := hi.2.2.2.2
  obtain ⟨kk, hkk⟩ : ∃ z : Nat, y = (z : Int) := ⟨y.toNat, by omega⟩
  refine zV_aload_nr dX5_goAhead_0 rfl rfl ?_
  refine zV_callV (As := []) lk5_248 (rfl) rfl rfl (c5_startTrial (d - 1) 0 (by omega)) ⟨by show _ + 1 ≤ d; omega, by show _ ≤ k; omega⟩ rfl (Nat.le_of_ble_eq_true rfl) dX5_goAhead_1 (fun _ _ z => z.elim) (fun r h' q => ?_)
  obtain ⟨rfl, q⟩ := q
  refine zV_iconst dX5_goAhead_4 ?_
  refine zV_istore_n dX5_goAhead_5 rfl (Nat.le_of_ble_eq_true rfl) rfl ?_
  have L6 : ∀ (m : Nat) (s : Nat) (h1 : zH), (kk + 1 ≤ s + m) → (s ≤ kk) → (tri h t n jn (gOf h 32 t) (xOf h 32) s h1) → zV (E, mX5_goAhead, d, k, (fun r h' => r = none ∧ tri h t n jn (gOf h 32 t) (xOf h 32) y.toNat h'), (fun _ _ => False), a) 0 6 [zrv E 0, ziv y, ziv (s : Int)] [] h1 := by
    intro m
    induction m with
    | zero => intro s h1 hm_ hsn tr; exfalso; omega
    | succ m ih =>
      intro s h1 hm_ hsn tr
      have k0 : h1 0 3 = (t : Int) := by rw [tr.1 0 (by omega)]; exact hi.1
      have hct2 := tri_ct hi.2.1 tr
      refine zV_iload_n dX5_goAhead_6 rfl rfl ?_
      refine zV_iload_n dX5_goAhead_7 rfl rfl ?_
      refine zR_icmp_ge (tgt := 38) dX5_goAhead_8 (by decide) (by omega) (by omega) (fun h8 => ?_) (fun h8 => ?_)
      · exact zV_vreturn dX5_goAhead_38 rfl (Nat.zero_le _) ⟨rfl, by rw [show y.toNat = s by omega]; exact tr⟩
      · refine zV_iload_n dX5_goAhead_11 rfl rfl ?_
        refine zV_bipush dX5_goAhead_12 (by decide) ?_
        refine zR_icmp_ge (tgt := 38) dX5_goAhead_14 (by decide) (by omega) (by omega) (fun h14 => ?_) (fun h14 => ?_)
        · exact absurd h14 (by omega)
        · refine zV_aload_nr dX5_goAhead_17 rfl rfl ?_
          refine gf5_51 rfl (rfl) dX5_goAhead_18 ?_
          refine zV_teq (w := zrv E 53) rfl ?_
          refine zV_aload_nr dX5_goAhead_21 rfl rfl ?_
          refine gf5_20 (t := t) (k0) rfl (rfl) dX5_goAhead_22 ?_
          refine zV_aload_nr dX5_goAhead_25 rfl rfl ?_
          refine gf5_34 rfl (rfl) dX5_goAhead_26 ?_
          refine zV_teq (w := zrv E 28) rfl ?_
          refine zV_callV (As := [zrv E t, zrv E 28]) lk5_234 (rfl) rfl rfl (c2_hear (d - 1) 0 (by omega) hct2 tr.2.2.2.2.2.1 tr.2.2.2.2.2.2) ⟨by show _ + 1 ≤ d; omega, by show _ ≤ k; omega⟩ rfl (Nat.le_of_ble_eq_true rfl) dX5_goAhead_29 (fun _ _ z => z.elim) (fun r h' q => ?_)
          obtain ⟨rfl, q⟩ := q
          refine zV_iinc dX5_goAhead_32 rfl (Nat.le_of_ble_eq_true rfl) rfl ?_
          refine zV_goto (tgt := 6) dX5_goAhead_35 (by decide) ?_
          exact ih (s + 1) _ (by omega) (by omega) (tri_s hi.2.1 (by omega) tr q)
  exact L6 (kk + 1) 0 _ (by omega) (by omega) (tri_0 hi q)
