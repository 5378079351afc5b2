/-! CLASS AND REFERENCE, side by side -/
/-- a rule that isn't told has no value -/
def gnz (g : zG) : zG := (g.1, g.2.1, g.2.2.1, g.2.2.2.1, g.2.2.2.2.1, g.2.2.2.2.2.1, g.2.2.2.2.2.2.1, (if g.2.2.2.2.2.2.1 = 0 then fun _ => 0 else g.2.2.2.2.2.2.2.1), g.2.2.2.2.2.2.2.2.1, (if g.2.2.2.2.2.2.2.2.1 = 0 then fun _ => 0 else g.2.2.2.2.2.2.2.2.2))
theorem seatsG_nz (n jn : Nat) (g : zG) (ca : Int) (x : (Nat → Int) × Int × (Nat → Int)) : ∀ m, seatsG n jn (gnz g) ca x m = seatsG n jn g ca x m := by
  intro m
  induction m with
  | zero => rfl
  | succ m ih =>
    show seatStep n jn g.1 g.2.1 g.2.2.1 g.2.2.2.2.1 g.2.2.2.2.2.1 g.2.2.2.2.2.2.1 (if g.2.2.2.2.2.2.1 = 0 then fun _ => 0 else g.2.2.2.2.2.2.2.1) ca m (seatsG n jn (gnz g) ca x m) = seatStep n jn g.1 g.2.1 g.2.2.1 g.2.2.2.2.1 g.2.2.2.2.2.1 g.2.2.2.2.2.2.1 g.2.2.2.2.2.2.2.1 ca m (seatsG n jn g ca x m)
    rw [ih]
    by_cases e : g.2.2.2.2.2.2.1 = 0
    · unfold seatStep; simp only [e, if_true]
    · rw [if_neg e]
theorem verdS_nz (p : Nat → Int) (n : Nat) (lev ca rt : Int) (rv : (Int → Int) → Int) : verdS p n lev ca rt (if rt = 0 then fun _ => 0 else rv) = verdS p n lev ca rt rv := by
  by_cases e : rt = 0
  · unfold verdS; rw [if_pos e, if_pos e]
  · rw [if_neg e]
theorem runG_nz (n jn : Nat) (g : zG) (ca : Int) (x : (Nat → Int) × Int × Int × (Nat → Int)) : ∀ m, runG n jn (gnz g) ca x m = runG n jn g ca x m := by
  intro m
  induction m with
  | zero => rfl
  | succ m ih =>
    have e1 : ∀ y, seatsG n jn (gnz g) (ca + m) y jn = seatsG n jn g (ca + m) y jn := fun y => seatsG_nz n jn g (ca + m) y jn
    show ((seatsG n jn (gnz g) (ca + m) ((runG n jn (gnz g) ca x m).1, g.2.2.2.1, (runG n jn (gnz g) ca x m).2.2.2) jn).1, verdS (seatsG n jn (gnz g) (ca + m) ((runG n jn (gnz g) ca x m).1, g.2.2.2.1, (runG n jn (gnz g) ca x m).2.2.2) jn).1 n (seatsG n jn (gnz g) (ca + m) ((runG n jn (gnz g) ca x m).1, g.2.2.2.1, (runG n jn (gnz g) ca x m).2.2.2) jn).2.1 (ca + m) g.2.2.2.2.2.2.2.2.1 (if g.2.2.2.2.2.2.2.2.1 = 0 then fun _ => 0 else g.2.2.2.2.2.2.2.2.2), (seatsG n jn (gnz g) (ca + m) ((runG n jn (gnz g) ca x m).1, g.2.2.2.1, (runG n jn (gnz g) ca x m).2.2.2) jn).2.1, (seatsG n jn (gnz g) (ca + m) ((runG n jn (gnz g) ca x m).1, g.2.2.2.1, (runG n jn (gnz g) ca x m).2.2.2) jn).2.2) = _
    rw [e1, ih, verdS_nz]
    rfl
/-- alike, the rules where they are told -/
def gag0 (n jn : Nat) (g k : zG) : Prop := agn jn g.1 k.1 ∧ agn jn g.2.1 k.2.1 ∧ agn jn g.2.2.1 k.2.2.1 ∧ g.2.2.2.1 = k.2.2.2.1 ∧ agn n g.2.2.2.2.1 k.2.2.2.2.1 ∧ agn jn g.2.2.2.2.2.1 k.2.2.2.2.2.1 ∧ g.2.2.2.2.2.2.1 = k.2.2.2.2.2.2.1 ∧ (g.2.2.2.2.2.2.1 ≠ 0 → g.2.2.2.2.2.2.2.1 = k.2.2.2.2.2.2.2.1) ∧ g.2.2.2.2.2.2.2.2.1 = k.2.2.2.2.2.2.2.2.1 ∧ (g.2.2.2.2.2.2.2.2.1 ≠ 0 → g.2.2.2.2.2.2.2.2.2 = k.2.2.2.2.2.2.2.2.2)
theorem gag_0 {n jn : Nat} {g k : zG} (h : gag0 n jn g k) : gag n jn (gnz g) (gnz k) := by
  obtain ⟨a, b, c, d, e, f, x, y, z, w⟩ := h
  refine ⟨a, b, c, d, e, f, ?_⟩
  show (g.2.2.2.2.2.2.1, (if g.2.2.2.2.2.2.1 = 0 then fun _ => 0 else g.2.2.2.2.2.2.2.1), g.2.2.2.2.2.2.2.2.1, (if g.2.2.2.2.2.2.2.2.1 = 0 then fun _ => 0 else g.2.2.2.2.2.2.2.2.2)) = (k.2.2.2.2.2.2.1, (if k.2.2.2.2.2.2.1 = 0 then fun _ => 0 else k.2.2.2.2.2.2.2.1), k.2.2.2.2.2.2.2.2.1, (if k.2.2.2.2.2.2.2.2.1 = 0 then fun _ => 0 else k.2.2.2.2.2.2.2.2.2))
  have e1 : (if g.2.2.2.2.2.2.1 = 0 then fun _ => 0 else g.2.2.2.2.2.2.2.1) = (if k.2.2.2.2.2.2.1 = 0 then fun _ => 0 else k.2.2.2.2.2.2.2.1) := by
    rw [← x]
    by_cases q : g.2.2.2.2.2.2.1 = 0
    · rw [if_pos q, if_pos q]
    · rw [if_neg q, if_neg q]; exact y q
  have e2 : (if g.2.2.2.2.2.2.2.2.1 = 0 then fun _ => 0 else g.2.2.2.2.2.2.2.2.2) = (if k.2.2.2.2.2.2.2.2.1 = 0 then fun _ => 0 else k.2.2.2.2.2.2.2.2.2) := by
    rw [← z]
    by_cases q : g.2.2.2.2.2.2.2.2.1 = 0
    · rw [if_pos q, if_pos q]
    · rw [if_neg q, if_neg q]; exact w q
  rw [e1, e2, x, z]
theorem runG_0 {n jn : Nat} {g k : zG} (hg : gag0 n jn g k) (hs : ∀ s, s < jn → 0 ≤ g.1 s ∧ g.1 s < jn) {ca : Int} {x y : (Nat → Int) × Int × Int × (Nat → Int)} (hp : agn n x.1 y.1) :
    ∀ m, agn n (runG n jn g ca x m).1 (runG n jn k ca y m).1 ∧ (1 ≤ m → (runG n jn g ca x m).2.1 = (runG n jn k ca y m).2.1 ∧ (runG n jn g ca x m).2.2.1 = (runG n jn k ca y m).2.2.1 ∧ ∀ j : Nat, (∃ s, s < jn ∧ g.1 s = (j : Int)) → (runG n jn g ca x m).2.2.2 j = (runG n jn k ca y m).2.2.2 j) := by
  intro m
  have := runG_congr (gag_0 hg) hs (ca := ca) (x := x) (y := y) hp m
  rw [runG_nz, runG_nz] at this
  exact this
/-- a kept row: the class's (leaves, hands, seats, pot, case, verdict), the reference's (case, pot, verdict, leaves, seats, hands) -/
def rwR (n jn : Nat) (a b : Nat → Int) : Prop := (∀ i, i < n → a i = b (3 + i)) ∧ (∀ j, j < jn → a (8 + j) = b (19 + j)) ∧ (∀ j, j < jn → a (16 + j) = b (11 + j)) ∧ a 24 = b 1 ∧ a 25 = b 0 ∧ a 26 = b 2
def rwOK (n jn : Nat) (b : Nat → Int) : Prop := (∀ l, l < n → 0 ≤ b (3 + l) ∧ b (3 + l) < 12) ∧ (∀ j, j < jn → 0 ≤ b (19 + j) ∧ b (19 + j) ≤ 12) ∧ (∀ s, s < jn → 0 ≤ b (11 + s) ∧ b (11 + s) < jn) ∧ permM (fun j => b (11 + j)) jn ∧ (0 ≤ b 1 ∧ b 1 ≤ 99) ∧ (0 ≤ b 0 ∧ b 0 ≤ 999)
/-- the row that the class's docket o would keep -/
def rowC (h : zH) (o : Nat) (i : Nat) : Int := if i < 8 then h (o + 2) i else if i < 16 then h (o + 4) (i - 8) else if i < 24 then h (o + 5) (i - 16) else if i = 24 then h (o + 1) 5 else if i = 25 then h (o + 1) 6 else h (o + 1) 7
theorem rowC_l {h : zH} {o i : Nat} (hi : i < 8) : rowC h o i = h (o + 2) i := by unfold rowC; rw [if_pos hi]
theorem rowC_h {h : zH} {o j : Nat} (hj : j < 8) : rowC h o (8 + j) = h (o + 4) j := by unfold rowC; rw [if_neg (by omega), if_pos (by omega), show 8 + j - 8 = j by omega]
theorem rowC_s {h : zH} {o j : Nat} (hj : j < 8) : rowC h o (16 + j) = h (o + 5) j := by unfold rowC; rw [if_neg (by omega), if_neg (by omega), if_pos (by omega), show 16 + j - 16 = j by omega]
theorem rowC_24 (h : zH) (o : Nat) : rowC h o 24 = h (o + 1) 5 ∧ rowC h o 25 = h (o + 1) 6 ∧ rowC h o 26 = h (o + 1) 7 := ⟨rfl, rfl, rfl⟩
theorem rwR_cg {n jn : Nat} {a b a2 b2 : Nat → Int} (hn : n ≤ 8) (hj : jn ≤ 8) (ha : ∀ i, i < 27 → a2 i = a i) (hb : ∀ i, i < 27 → b2 i = b i) (h : rwR n jn a b) : rwR n jn a2 b2 := by
  obtain ⟨x, y, z, u, v, w⟩ := h
  exact ⟨fun i hi => by rw [ha i (by omega), hb (3 + i) (by omega)]; exact x i hi, fun j hj => by rw [ha (8 + j) (by omega), hb (19 + j) (by omega)]; exact y j hj, fun j hj => by rw [ha (16 + j) (by omega), hb (11 + j) (by omega)]; exact z j hj, by rw [ha 24 (by omega), hb 1 (by omega)]; exact u, by rw [ha 25 (by omega), hb 0 (by omega)]; exact v, by rw [ha 26 (by omega), hb 2 (by omega)]; exact w⟩
theorem permM_cg {f g : Nat → Int} {jn : Nat} (e : ∀ j, j < jn → g j = f j) (h : permM f jn) : permM g jn :=
  ⟨fun a b ha hb q => h.1 a b ha hb (by rw [← e a ha, ← e b hb]; exact q), fun j hj => by
    obtain ⟨s, hs, q⟩ := h.2 j hj
    exact ⟨s, hs, (e s hs).trans q⟩⟩
theorem rwOK_cg {n jn : Nat} {b b2 : Nat → Int} (hn : n ≤ 8) (hj : jn ≤ 8) (hb : ∀ i, i < 27 → b2 i = b i) (h : rwOK n jn b) : rwOK n jn b2 := by
  obtain ⟨x, y, z, u, v, w⟩ := h
  exact ⟨fun l hl => by rw [hb (3 + l) (by omega)]; exact x l hl, fun j hj => by rw [hb (19 + j) (by omega)]; exact y j hj, fun s hs => by rw [hb (11 + s) (by omega)]; exact z s hs, permM_cg (fun j hj => hb (11 + j) (by omega)) u, by rw [hb 1 (by omega)]; exact v, by rw [hb 0 (by omega)]; exact w⟩
/-- a docket: the class's at o, the reference's as its rows -/
def dkR (h : zH) (o n jn old ac rn : Nat) (B : Int) (b P : Nat → Int) (A R : Int) (rc rv sm : Nat → Int) : Prop :=
  (h o 2 = (old : Int) ∧ old < 40 ∧ h o 3 = (ac : Int) ∧ ac ≤ 40 ∧ h o 6 = (rn : Int) ∧ rn ≤ 8) ∧ (A = (ac : Int) ∧ R = (rn : Int)) ∧
  (rwR n jn (rowC h o) b ∧ rwOK n jn b) ∧ (∀ a, a < ac → rwR n jn (fun i => h (o + 7) ((old + a) % 40 * 27 + i)) (fun i => P (27 * a + i)) ∧ rwOK n jn (fun i => P (27 * a + i))) ∧
  (∀ i, i < rn → (h (o + 8) i = rc i ∧ h (o + 9) i = rv i) ∧ (1 ≤ rc i ∧ rc i ≤ 20) ∧ (0 ≤ rv i ∧ rv i ≤ 4)) ∧ ∀ i, i < 3 → h (o + 10) i = sm i ∧ (0 ≤ sm i ∧ sm i ≤ B)
theorem dkR_cgM {h : zH} {o n jn old ac rn : Nat} {B : Int} {b P b2 P2 : Nat → Int} {A R A2 R2 : Int} {rc rv sm rc2 rv2 sm2 : Nat → Int} (hn : n ≤ 8) (hj : jn ≤ 8) (e1 : ∀ i, i < 27 → b2 i = b i) (e2 : ∀ i, i < 1080 → P2 i = P i) (e3 : A2 = A) (e4 : R2 = R) (e5 : ∀ i, i < 8 → rc2 i = rc i) (e6 : ∀ i, i < 8 → rv2 i = rv i) (e7 : ∀ i, i < 3 → sm2 i = sm i) (hd : dkR h o n jn old ac rn B b P A R rc rv sm) : dkR h o n jn old ac rn B b2 P2 A2 R2 rc2 rv2 sm2 := by
  obtain ⟨x1, x2, x3, x4, x5, x6⟩ := hd
  have ha := x1.2.2.2.1
  have hr := x1.2.2.2.2.2
  exact ⟨x1, ⟨e3.trans x2.1, e4.trans x2.2⟩, ⟨rwR_cg hn hj (fun _ _ => rfl) e1 x3.1, rwOK_cg hn hj e1 x3.2⟩, fun a haa => ⟨rwR_cg hn hj (fun _ _ => rfl) (fun i hi => e2 (27 * a + i) (by omega)) (x4 a haa).1, rwOK_cg hn hj (fun i hi => e2 (27 * a + i) (by omega)) (x4 a haa).2⟩, fun i hi => by rw [e5 i (by omega), e6 i (by omega)]; exact x5 i hi, fun i hi => by rw [e7 i hi]; exact x6 i hi⟩
theorem dkR_cgC {h h1 : zH} {o n jn old ac rn : Nat} {B : Int} {b P : Nat → Int} {A R : Int} {rc rv sm : Nat → Int} (hn : n ≤ 8) (hj : jn ≤ 8) (e : ∀ k, k ≤ 10 → h1 (o + k) = h (o + k)) (hd : dkR h o n jn old ac rn B b P A R rc rv sm) : dkR h1 o n jn old ac rn B b P A R rc rv sm := by
  obtain ⟨x1, x2, x3, x4, x5, x6⟩ := hd
  have e0 : h1 o = h o := e 0 (by omega)
  have er : ∀ i, rowC h1 o i = rowC h o i := fun i => by unfold rowC; rw [e 2 (by omega), e 4 (by omega), e 5 (by omega), e 1 (by omega)]
  exact ⟨by rw [e0]; exact x1, x2, ⟨rwR_cg hn hj (fun i _ => er i) (fun _ _ => rfl) x3.1, x3.2⟩, fun a haa => by rw [e 7 (by omega)]; exact x4 a haa, fun i hi => by rw [e 8 (by omega), e 9 (by omega)]; exact x5 i hi, fun i hi => by rw [e 10 (by omega)]; exact x6 i hi⟩
/-- the court: the class's t, the reference's first halves -/
def ctR (hc hm : zH) (t n jn : Nat) : Prop := (hc 0 3 = (t : Int) ∧ courtOK hc t n jn ∧ mCt hm n jn ∧ rkOK hc ∧ strI hm) ∧ (∃ u : Nat, isCourt u ∧ u ≠ t ∧ hc 14 2 = (u : Int)) ∧
  ((∀ l, l < n → hc (t + 2) l = hm 70 l) ∧ (∀ j, j < jn → hc (t + 6) j = hm 71 j) ∧ ∀ j, j < jn → hc (t + 5) j = hm 74 j) ∧
  (∀ ru, ru < 2 → hc (t + 10) ru = t01 (hm 68 (3 + ru)) ∧ (hc (t + 10) ru ≠ 0 → ruleV hc t ru = ruM hm ru)) ∧ ∀ j, j < jn → (hc 34 j = hm 78 j ∧ hc (t + 3) j = hm 78 j) ∧ (0 ≤ hm 78 j ∧ hm 78 j ≤ 30)
def tpR (hc hm : zH) : Prop := hc 0 1 = hm 64 17 ∧ (0 ≤ hm 64 17 ∧ hm 64 17 ≤ 700) ∧ (∀ i : Nat, (i : Int) < hm 64 17 → hc 1 i = hm 79 i ∧ (0 ≤ hm 79 i ∧ hm 79 i ≤ 255)) ∧ hc 0 2 = hm 64 26
def imR (hc hm : zH) (n jn : Nat) (B : Int) : Prop := (hc 0 8 = 0 ∨ hc 0 8 = 1) ∧ hc 0 8 = hm 64 58 ∧ (hc 0 8 = 1 → (∃ old ac rn : Nat, dkR hc 42 n jn old ac rn B (hm 98) (hm 99) (hm 64 59) (hm 64 60) (hm 100) (hm 101) (hm 102)) ∧ ∀ j, j < jn → hc 45 j = hm 78 j)
def nwR (hc hm : zH) (n jn old ac rn : Nat) (B : Int) : Prop := dkR hc 31 n jn old ac rn B (rowF hm) (hm 83) (hm 64 35) (hm 64 36) (hm 92) (hm 93) (hm 77)
/-- the class's cells of hc and the reference's of hm tell the same -/
def Rel (hc hm : zH) (t n jn old ac rn : Nat) (B : Int) : Prop := ctR hc hm t n jn ∧ tpR hc hm ∧ imR hc hm n jn B ∧ nwR hc hm n jn old ac rn B
section ZRL
variable {hc hm h1 : zH} {t n jn old ac rn : Nat} {B : Int}
theorem rowF_vals (h : zH) {k : Nat} (hk : k < 8) : rowF h (3 + k) = h 80 k ∧ rowF h (11 + k) = h 81 k ∧ rowF h (19 + k) = h 82 k ∧ rowF h 0 = h 64 32 ∧ rowF h 1 = h 64 33 ∧ rowF h 2 = h 64 34 := by
  unfold rowF
  refine ⟨?_, ?_, ?_, rfl, rfl, rfl⟩
  · rw [if_neg (by omega), if_neg (by omega), if_neg (by omega), if_pos (by omega), show 3 + k - 3 = k by omega]
  · rw [if_neg (by omega), if_neg (by omega), if_neg (by omega), if_neg (by omega), if_pos (by omega), show 11 + k - 11 = k by omega]
  · rw [if_neg (by omega), if_neg (by omega), if_neg (by omega), if_neg (by omega), if_neg (by omega), show 19 + k - 19 = k by omega]
theorem rel_n (r : Rel hc hm t n jn old ac rn B) : n ≤ 8 ∧ jn ≤ 8 := ⟨r.1.1.2.1.2.1, r.1.1.2.1.2.2.1⟩
/-- how the leaves lie, and so on, on both sides -/
theorem rel_dyn (r : Rel hc hm t n jn old ac rn B) : agn n (hc 33) (hm 80) ∧ agn jn (hc 34) (hm 78) ∧ agn jn (hc 35) (hm 82) ∧ agn jn (hc 36) (hm 81) ∧ hc 32 5 = hm 64 33 ∧ hc 32 6 = hm 64 32 ∧ hc 32 7 = hm 64 34 := by
  have hn := rel_n r
  obtain ⟨x1, x2, x3, x4, x5, x6⟩ := r.2.2.2
  obtain ⟨y1, y2, y3, y4, y5, y6⟩ := x3.1
  have f0 := rowF_vals hm (k := 0) (by decide)
  have c0 := rowC_24 hc 31
  refine ⟨fun i hi => ?_, fun j hj => (r.1.2.2.2.2 j hj).1.1, fun j hj => ?_, fun j hj => ?_, ?_, ?_, ?_⟩
  · have := y1 i hi; rw [rowC_l (by omega), (rowF_vals hm (k := i) (by omega)).1] at this; exact this
  · have := y2 j hj; rw [rowC_h (by omega), (rowF_vals hm (k := j) (by omega)).2.2.1] at this; exact this
  · have := y3 j hj; rw [rowC_s (by omega), (rowF_vals hm (k := j) (by omega)).2.1] at this; exact this
  · rw [c0.1, f0.2.2.2.2.1] at y4; exact y4
  · rw [c0.2.1, f0.2.2.2.1] at y5; exact y5
  · rw [c0.2.2, f0.2.2.2.2.2] at y6; exact y6
theorem rel_inv (r : Rel hc hm t n jn old ac rn B) : tInv hc t n jn ∧ mInv hm n jn ∧ permM (hm 81) jn ∧ dkOK hc old ac rn ∧ rdOK hc rn := by
  have hn := rel_n r
  obtain ⟨d1, d2, d3, d4, d5, d6, d7⟩ := rel_dyn r
  obtain ⟨x1, x2, x3, x4, x5, x6⟩ := r.2.2.2
  obtain ⟨o1, o2, o3, o4, o5, o6⟩ := x3.2
  have f0 := rowF_vals hm (k := 0) (by decide)
  rw [f0.2.2.2.2.1] at o5
  rw [f0.2.2.2.1] at o6
  have m80 : ∀ l, l < n → 0 ≤ hm 80 l ∧ hm 80 l < 12 := fun l hl => by have := o1 l hl; rw [(rowF_vals hm (k := l) (by omega)).1] at this; exact this
  have m82 : ∀ j, j < jn → 0 ≤ hm 82 j ∧ hm 82 j ≤ 12 := fun j hj => by have := o2 j hj; rw [(rowF_vals hm (k := j) (by omega)).2.2.1] at this; exact this
  have m81 : ∀ j, j < jn → 0 ≤ hm 81 j ∧ hm 81 j < jn := fun j hj => by have := o3 j hj; rw [(rowF_vals hm (k := j) (by omega)).2.1] at this; exact this
  obtain ⟨⟨r1, r2, r3, r4, r5⟩, -⟩ := r.1
  refine ⟨⟨r1, r2, ⟨Or.inl rfl, fun l hl => by rw [d1 l hl]; exact m80 l hl, fun j hj => by rw [d2 j hj]; exact (r.1.2.2.2.2 j hj).2, fun j hj => by rw [d3 j hj]; exact m82 j hj, fun s hs => by rw [d4 s hs]; exact m81 s hs, by rw [d5]; exact o5, by rw [d6]; omega⟩, r4, by rw [d6]; exact o6.2⟩, ⟨r3, ⟨m80, fun j hj => (r.1.2.2.2.2 j hj).2, m82, m81, o5, by omega⟩, o6.2⟩, permM_cg (fun j hj => ((rowF_vals hm (k := j) (by omega)).2.1).symm) o4, x1, fun i hi => by rw [(x5 i hi).1.1]; exact (x5 i hi).2.1, fun i hi => by rw [(x5 i hi).1.2]; exact (x5 i hi).2.2⟩
theorem rel_g (r : Rel hc hm t n jn old ac rn B) : gag0 n jn (gOf hc 32 t) (gM hm) := by
  obtain ⟨d1, d2, d3, d4, d5, d6, d7⟩ := rel_dyn r
  obtain ⟨-, -, ⟨c1, c2, c3⟩, c4, -⟩ := r.1
  exact ⟨d4, d3, d2, d5, c1, c2, (c4 0 (by decide)).1, (c4 0 (by decide)).2, (c4 1 (by decide)).1, (c4 1 (by decide)).2⟩
end ZRL

