/-! WHAT A CASE LOOKS AT: leaves below n, judges below jn -/
def agn (n : Nat) (f g : Nat → Int) : Prop := ∀ i, i < n → f i = g i
theorem agn_rfl (n : Nat) (f : Nat → Int) : agn n f f := fun _ _ => rfl
theorem agn_symm {n : Nat} {f g : Nat → Int} (h : agn n f g) : agn n g f := fun i hi => (h i hi).symm
theorem agn_trans {n : Nat} {f g k : Nat → Int} (h : agn n f g) (h2 : agn n g k) : agn n f k := fun i hi => (h i hi).trans (h2 i hi)
theorem agn_le {n m : Nat} {f g : Nat → Int} (hm : m ≤ n) (h : agn n f g) : agn m f g := fun i hi => h i (by omega)
theorem cntS_congr {p q : Nat → Int} {v : Int} : ∀ n, agn n p q → cntS p v n = cntS q v n := by
  intro n
  induction n with
  | zero => intro _; rfl
  | succ n ih => intro h; rw [cntS_s, cntS_s, ih (agn_le (by omega) h), h n (by omega)]
theorem oddS_congr {p q : Nat → Int} : ∀ n, agn n p q → oddS p n = oddS q n := by
  intro n
  induction n with
  | zero => intro _; rfl
  | succ n ih => intro h; rw [oddS_s, oddS_s, ih (agn_le (by omega) h), h n (by omega)]
theorem mwS_congr {p q : Nat → Int} {n : Nat} (h : agn n p q) : ∀ m, mwS p n m = mwS q n m := by
  intro m
  induction m with
  | zero => rfl
  | succ m ih => rw [mwS_s, mwS_s, ih, cntS_congr n h]
theorem envL_congr {p q : Nat → Int} {n : Nat} (h : agn n p q) (lev ca th se : Int) : envL p n lev ca th se = envL q n lev ca th se := by
  unfold envL mostS whereS
  rw [mwS_congr h, oddS_congr n h]
theorem hitB_congr {p q : Nat → Int} {v : Int} : ∀ m, agn m p q → hitB p v m = hitB q v m := by
  intro m
  induction m with
  | zero => intro _; rfl
  | succ m ih => intro h; rw [hitB_s, hitB_s, ih (agn_le (by omega) h), h m (by omega)]
theorem blowP_congr {p q : Nat → Int} {n : Nat} (h : agn n p q) : ∀ m, m ≤ n → agn n (blowP p m) (blowP q m) := by
  intro m
  induction m with
  | zero => intro _; exact h
  | succ m ih =>
    intro hm
    have h1 := ih (by omega)
    intro i hi
    rw [blowP_s, blowP_s, h1 m (by omega), hitB_congr (p := blowP p m) (q := blowP q m) m (agn_le (by omega) h1)]
    split
    · dsimp only; split
      · rfl
      · exact h1 i hi
    · exact h1 i hi
theorem stirP_congr {p q w v : Nat → Int} {n : Nat} (h : agn n p q) (hw : agn n w v) (pu : Int) : agn n (stirP p w pu n) (stirP q v pu n) := fun i hi => by
  unfold stirP; rw [if_pos hi, if_pos hi, h i hi, hw i hi]
/-- what stays while cases go by: seats, hands, thirsts, pot; weights, barristers, the rules -/
abbrev zG : Type := (Nat → Int) × (Nat → Int) × (Nat → Int) × Int × (Nat → Int) × (Nat → Int) × Int × ((Int → Int) → Int) × Int × ((Int → Int) → Int)
def gag (n jn : Nat) (g k : zG) : Prop := agn jn g.1 k.1 ∧ agn jn g.2.1 k.2.1 ∧ agn jn g.2.2.1 k.2.2.1 ∧ g.2.2.2.1 = k.2.2.2.1 ∧ agn n g.2.2.2.2.1 k.2.2.2.2.1 ∧ agn jn g.2.2.2.2.2.1 k.2.2.2.2.2.1 ∧ g.2.2.2.2.2.2 = k.2.2.2.2.2.2
theorem gag_rfl (n jn : Nat) (g : zG) : gag n jn g g := ⟨agn_rfl _ _, agn_rfl _ _, agn_rfl _ _, rfl, agn_rfl _ _, agn_rfl _ _, rfl⟩
theorem gag_symm {n jn : Nat} {g k : zG} (h : gag n jn g k) : gag n jn k g := ⟨agn_symm h.1, agn_symm h.2.1, agn_symm h.2.2.1, h.2.2.2.1.symm, agn_symm h.2.2.2.2.1, agn_symm h.2.2.2.2.2.1, h.2.2.2.2.2.2.symm⟩
theorem gag_trans {n jn : Nat} {g k l : zG} (h : gag n jn g k) (h2 : gag n jn k l) : gag n jn g l := ⟨agn_trans h.1 h2.1, agn_trans h.2.1 h2.2.1, agn_trans h.2.2.1 h2.2.2.1, h.2.2.2.1.trans h2.2.2.2.1, agn_trans h.2.2.2.2.1 h2.2.2.2.2.1, agn_trans h.2.2.2.2.2.1 h2.2.2.2.2.2.1, h.2.2.2.2.2.2.trans h2.2.2.2.2.2.2⟩
def seatsG (n jn : Nat) (g : zG) (ca : Int) (x : (Nat → Int) × Int × (Nat → Int)) (m : Nat) : (Nat → Int) × Int × (Nat → Int) := seatsN n jn g.1 g.2.1 g.2.2.1 g.2.2.2.2.1 g.2.2.2.2.2.1 g.2.2.2.2.2.2.1 g.2.2.2.2.2.2.2.1 ca x m
theorem seatsG_congr {n jn : Nat} {g k : zG} (hg : gag n jn g k) (hs : ∀ s, s < jn → 0 ≤ g.1 s ∧ g.1 s < jn) {ca : Int} {p q : Nat → Int} {lev : Int} {s1 s2 : Nat → Int} (hp : agn n p q) :
    ∀ m, m ≤ jn → agn n (seatsG n jn g ca (p, lev, s1) m).1 (seatsG n jn k ca (q, lev, s2) m).1 ∧ (seatsG n jn g ca (p, lev, s1) m).2.1 = (seatsG n jn k ca (q, lev, s2) m).2.1 ∧
      ∀ j : Nat, (s1 j = s2 j ∨ ∃ s, s < m ∧ g.1 s = (j : Int)) → (seatsG n jn g ca (p, lev, s1) m).2.2 j = (seatsG n jn k ca (q, lev, s2) m).2.2 j := by
  intro m
  induction m with
  | zero => intro _; exact ⟨hp, rfl, fun j hj => by rcases hj with h | ⟨s, h, -⟩; exact h; exact absurd h (by omega)⟩
  | succ m ih =>
    intro hm
    obtain ⟨i1, i2, i3⟩ := ih (by omega)
    obtain ⟨g1, g2, g3, g4, g5, g6, g7⟩ := hg
    show agn n (seatStep n jn g.1 g.2.1 g.2.2.1 g.2.2.2.2.1 g.2.2.2.2.2.1 g.2.2.2.2.2.2.1 g.2.2.2.2.2.2.2.1 ca m (seatsG n jn g ca (p, lev, s1) m)).1 (seatStep n jn k.1 k.2.1 k.2.2.1 k.2.2.2.2.1 k.2.2.2.2.2.1 k.2.2.2.2.2.2.1 k.2.2.2.2.2.2.2.1 ca m (seatsG n jn k ca (q, lev, s2) m)).1 ∧
      (seatStep n jn g.1 g.2.1 g.2.2.1 g.2.2.2.2.1 g.2.2.2.2.2.1 g.2.2.2.2.2.2.1 g.2.2.2.2.2.2.2.1 ca m (seatsG n jn g ca (p, lev, s1) m)).2.1 = (seatStep n jn k.1 k.2.1 k.2.2.1 k.2.2.2.2.1 k.2.2.2.2.2.1 k.2.2.2.2.2.2.1 k.2.2.2.2.2.2.2.1 ca m (seatsG n jn k ca (q, lev, s2) m)).2.1 ∧
      ∀ j : Nat, (s1 j = s2 j ∨ ∃ s, s < m + 1 ∧ g.1 s = (j : Int)) → (seatStep n jn g.1 g.2.1 g.2.2.1 g.2.2.2.2.1 g.2.2.2.2.2.1 g.2.2.2.2.2.2.1 g.2.2.2.2.2.2.2.1 ca m (seatsG n jn g ca (p, lev, s1) m)).2.2 j = (seatStep n jn k.1 k.2.1 k.2.2.1 k.2.2.2.2.1 k.2.2.2.2.2.1 k.2.2.2.2.2.2.1 k.2.2.2.2.2.2.2.1 ca m (seatsG n jn k ca (q, lev, s2) m)).2.2 j
    generalize seatsG n jn g ca (p, lev, s1) m = x at *
    generalize seatsG n jn k ca (q, lev, s2) m = y at *
    have hj := hs m (by omega)
    have hk : g.1 m = k.1 m := g1 m (by omega)
    unfold seatStep
    dsimp only
    rw [← hk, ← g7]
    have hjl : (g.1 m).toNat < jn := by omega
    rw [← g2 _ hjl, ← g3 _ hjl, ← g6 _ hjl, ← i2, envL_congr i1]
    refine ⟨?_, rfl, ?_⟩
    · split
      · exact stirP_congr i1 g5 _
      · exact blowP_congr (stirP_congr i1 g5 _) n (Nat.le_refl _)
    · intro j hh
      by_cases e : j = (g.1 m).toNat
      · rw [if_pos e, if_pos e]
      · rw [if_neg e, if_neg e]
        refine i3 j ?_
        rcases hh with h | ⟨s, h1, h2⟩
        · exact Or.inl h
        · refine Or.inr ⟨s, ?_, h2⟩
          by_cases e2 : s = m
          · subst e2; exact absurd (by omega) e
          · omega
theorem verdS_congr {p q : Nat → Int} {n : Nat} (h : agn n p q) (lev ca rt : Int) (rv : (Int → Int) → Int) : verdS p n lev ca rt rv = verdS q n lev ca rt rv := by
  unfold verdS mostS whereS
  rw [mwS_congr h, envL_congr h]
/-- k cases from (leaves, verdict, level, sips), the first of them the ca-th -/
def runG (n jn : Nat) (g : zG) (ca : Int) (x : (Nat → Int) × Int × Int × (Nat → Int)) : Nat → (Nat → Int) × Int × Int × (Nat → Int)
  | 0 => x
  | k + 1 => ((seatsG n jn g (ca + k) ((runG n jn g ca x k).1, g.2.2.2.1, (runG n jn g ca x k).2.2.2) jn).1, verdS (seatsG n jn g (ca + k) ((runG n jn g ca x k).1, g.2.2.2.1, (runG n jn g ca x k).2.2.2) jn).1 n (seatsG n jn g (ca + k) ((runG n jn g ca x k).1, g.2.2.2.1, (runG n jn g ca x k).2.2.2) jn).2.1 (ca + k) g.2.2.2.2.2.2.2.2.1 g.2.2.2.2.2.2.2.2.2, (seatsG n jn g (ca + k) ((runG n jn g ca x k).1, g.2.2.2.1, (runG n jn g ca x k).2.2.2) jn).2.1, (seatsG n jn g (ca + k) ((runG n jn g ca x k).1, g.2.2.2.1, (runG n jn g ca x k).2.2.2) jn).2.2)
theorem runG_congr {n jn : Nat} {g k : zG} (hg : gag n jn g k) (hs : ∀ s, s < jn → 0 ≤ g.1 s ∧ g.1 s < jn) {ca : Int} {x y : (Nat → Int) × Int × Int × (Nat → Int)} (hp : agn n x.1 y.1) :
    ∀ m, agn n (runG n jn g ca x m).1 (runG n jn k ca y m).1 ∧ (1 ≤ m → (runG n jn g ca x m).2.1 = (runG n jn k ca y m).2.1 ∧ (runG n jn g ca x m).2.2.1 = (runG n jn k ca y m).2.2.1 ∧ ∀ j : Nat, (∃ s, s < jn ∧ g.1 s = (j : Int)) → (runG n jn g ca x m).2.2.2 j = (runG n jn k ca y m).2.2.2 j) := by
  intro m
  induction m with
  | zero => exact ⟨hp, fun h => absurd h (by omega)⟩
  | succ m ih =>
    have hc := seatsG_congr hg hs (ca := ca + m) (lev := g.2.2.2.1) (s1 := (runG n jn g ca x m).2.2.2) (s2 := (runG n jn k ca y m).2.2.2) ih.1 jn (Nat.le_refl _)
    have e4 := hg.2.2.2.1
    have e7 := hg.2.2.2.2.2.2
    rw [e4] at hc
    unfold runG
    dsimp only
    rw [e4]
    refine ⟨hc.1, fun _ => ⟨?_, hc.2.1, fun j hj => hc.2.2 j (Or.inr hj)⟩⟩
    rw [hc.2.1, verdS_congr hc.1, e7]
