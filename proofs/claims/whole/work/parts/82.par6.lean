/-! THE REFERENCE: lines -/
theorem zCal_mono {E : zE} {M : zM} {d k : Nat} {av : List Value} {h : zH} {Q Q2 : Option Value → zH → Prop} {X X2 : String → zH → Prop} (hc : zCal E M d k av h Q X) (hQ : ∀ r h', Q r h' → Q2 r h') (hX : ∀ e h', X e h' → X2 e h') : zCal E M d k av h Q2 X2 := by
  intro p e he f1 f2 s m args below a1 a2 a3 a4
  obtain ⟨n, o, b1, b2, b3, b4⟩ := hc p e he f1 f2 s m args below a1 a2 a3 a4
  refine ⟨n, o, b1, b2, b3, ?_⟩
  rcases b4 with ⟨⟨⟨r, h', c1, c2, c3⟩, c4⟩, c5⟩ | ⟨q, c1, Ex, ce, L, ⟨h', c2, c3⟩, c4⟩
  · exact Or.inl ⟨⟨⟨r, h', c1, hQ r h' c2, c3⟩, c4⟩, c5⟩
  · exact Or.inr ⟨q, c1, Ex, ce, L, ⟨h', hX Ex h' c2, c3⟩, c4⟩
def mnf (h h' : zH) : Prop := (∀ c2 : Nat, c2 ≠ 64 → h' c2 = h c2) ∧ ∀ j, (j < 18 ∨ j = 19 ∨ 25 < j) → h' 64 j = h 64 j
abbrev zTS : Type := (Int × Nat) ⊕ Nat
def tsM (h : zH) (T : Nat → Int) (n : Nat) (x : zTS) : Prop := match x with
  | .inl (k, q) => h 64 24 = k ∧ (1 ≤ k ∧ k ≤ 5) ∧ h 64 25 = (tA T n q : Int)
  | .inr q => h 64 24 = 0 ∧ mtok h T n q ∧ q ≤ n
def nsU (T : Nat → Int) (n : Nat) (lo hi : Int) (x : zTS) : zTS := match x with
  | .inl e => .inl e
  | .inr q => match numP T n lo hi q with
    | .inl e => .inl e
    | .inr (_, q2) => .inr q2
def nvU (T : Nat → Int) (n : Nat) (lo hi : Int) (x : zTS) : Int := match x with
  | .inl _ => 0
  | .inr q => match numP T n lo hi q with
    | .inl _ => 0
    | .inr (a, _) => a
section ZLN
variable {E : zE} {h h1 h2 h3 h4 : zH} {T : Nat → Int} {n p q : Nat} {D : zDf} {x : zTS} {lo hi : Int}
theorem mnf_rfl (h : zH) : mnf h h := ⟨fun _ _ => rfl, fun _ _ => rfl⟩
theorem mnf_trans (a : mnf h h1) (b : mnf h1 h2) : mnf h h2 := ⟨fun c2 x => (b.1 c2 x).trans (a.1 c2 x), fun j x => (b.2 j x).trans (a.2 j x)⟩
theorem mnf_st (a : mst h h1) : mnf h h1 := ⟨a.1, fun j x => a.2 j (by omega) (by omega) (by omega) (by omega) (by omega)⟩
theorem mnf_wrg (k : Int) : mnf h (wrg h k) := by
  unfold wrg
  exact ⟨fun c2 x => by rw [zup_fn x, zup_fn x], fun j x => by rw [zup_at, if_neg (by omega), zup_at, if_neg (by omega)]⟩
theorem mnf_up {c i : Nat} {v : Int} (hc : c ≠ 64) (a : mnf h h1) : mnf (zup h c i v) (zup h1 c i v) := ⟨fun c2 x => by
    by_cases e : c2 = c
    · subst e; funext j; rw [zup_at, zup_at, a.1 c2 x]
    · rw [zup_fn e, zup_fn e]; exact a.1 c2 x, fun j x => by rw [zup_fn (Ne.symm hc), zup_fn (Ne.symm hc)]; exact a.2 j x⟩
theorem mclk_nf (hk : mclk h T n) (a : mnf h h1) : mclk h1 T n := ⟨by rw [a.2 19 (by omega)]; exact hk.1, hk.2.1, by rw [a.1 79 (by decide)]; exact hk.2.2.1, hk.2.2.2⟩
theorem mclk_up {c i : Nat} {v : Int} (h1 : c ≠ 64) (h2 : c ≠ 79) (hk : mclk h T n) : mclk (zup h c i v) T n := ⟨by rw [zup_fn (Ne.symm h1)]; exact hk.1, hk.2.1, by rw [zup_fn (Ne.symm h2)]; exact hk.2.2.1, hk.2.2.2⟩
theorem ts_up {c i : Nat} {v : Int} (h1 : c ≠ 64) (ht : tsM h T n x) : tsM (zup h c i v) T n x := by
  have e : zup h c i v 64 = h 64 := zup_fn (Ne.symm h1)
  rcases x with ⟨k, q⟩ | q
  · unfold tsM at ht ⊢; rw [e]; exact ht
  · have ht2 : h 64 24 = 0 ∧ mtok h T n q ∧ q ≤ n := ht
    show zup h c i v 64 24 = 0 ∧ mtok (zup h c i v) T n q ∧ q ≤ n
    unfold mtok at ht2 ⊢; rw [e]; exact ht2
theorem ts_b (ht : tsM h T n x) : 0 ≤ h 64 24 ∧ h 64 24 ≤ 5 := by
  rcases x with ⟨k, q⟩ | q
  · obtain ⟨a, b, -⟩ := ht; rw [a]; omega
  · rw [ht.1]; decide
theorem ts_wrg {k : Int} (hk : 1 ≤ k ∧ k ≤ 5) (ht : mtok h T n p) : tsM (wrg h k) T n (.inl (k, p)) := ⟨rfl, hk, ht.1⟩
theorem c6_rnU (d k : Nat) (hd : 2 ≤ d) (hk : mclk h T n) (ht : tsM h T n x) (hlo : 0 ≤ lo ∧ lo ≤ 1000) (hhi : 0 ≤ hi ∧ hi ≤ 10000) : zCal E mX6_readNumber d k [zrv E 64, ziv lo, ziv hi] h (fun r h' => r = some (ziv (nvU T n lo hi x)) ∧ mnf h h' ∧ tsM h' T n (nsU T n lo hi x)) (fun _ _ => False) := by
  rcases x with ⟨k9, q⟩ | q
  · obtain ⟨a, b, c⟩ := ht
    refine zCal_mono (c6_readNumberB d k (by rw [a]; omega) (by rw [a]; omega)) (fun r h' z => ?_) (fun _ _ z => z)
    obtain ⟨rfl, rfl⟩ := z
    exact ⟨rfl, mnf_rfl _, a, b, c⟩
  · obtain ⟨a, b, c⟩ := ht
    refine zCal_mono (c6_readNumber d k hd hk b c a hlo hhi) (fun r h' z => ?_) (fun _ _ z => z)
    rcases rn_v z with ⟨k9, e1, e2, e3, e4⟩ | ⟨e1, e2, e3, e4, e5, e6⟩
    · refine ⟨by rw [e3]; show _ = some (ziv (match numP T n lo hi q with | .inl _ => 0 | .inr (a, _) => a)); rw [e1], by rw [e4]; exact mnf_wrg _, ?_⟩
      show tsM h' T n (match numP T n lo hi q with | .inl e => .inl e | .inr (_, q2) => .inr q2)
      rw [e1, e4]
      exact ts_wrg (by omega) b
    · refine ⟨by rw [e4]; show _ = some (ziv (match numP T n lo hi q with | .inl _ => 0 | .inr (a, _) => a)); rw [e1], mnf_st e5, ?_⟩
      show tsM h' T n (match numP T n lo hi q with | .inl e => .inl e | .inr (_, q2) => .inr q2)
      rw [e1]
      exact ⟨by rw [e5.2 24 (by decide) (by decide) (by decide) (by decide) (by decide)]; exact a, e6, (tB_lo c).2.1⟩
/-- what the lines leave as it was -/
def frH (h h' : zH) : Prop := (∀ c2 : Nat, (c2 < 64 ∨ (64 < c2 ∧ c2 < 68) ∨ 76 < c2) → h' c2 = h c2) ∧ (∀ j, j ≠ 3 → (j < 18 ∨ j = 19 ∨ j = 26 ∨ 27 < j) → h' 64 j = h 64 j) ∧ (∀ j, j < 5 → h' 68 j = h 68 j) ∧ (∀ c2 : Nat, 69 ≤ c2 → c2 ≤ 74 → ∀ i, i < 8 → h' c2 i = h c2 i) ∧ ∀ c2 : Nat, 75 ≤ c2 → c2 ≤ 76 → ∀ i, i < 700 → h' c2 i = h c2 i
theorem frH_rfl (h : zH) : frH h h := ⟨fun _ _ => rfl, fun _ _ _ => rfl, fun _ _ => rfl, fun _ _ _ _ _ => rfl, fun _ _ _ _ _ => rfl⟩
theorem frH_trans (a : frH h h1) (b : frH h1 h2) : frH h h2 := ⟨fun c2 x => (b.1 c2 x).trans (a.1 c2 x), fun j x y => (b.2.1 j x y).trans (a.2.1 j x y), fun j x => (b.2.2.1 j x).trans (a.2.2.1 j x), fun c2 x y i z => (b.2.2.2.1 c2 x y i z).trans (a.2.2.2.1 c2 x y i z), fun c2 x y i z => (b.2.2.2.2 c2 x y i z).trans (a.2.2.2.2 c2 x y i z)⟩
theorem frH_nf (a : mnf h h1) : frH h h1 := ⟨fun c2 x => a.1 c2 (by omega), fun j x y => a.2 j (by omega), fun j _ => by rw [a.1 68 (by decide)], fun c2 x _ i _ => by rw [a.1 c2 (by omega)], fun c2 x _ i _ => by rw [a.1 c2 (by omega)]⟩
theorem frH_up {c i : Nat} {v : Int} (hc : (c = 68 ∧ 5 ≤ i) ∨ (69 ≤ c ∧ c ≤ 74 ∧ 8 ≤ i)) : frH h (zup h c i v) := ⟨fun c2 x => zup_fn (by omega), fun j _ _ => by rw [zup_fn (by omega)], fun j hj => by
    by_cases e : c = 68
    · subst e; rw [zup_at, if_neg (by omega)]
    · rw [zup_fn (Ne.symm e)], fun c2 x y i2 z => by
    by_cases e : c2 = c
    · subst e; rw [zup_at, if_neg (by omega)]
    · rw [zup_fn e], fun c2 x y i2 z => by rw [zup_fn (by omega)]⟩
theorem frH_mfr {ru : Nat} (hru : ru = 0 ∨ ru = 1) (a : mfr h ru h1) : frH h h1 := ⟨fun c2 x => a.1 c2 (by omega) (by omega) (by omega), fun j x y => a.2.1 j (by omega), fun j hj => a.2.2.1 j (by omega), fun c2 x y i _ => by rw [a.1 c2 (by omega) (by omega) (by omega)], fun c2 x y i hi => by
    by_cases e : c2 = 75 + ru
    · rw [e]; exact a.2.2.2 i hi
    · rw [a.1 c2 (by omega) (by omega) e]⟩
theorem mclk_H (hk : mclk h T n) (a : frH h h1) : mclk h1 T n := ⟨by rw [a.2.1 19 (by decide) (by omega)]; exact hk.1, hk.2.1, by rw [a.1 79 (by omega)]; exact hk.2.2.1, hk.2.2.2⟩
theorem str_H (hk : strI h) (a : frH h h1) : strI h1 := ⟨by rw [a.1 65 (by omega)]; exact hk.1, by rw [a.1 66 (by omega)]; exact hk.2.1, by rw [a.1 67 (by omega)]; exact hk.2.2⟩
/-- a rule's signs, none where it is not told -/
def rlL (o : Option (List Int × Bool)) : List Int := match o with
  | none => []
  | some (l, _) => l
/-- the draft, in the second halves -/
def drM (h : zH) (D : zDf) : Prop :=
  (h 68 5 = (D.1.length : Int) ∧ ∀ i, i < D.1.length → h 69 (8 + i) = (D.1.getD i (0, 0)).1 ∧ h 70 (8 + i) = (D.1.getD i (0, 0)).2) ∧
  (h 68 6 = (D.2.1.length : Int) ∧ ∀ i, i < D.2.1.length → h 72 (8 + i) = (D.2.1.getD i (0, 0, 0, 0)).1 ∧ h 73 (8 + i) = (D.2.1.getD i (0, 0, 0, 0)).2.1 ∧ h 74 (8 + i) = (D.2.1.getD i (0, 0, 0, 0)).2.2.1 ∧ h 71 (8 + i) = (D.2.1.getD i (0, 0, 0, 0)).2.2.2) ∧
  h 68 7 = D.2.2.1 ∧ ∀ ru, ru < 2 → h 68 (8 + ru) = ((rlL (ruO D ru)).length : Int) ∧ ∀ i, i < (rlL (ruO D ru)).length → h (75 + ru) (700 + i) = enc ((rlL (ruO D ru)).getD i 0)
theorem drM_cg (e : ∀ c2 : Nat, 68 ≤ c2 → c2 ≤ 76 → h1 c2 = h c2) (hD : drM h D) : drM h1 D := by
  obtain ⟨⟨a1, a2⟩, ⟨b1, b2⟩, c1, d1⟩ := hD
  refine ⟨⟨by rw [e 68 (by omega) (by omega)]; exact a1, fun i hi => by rw [e 69 (by omega) (by omega), e 70 (by omega) (by omega)]; exact a2 i hi⟩, ⟨by rw [e 68 (by omega) (by omega)]; exact b1, fun i hi => by rw [e 72 (by omega) (by omega), e 73 (by omega) (by omega), e 74 (by omega) (by omega), e 71 (by omega) (by omega)]; exact b2 i hi⟩, by rw [e 68 (by omega) (by omega)]; exact c1, fun ru hru => ⟨by rw [e 68 (by omega) (by omega)]; exact (d1 ru hru).1, fun i hi => by rw [e (75 + ru) (by omega) (by omega)]; exact (d1 ru hru).2 i hi⟩⟩
theorem drM_leaf {a b : Int} (hD : drM h D) (e : ∀ c2 : Nat, c2 ≠ 64 → h1 c2 = zup (zup (zup h 69 (8 + D.1.length) a) 70 (8 + D.1.length) b) 68 5 ((D.1.length : Int) + 1) c2) : drM h1 (D.1 ++ [(a, b)], D.2) := by
  obtain ⟨⟨a1, a2⟩, ⟨b1, b2⟩, c1, d1⟩ := hD
  have eo : ∀ c2 : Nat, 71 ≤ c2 → h1 c2 = h c2 := fun c2 hc => by rw [e c2 (by omega), zup_fn (by omega), zup_fn (by omega), zup_fn (by omega)]
  have et : ∀ j, j ≠ 5 → h1 68 j = h 68 j := fun j hj => by rw [e 68 (by decide), zup_at, if_neg hj, zup_fn (by decide), zup_fn (by decide)]
  refine ⟨⟨by rw [e 68 (by decide), zup_at, if_pos rfl]; simp, fun i hi => ?_⟩, ⟨by rw [et 6 (by decide)]; exact b1, fun i hi => by rw [eo 72 (by omega), eo 73 (by omega), eo 74 (by omega), eo 71 (by omega)]; exact b2 i hi⟩, by rw [et 7 (by decide)]; exact c1, fun ru hru => ⟨by rw [et (8 + ru) (by omega)]; exact (d1 ru hru).1, fun i hi => by rw [eo (75 + ru) (by omega)]; exact (d1 ru hru).2 i hi⟩⟩
  have hi2 : i < D.1.length + 1 := by simpa using hi
  show h1 69 (8 + i) = ((D.1 ++ [(a, b)]).getD i (0, 0)).1 ∧ h1 70 (8 + i) = ((D.1 ++ [(a, b)]).getD i (0, 0)).2
  rw [getD_app hi, e 69 (by decide), e 70 (by decide), zup_fn (by decide), zup_fn (by decide), zup_at, zup_fn (by decide), zup_at]
  by_cases e9 : i = D.1.length
  · rw [if_pos e9, if_pos (by omega), if_pos (by omega)]; exact ⟨rfl, rfl⟩
  · rw [if_neg e9, if_neg (by omega), if_neg (by omega), zup_fn (by decide)]; exact a2 i (by omega)
theorem drM_jud {a b w br : Int} (hD : drM h D) (e : ∀ c2 : Nat, c2 ≠ 64 → h1 c2 = zup (zup (zup (zup (zup h 71 (8 + D.2.1.length) br) 72 (8 + D.2.1.length) a) 73 (8 + D.2.1.length) b) 74 (8 + D.2.1.length) w) 68 6 ((D.2.1.length : Int) + 1) c2) : drM h1 (D.1, D.2.1 ++ [(a, b, w, br)], D.2.2) := by
  obtain ⟨⟨a1, a2⟩, ⟨b1, b2⟩, c1, d1⟩ := hD
  have eo : ∀ c2 : Nat, (c2 = 69 ∨ c2 = 70 ∨ 75 ≤ c2) → h1 c2 = h c2 := fun c2 hc => by rw [e c2 (by omega), zup_fn (by omega), zup_fn (by omega), zup_fn (by omega), zup_fn (by omega), zup_fn (by omega)]
  have et : ∀ j, j ≠ 6 → h1 68 j = h 68 j := fun j hj => by rw [e 68 (by decide), zup_at, if_neg hj, zup_fn (by decide), zup_fn (by decide), zup_fn (by decide), zup_fn (by decide)]
  refine ⟨⟨by rw [et 5 (by decide)]; exact a1, fun i hi => by rw [eo 69 (by omega), eo 70 (by omega)]; exact a2 i hi⟩, ⟨by rw [e 68 (by decide), zup_at, if_pos rfl]; simp, fun i hi => ?_⟩, by rw [et 7 (by decide)]; exact c1, fun ru hru => ⟨by rw [et (8 + ru) (by omega)]; exact (d1 ru hru).1, fun i hi => by rw [eo (75 + ru) (by omega)]; exact (d1 ru hru).2 i hi⟩⟩
  have hi2 : i < D.2.1.length + 1 := by simpa using hi
  have c71 : h1 71 (8 + i) = if i = D.2.1.length then br else h 71 (8 + i) := by rw [e 71 (by decide), zup_fn (by decide), zup_fn (by decide), zup_fn (by decide), zup_fn (by decide), zup_at]; exact ite_congr (by simp) (fun _ => rfl) (fun _ => rfl)
  have c72 : h1 72 (8 + i) = if i = D.2.1.length then a else h 72 (8 + i) := by rw [e 72 (by decide), zup_fn (by decide), zup_fn (by decide), zup_fn (by decide), zup_at, zup_fn (by decide)]; exact ite_congr (by simp) (fun _ => rfl) (fun _ => rfl)
  have c73 : h1 73 (8 + i) = if i = D.2.1.length then b else h 73 (8 + i) := by rw [e 73 (by decide), zup_fn (by decide), zup_fn (by decide), zup_at, zup_fn (by decide), zup_fn (by decide)]; exact ite_congr (by simp) (fun _ => rfl) (fun _ => rfl)
  have c74 : h1 74 (8 + i) = if i = D.2.1.length then w else h 74 (8 + i) := by rw [e 74 (by decide), zup_fn (by decide), zup_at, zup_fn (by decide), zup_fn (by decide), zup_fn (by decide)]; exact ite_congr (by simp) (fun _ => rfl) (fun _ => rfl)
  show h1 72 (8 + i) = ((D.2.1 ++ [(a, b, w, br)]).getD i (0, 0, 0, 0)).1 ∧ h1 73 (8 + i) = ((D.2.1 ++ [(a, b, w, br)]).getD i (0, 0, 0, 0)).2.1 ∧ h1 74 (8 + i) = ((D.2.1 ++ [(a, b, w, br)]).getD i (0, 0, 0, 0)).2.2.1 ∧ h1 71 (8 + i) = ((D.2.1 ++ [(a, b, w, br)]).getD i (0, 0, 0, 0)).2.2.2
  rw [getD_app hi, c71, c72, c73, c74]
  by_cases e9 : i = D.2.1.length
  · rw [if_pos e9, if_pos e9, if_pos e9, if_pos e9, if_pos e9]; exact ⟨rfl, rfl, rfl, rfl⟩
  · rw [if_neg e9, if_neg e9, if_neg e9, if_neg e9, if_neg e9]; exact b2 i (by omega)
theorem drM_pot {a : Int} (hD : drM h D) (e : ∀ c2 : Nat, c2 ≠ 64 → h1 c2 = zup h 68 7 a c2) : drM h1 (D.1, D.2.1, a, true, D.2.2.2.2) := by
  obtain ⟨⟨a1, a2⟩, ⟨b1, b2⟩, c1, d1⟩ := hD
  have eo : ∀ c2 : Nat, 69 ≤ c2 → h1 c2 = h c2 := fun c2 hc => by rw [e c2 (by omega), zup_fn (by omega)]
  have et : ∀ j, j ≠ 7 → h1 68 j = h 68 j := fun j hj => by rw [e 68 (by decide), zup_at, if_neg hj]
  exact ⟨⟨by rw [et 5 (by decide)]; exact a1, fun i hi => by rw [eo 69 (by omega), eo 70 (by omega)]; exact a2 i hi⟩, ⟨by rw [et 6 (by decide)]; exact b1, fun i hi => by rw [eo 72 (by omega), eo 73 (by omega), eo 74 (by omega), eo 71 (by omega)]; exact b2 i hi⟩, by rw [e 68 (by decide), zup_at, if_pos rfl], fun ru hru => ⟨by rw [et (8 + ru) (by omega)]; exact (d1 ru hru).1, fun i hi => by rw [eo (75 + ru) (by omega)]; exact (d1 ru hru).2 i hi⟩⟩
theorem drM_rule {ru : Nat} {l : List Int} {b : Bool} (hru : ru < 2) (hD : drM h D) (he : emM h T n ru 0 l q h1) : drM h1 (setR D ru (l, b)) := by
  obtain ⟨⟨a1, a2⟩, ⟨b1, b2⟩, c1, d1⟩ := hD
  obtain ⟨s1, s2, s3, s4⟩ := setR_1 D ru (l, b)
  obtain ⟨f, e1, e2, e3, e4, e5⟩ := he
  have eo : ∀ c2 : Nat, 69 ≤ c2 → c2 ≠ 75 + ru → h1 c2 = h c2 := fun c2 hc x => f.1 c2 (by omega) (by omega) x
  have et : ∀ j, j ≠ 8 + ru → h1 68 j = h 68 j := fun j hj => f.2.2.1 j hj
  refine ⟨?_, ?_, by rw [et 7 (by omega), s3]; exact c1, fun r2 hr2 => ?_⟩
  · rw [s1]; exact ⟨by rw [et 5 (by omega)]; exact a1, fun i hi => by rw [eo 69 (by omega) (by omega), eo 70 (by omega) (by omega)]; exact a2 i hi⟩
  · rw [s2]; exact ⟨by rw [et 6 (by omega)]; exact b1, fun i hi => by rw [eo 72 (by omega) (by omega), eo 73 (by omega) (by omega), eo 74 (by omega) (by omega), eo 71 (by omega) (by omega)]; exact b2 i hi⟩
  · rw [ruO_set D ru r2 _ hru hr2]
    by_cases e9 : r2 = ru
    · rw [if_pos e9, e9]
      refine ⟨by rw [e2, Nat.zero_add]; rfl, fun i hi => ?_⟩
      have := e4 i hi
      rw [Nat.zero_add] at this
      exact this
    · rw [if_neg e9]
      exact ⟨by rw [et (8 + r2) (by omega)]; exact (d1 r2 hr2).1, fun i hi => by rw [eo (75 + r2) (by omega) (by omega)]; exact (d1 r2 hr2).2 i hi⟩
def preL (h : zH) (T : Nat → Int) (n : Nat) (D : zDf) (p : Nat) : Prop := mclk h T n ∧ mtok h T n p ∧ p ≤ n ∧ h 64 24 = 0 ∧ drM h D ∧ strI h ∧ dfOK D
def lnS (h : zH) (T : Nat → Int) (n : Nat) (R : zRD) (h' : zH) : Prop := frH h h' ∧ match R with
  | .inl e => tsM h' T n (.inl e)
  | .inr (D2, q) => tsM h' T n (.inr q) ∧ drM h' D2
theorem lnS_w {k : Int} (hk : 1 ≤ k ∧ k ≤ 5) (ht : mtok h T n p) : lnS h T n (.inl (k, p)) (wrg h k) := ⟨frH_nf (mnf_wrg k), ts_wrg hk ht⟩
theorem ns_l {e : Int × Nat} : nsU T n lo hi (.inl e) = .inl e := rfl
theorem nu_r {a : Int} {q2 : Nat} (e : numP T n lo hi q = .inr (a, q2)) : nsU T n lo hi (.inr q) = .inr q2 ∧ nvU T n lo hi (.inr q) = a := by
  constructor
  · show (match numP T n lo hi q with | .inl e => Sum.inl e | .inr (_, q2) => .inr q2) = _; rw [e]
  · show (match numP T n lo hi q with | .inl _ => 0 | .inr (a, _) => a) = _; rw [e]
theorem nu_l {e9 : Int × Nat} (e : numP T n lo hi q = .inl e9) : nsU T n lo hi (.inr q) = .inl e9 := by
  show (match numP T n lo hi q with | .inl e => Sum.inl e | .inr (_, q2) => .inr q2) = _; rw [e]
theorem leaf_ok (hp : preL h T n D p) (hm : ¬ 8 ≤ D.1.length) (st1 : mst h h1) (f2 : mnf h1 h2) (f3 : mnf (zup h2 69 (8 + D.1.length) (nvU T n 0 11 (.inr (tB T n p)))) h3) (ts : tsM h3 T n (nsU T n 1 9 (nsU T n 0 11 (.inr (tB T n p))))) : lnS h T n (leafP T n D p) (zup (zup h3 70 (8 + D.1.length) (nvU T n 1 9 (nsU T n 0 11 (.inr (tB T n p))))) 68 5 ((D.1.length : Int) + 1)) := by
  have g := mnf_up (c := 68) (i := 5) (v := (D.1.length : Int) + 1) (by decide) (mnf_up (c := 70) (i := 8 + D.1.length) (v := nvU T n 1 9 (nsU T n 0 11 (.inr (tB T n p)))) (by decide) (mnf_trans (mnf_up (c := 69) (i := 8 + D.1.length) (v := nvU T n 0 11 (.inr (tB T n p))) (by decide) (mnf_trans (mnf_st st1) f2)) f3))
  have ts2 := ts_up (c := 68) (i := 5) (v := (D.1.length : Int) + 1) (by decide) (ts_up (c := 70) (i := 8 + D.1.length) (v := nvU T n 1 9 (nsU T n 0 11 (.inr (tB T n p)))) (by decide) ts)
  refine ⟨frH_trans (frH_trans (frH_trans (frH_up (Or.inr ⟨by decide, by decide, by omega⟩)) (frH_up (Or.inr ⟨by decide, by decide, by omega⟩))) (frH_up (Or.inl ⟨rfl, by decide⟩))) (frH_nf g), ?_⟩
  unfold leafP
  rw [if_neg hm]
  generalize zup (zup h3 70 (8 + D.1.length) (nvU T n 1 9 (nsU T n 0 11 (.inr (tB T n p))))) 68 5 ((D.1.length : Int) + 1) = h9 at g ts2 ⊢
  cases e1 : numP T n 0 11 (tB T n p) with
  | inl e => rw [nu_l e1] at ts2; exact ts2
  | inr w =>
    obtain ⟨a, q1⟩ := w
    rw [(nu_r e1).1, (nu_r e1).2] at g
    rw [(nu_r e1).1] at ts2
    show match bn2 (numP T n 1 9 q1) _ with | .inl e => _ | .inr (D2, q) => _
    cases e2 : numP T n 1 9 q1 with
    | inl e => rw [nu_l e2] at ts2; exact ts2
    | inr w =>
      obtain ⟨b, q2⟩ := w
      rw [(nu_r e2).2] at g
      rw [(nu_r e2).1] at ts2
      exact ⟨ts2, drM_leaf hp.2.2.2.2.1 g.1⟩
theorem jud_ok {br : Int} (hp : preL h T n D p) (hm : ¬ 8 ≤ D.2.1.length) (st1 : mst h h1) (f2 : mnf (zup h1 71 (8 + D.2.1.length) br) h2) (f3 : mnf (zup h2 72 (8 + D.2.1.length) (nvU T n 0 30 (.inr (tB T n p)))) h3) (f4 : mnf (zup h3 73 (8 + D.2.1.length) (nvU T n 0 12 (nsU T n 0 30 (.inr (tB T n p))))) h4) (ts : tsM h4 T n (nsU T n 0 4 (nsU T n 0 12 (nsU T n 0 30 (.inr (tB T n p)))))) : lnS h T n (judP T n D br p) (zup (zup h4 74 (8 + D.2.1.length) (nvU T n 0 4 (nsU T n 0 12 (nsU T n 0 30 (.inr (tB T n p)))))) 68 6 ((D.2.1.length : Int) + 1)) := by
  have g := mnf_up (c := 68) (i := 6) (v := (D.2.1.length : Int) + 1) (by decide) (mnf_up (c := 74) (i := 8 + D.2.1.length) (v := nvU T n 0 4 (nsU T n 0 12 (nsU T n 0 30 (.inr (tB T n p))))) (by decide) (mnf_trans (mnf_up (c := 73) (i := 8 + D.2.1.length) (v := nvU T n 0 12 (nsU T n 0 30 (.inr (tB T n p)))) (by decide) (mnf_trans (mnf_up (c := 72) (i := 8 + D.2.1.length) (v := nvU T n 0 30 (.inr (tB T n p))) (by decide) (mnf_trans (mnf_up (c := 71) (i := 8 + D.2.1.length) (v := br) (by decide) (mnf_st st1)) f2)) f3)) f4))
  have ts2 := ts_up (c := 68) (i := 6) (v := (D.2.1.length : Int) + 1) (by decide) (ts_up (c := 74) (i := 8 + D.2.1.length) (v := nvU T n 0 4 (nsU T n 0 12 (nsU T n 0 30 (.inr (tB T n p))))) (by decide) ts)
  refine ⟨frH_trans (frH_trans (frH_trans (frH_trans (frH_trans (frH_up (Or.inr ⟨by decide, by decide, by omega⟩)) (frH_up (Or.inr ⟨by decide, by decide, by omega⟩))) (frH_up (Or.inr ⟨by decide, by decide, by omega⟩))) (frH_up (Or.inr ⟨by decide, by decide, by omega⟩))) (frH_up (Or.inl ⟨rfl, by decide⟩))) (frH_nf g), ?_⟩
  unfold judP
  rw [if_neg hm]
  generalize zup (zup h4 74 (8 + D.2.1.length) (nvU T n 0 4 (nsU T n 0 12 (nsU T n 0 30 (.inr (tB T n p)))))) 68 6 ((D.2.1.length : Int) + 1) = h9 at g ts2 ⊢
  cases e1 : numP T n 0 30 (tB T n p) with
  | inl e => rw [nu_l e1] at ts2; exact ts2
  | inr w =>
    obtain ⟨a, q1⟩ := w
    rw [(nu_r e1).1, (nu_r e1).2] at g
    rw [(nu_r e1).1] at ts2
    show match bn2 (numP T n 0 12 q1) _ with | .inl e => _ | .inr (D2, q) => _
    cases e2 : numP T n 0 12 q1 with
    | inl e => rw [nu_l e2] at ts2; exact ts2
    | inr w =>
      obtain ⟨b, q2⟩ := w
      rw [(nu_r e2).1, (nu_r e2).2] at g
      rw [(nu_r e2).1] at ts2
      show match bn2 (numP T n 0 4 q2) _ with | .inl e => _ | .inr (D2, q) => _
      cases e3 : numP T n 0 4 q2 with
      | inl e => rw [nu_l e3] at ts2; exact ts2
      | inr w =>
        obtain ⟨c, q3⟩ := w
        rw [(nu_r e3).2] at g
        rw [(nu_r e3).1] at ts2
        exact ⟨ts2, drM_jud hp.2.2.2.2.1 g.1⟩
theorem pot_ok (hp : preL h T n D p) (hm : ¬ D.2.2.2.1 = true) (st1 : mst h h1) (f2 : mnf h1 h2) (ts : tsM h2 T n (nsU T n 0 99 (.inr (tB T n p)))) : lnS h T n (potP T n D p) (zup h2 68 7 (nvU T n 0 99 (.inr (tB T n p)))) := by
  have g := mnf_up (c := 68) (i := 7) (v := nvU T n 0 99 (.inr (tB T n p))) (by decide) (mnf_trans (mnf_st st1) f2)
  have ts2 := ts_up (c := 68) (i := 7) (v := nvU T n 0 99 (.inr (tB T n p))) (by decide) ts
  refine ⟨frH_trans (frH_up (Or.inl ⟨rfl, by decide⟩)) (frH_nf g), ?_⟩
  unfold potP
  rw [if_neg hm]
  generalize zup h2 68 7 (nvU T n 0 99 (.inr (tB T n p))) = h9 at g ts2 ⊢
  cases e1 : numP T n 0 99 (tB T n p) with
  | inl e => rw [nu_l e1] at ts2; exact ts2
  | inr w =>
    obtain ⟨a, q1⟩ := w
    rw [(nu_r e1).2] at g
    rw [(nu_r e1).1] at ts2
    exact ⟨ts2, drM_pot hp.2.2.2.2.1 g.1⟩
theorem rul_ok {ru : Nat} {r : Option Value} (hru : ru = 0 ∨ ru = 1) (hp : preL h T n D p) (hm : ¬ (ruO D ru).isSome = true) (fr : frH h h1) (e1 : ∀ c2 : Nat, c2 ≠ 64 → h1 c2 = h c2) (hq : paM h1 T n ru 0 (exprP T n (decide (ru = 0)) 6 (tB T n p)) r h2) : lnS h T n (rulP T n D ru p) h2 := by
  have hD : drM h1 D := drM_cg (fun c2 a b => e1 c2 (by omega)) hp.2.2.2.2.1
  have tl := tB_lo (T := T) hp.2.2.1
  have g2 := good_expr (T := T) (n := n) (dr := decide (ru = 0)) 6 (tB T n p) tl.2.1
  unfold rulP
  rw [if_neg hm]
  rcases (paM_v hq).2 with ⟨k, q, hR, hB⟩ | ⟨l, b, q, hR, hE⟩
  · rw [hR]
    exact ⟨frH_trans fr (frH_mfr hru hB.1), hB.2⟩
  · rw [hR] at g2 ⊢
    exact ⟨frH_trans fr (frH_mfr hru hE.1), ⟨hE.2.1, hE.2.2.2.2.2, g2.2.2⟩, drM_rule (by omega) hD hE⟩
theorem isW_u {a b : List Int} (ha : isW T n p a = true) (hb : isW T n p b = true) : a = b := by
  have la := (isW_k ha).2
  have lb := (isW_k hb).2
  unfold isW at ha hb
  rw [Bool.and_eq_true, Bool.and_eq_true] at ha hb
  have fa : ∀ (b : List Int) m, likeB (fun j => T (tA T n p + j)) (fun j => b.getD j 0) m = true → ∀ j, j < m → T (tA T n p + j) = b.getD j 0 := by
    intro b m
    induction m with
    | zero => intro _ j hj; exact absurd hj (Nat.not_lt_zero j)
    | succ m ih =>
      intro h j hj
      rw [likeB_s, Bool.and_eq_true] at h
      by_cases e : j = m
      · rw [e]; exact of_decide_eq_true h.2
      · exact ih h.1 j (by omega)
  refine List.ext_getElem (by omega) (fun i h1 h2 => ?_)
  have x1 := fa a _ ha.2.2 i h1
  have x2 := fa b _ hb.2.2 i h2
  rw [x1] at x2
  rw [List.getD_eq_getElem?_getD, List.getElem?_eq_getElem h1, List.getD_eq_getElem?_getD, List.getElem?_eq_getElem h2] at x2
  exact x2
end ZLN

