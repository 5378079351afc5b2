/-! THE CLERK: lines, and a text -/
/-- a draft: leaves, judges, the pot, whether it is told, drinks, reads -/
abbrev zDf : Type := List (Int × Int) × List (Int × Int × Int × Int) × Int × Bool × Option (List Int × Bool) × Option (List Int × Bool)
abbrev zRD : Type := (Int × Nat) ⊕ (zDf × Nat)
def numP (T : Nat → Int) (n : Nat) (lo hi : Int) (p : Nat) : (Int × Nat) ⊕ (Int × Nat) := if tK T n p = 2 then (if tB T n p - tA T n p ≤ 4 ∧ lo ≤ tV T n p ∧ tV T n p ≤ hi then .inr (tV T n p, tB T n p) else .inl (2, p)) else .inl (1, p)
def bn2 (r : (Int × Nat) ⊕ (Int × Nat)) (f : Int → Nat → zRD) : zRD := match r with
  | .inl e => .inl e
  | .inr (v, q) => f v q
def leafP (T : Nat → Int) (n : Nat) (D : zDf) (p : Nat) : zRD := if 8 ≤ D.1.length then .inl (2, p) else bn2 (numP T n 0 11 (tB T n p)) (fun a q => bn2 (numP T n 1 9 q) (fun b q2 => .inr ((D.1 ++ [(a, b)], D.2), q2)))
def judP (T : Nat → Int) (n : Nat) (D : zDf) (br : Int) (p : Nat) : zRD := if 8 ≤ D.2.1.length then .inl (2, p) else bn2 (numP T n 0 30 (tB T n p)) (fun a q => bn2 (numP T n 0 12 q) (fun b q2 => bn2 (numP T n 0 4 q2) (fun c q3 => .inr ((D.1, D.2.1 ++ [(a, b, c, br)], D.2.2), q3))))
def potP (T : Nat → Int) (n : Nat) (D : zDf) (p : Nat) : zRD := if D.2.2.2.1 = true then .inl (5, p) else bn2 (numP T n 0 99 (tB T n p)) (fun a q => .inr ((D.1, D.2.1, a, true, D.2.2.2.2), q))
def ruO (D : zDf) (ru : Nat) : Option (List Int × Bool) := if ru = 0 then D.2.2.2.2.1 else D.2.2.2.2.2
def setR (D : zDf) (ru : Nat) (x : List Int × Bool) : zDf := if ru = 0 then (D.1, D.2.1, D.2.2.1, D.2.2.2.1, some x, D.2.2.2.2.2) else (D.1, D.2.1, D.2.2.1, D.2.2.2.1, D.2.2.2.2.1, some x)
def bn3 (r : zR) (f : List Int → Bool → Nat → zRD) : zRD := match r with
  | .inl e => .inl e
  | .inr (l, b, q) => f l b q
def rulP (T : Nat → Int) (n : Nat) (D : zDf) (ru p : Nat) : zRD := if (ruO D ru).isSome = true then .inl (5, p) else bn3 (exprP T n (decide (ru = 0)) 6 (tB T n p)) (fun l b q => .inr (setR D ru (l, b), q))
def lineP (T : Nat → Int) (n : Nat) (D : zDf) (p : Nat) : zRD := if isW T n p wLeaf = true then leafP T n D p else if isW T n p wJudge = true then judP T n D 0 p else if isW T n p wBarr = true then judP T n D 1 p else if isW T n p wPot = true then potP T n D p else if isW T n p wDrinks = true then rulP T n D 0 p else if isW T n p wReads = true then rulP T n D 1 p else .inl (1, p)
def textP (T : Nat → Int) (n : Nat) : Nat → zDf → Nat → (Int × Nat) ⊕ zDf
  | 0, D, _ => .inr D
  | k + 1, D, p => if tK T n p = 0 then .inr D else match lineP T n D p with
    | .inl e => .inl e
    | .inr (D2, q) => if isS T n q 59 = true then textP T n k D2 (tB T n q) else .inl (1, q)
def df0 : zDf := ([], [], 60, false, none, none)
/-- a rule of a draft, on the heap -/
def rlf (h : zH) (u c ru : Nat) (o : Option (List Int × Bool)) : Prop := match o with
  | none => h (u + 10) ru = 0 ∧ h (u + 11) ru = 0
  | some (l, b) => h (u + 10) ru = 1 ∧ h (u + 11) ru = (if b = true then 1 else 0) ∧ ∃ fr : Nat, h (u + 8) ru = (fr : Int) ∧ h (u + 9) ru = ((fr + l.length : Nat) : Int) ∧ fr + l.length ≤ c ∧ ∀ i, i < l.length → h (u + 7) (fr + i) = l.getD i 0
def drf (h : zH) (u c : Nat) (D : zDf) : Prop :=
  (h u 0 = (D.1.length : Int) ∧ ∀ i, i < D.1.length → h (u + 1) i = (D.1.getD i (0, 0)).1 ∧ h (u + 2) i = (D.1.getD i (0, 0)).2) ∧
  (h u 3 = (D.2.1.length : Int) ∧ ∀ i, i < D.2.1.length → h (u + 3) i = (D.2.1.getD i (0, 0, 0, 0)).1 ∧ h (u + 4) i = (D.2.1.getD i (0, 0, 0, 0)).2.1 ∧ h (u + 5) i = (D.2.1.getD i (0, 0, 0, 0)).2.2.1 ∧ h (u + 6) i = (D.2.1.getD i (0, 0, 0, 0)).2.2.2) ∧
  h u 8 = D.2.2.1 ∧ h u 9 = (if D.2.2.2.1 = true then 1 else 0) ∧ h u 11 = (c : Int) ∧ ∀ ru, ru < 2 → rlf h u c ru (ruO D ru)
def dfr (h : zH) (u : Nat) (h' : zH) : Prop := (∀ c2 : Nat, c2 ≠ 14 → (c2 < u ∨ u + 11 < c2) → h' c2 = h c2) ∧ ∀ j, j < 3 → h' 14 j = h 14 j
def preD (h : zH) (T : Nat → Int) (n u c : Nat) (D : zDf) (p : Nat) : Prop := clk h T n u ∧ tokAt h T n p ∧ p ≤ n ∧ drf h u c D ∧ c ≤ p ∧ D.1.length ≤ 8 ∧ D.2.1.length ≤ 8
def linQ (h : zH) (T : Nat → Int) (n u : Nat) (R : zRD) : Option Value → zH → Prop := fun r h' => match R with
  | .inl (k, q) => r = some (ziv 0) ∧ dfr h u h' ∧ h' 14 9 = k ∧ h' 14 4 = (tA T n q : Int)
  | .inr (D, q) => r = some (ziv 1) ∧ dfr h u h' ∧ h' 14 9 = h 14 9 ∧ ∃ c : Nat, preD h' T n u c D q
theorem linQ_v {h : zH} {T : Nat → Int} {n u : Nat} {R : zRD} {r : Option Value} {h' : zH} (hq : linQ h T n u R r h') : ∃ v : Int, r = some (ziv v) ∧ (v = 0 ∨ v = 1) ∧ (v = 0 → ∃ k q, R = .inl (k, q) ∧ dfr h u h' ∧ h' 14 9 = k ∧ h' 14 4 = (tA T n q : Int)) ∧ (v ≠ 0 → ∃ D q, R = .inr (D, q) ∧ dfr h u h' ∧ h' 14 9 = h 14 9 ∧ ∃ c : Nat, preD h' T n u c D q) := by
  rcases R with ⟨k, q⟩ | ⟨D, q⟩
  · exact ⟨0, hq.1, Or.inl rfl, fun _ => ⟨k, q, rfl, hq.2⟩, fun z => absurd rfl z⟩
  · exact ⟨1, hq.1, Or.inr rfl, fun z => absurd z (by decide), fun _ => ⟨D, q, rfl, hq.2⟩⟩
theorem dfr_rfl (h : zH) (u : Nat) : dfr h u h := ⟨fun _ _ _ => rfl, fun _ _ => rfl⟩
theorem dfr_trans {h h1 h2 : zH} {u : Nat} (a : dfr h u h1) (b : dfr h1 u h2) : dfr h u h2 := ⟨fun c2 e f => (b.1 c2 e f).trans (a.1 c2 e f), fun j hj => (b.2 j hj).trans (a.2 j hj)⟩
theorem dfr_F {h h1 : zH} {u : Nat} (a : clkF h h1) : dfr h u h1 := ⟨fun c2 e _ => a.1 c2 e, fun j hj => a.2 j (by omega) (by omega) (by omega) (by omega)⟩
theorem dfr_14 (h : zH) (u j : Nat) (v : Int) (hj : 3 ≤ j) : dfr h u (zup h 14 j v) := ⟨fun c2 e _ => zup_fn e, fun i hi => by rw [zup_at, if_neg (by omega)]⟩
theorem dfr_up (h : zH) {u k i : Nat} {v : Int} (hu : isCourt u) (hk : u ≤ k ∧ k ≤ u + 11) : dfr h u (zup h k i v) := by
  have hu9 : u = 2 ∨ u = 16 := hu
  exact ⟨fun c2 e f => zup_fn (by omega), fun j hj => by rw [zup_fn (by omega)]⟩
theorem clk_D {h h1 : zH} {T : Nat → Int} {n u : Nat} (hk : clk h T n u) (a : dfr h u h1) : clk h1 T n u := by
  obtain ⟨k0, k1, k2, k3, k4, k5, k6⟩ := hk
  have hu9 : u = 2 ∨ u = 16 := k4
  exact ⟨by rw [a.2 0 (by omega)]; exact k0, by rw [a.2 1 (by omega)]; exact k1, k2, by rw [a.2 2 (by omega)]; exact k3, k4, by rw [a.1 1 (by decide) (by omega)]; exact k5, k6⟩
theorem tok_up {h : zH} {T : Nat → Int} {n p k i : Nat} {v : Int} (hk : k ≠ 14) (ht : tokAt h T n p) : tokAt (zup h k i v) T n p := by
  unfold tokAt; rw [zup_fn (by omega)]; exact ht
def numY (h : zH) (T : Nat → Int) (n : Nat) (lo hi : Int) (p : Nat) (h' : zH) : Prop := ∃ a q, numP T n lo hi p = .inr (a, q) ∧ (∀ c2 : Nat, c2 ≠ 14 → h' c2 = h c2) ∧ dfr h 0 h' ∧ h' 14 9 = h 14 9 ∧ h' 14 8 = a ∧ tokAt h' T n q ∧ p < q ∧ q ≤ n
theorem numQ_v {h : zH} {T : Nat → Int} {n p : Nat} {lo hi : Int} {r : Option Value} {h' : zH} (hp : p ≤ n) (q : if tK T n p = 2 then (if tB T n p - tA T n p ≤ 4 ∧ lo ≤ tV T n p ∧ tV T n p ≤ hi then r = some (ziv 1) ∧ clkF (zup h 14 8 (tV T n p)) h' ∧ tokAt h' T n (tB T n p) else r = some (ziv 0) ∧ h' = zup h 14 9 2) else r = some (ziv 0) ∧ h' = zup h 14 9 1) :
    ∃ v : Int, r = some (ziv v) ∧ (v = 0 ∨ v = 1) ∧ (v = 0 → ∃ k, numP T n lo hi p = .inl (k, p) ∧ h' = zup h 14 9 k) ∧ (v ≠ 0 → numY h T n lo hi p h') := by
  have tl := tB_lo (T := T) hp
  have ta := tA_lo (T := T) hp
  unfold numP
  by_cases e : tK T n p = 2
  · rw [if_pos e] at q ⊢
    by_cases e2 : tB T n p - tA T n p ≤ 4 ∧ lo ≤ tV T n p ∧ tV T n p ≤ hi
    · rw [if_pos e2] at q ⊢
      obtain ⟨q1, q2, q3⟩ := q
      have tk := tl.2.2 (by rw [e]; decide)
      have f0 : ∀ c2 : Nat, c2 ≠ 14 → h' c2 = h c2 := fun c2 e => by rw [q2.1 c2 e, zup_fn e]
      exact ⟨1, q1, Or.inr rfl, fun z => absurd z (by decide), fun _ => ⟨tV T n p, tB T n p, by unfold numP; rw [if_pos e, if_pos e2], f0, ⟨fun c2 e _ => f0 c2 e, fun j hj => by rw [q2.2 j (by omega) (by omega) (by omega) (by omega), zup_at, if_neg (by omega)]⟩, by rw [q2.2 9 (by decide) (by decide) (by decide) (by decide), zup_at, if_neg (by decide)], by rw [q2.2 8 (by decide) (by decide) (by decide) (by decide), zup_at, if_pos rfl], q3, by omega, tl.2.1⟩⟩
    · rw [if_neg e2] at q ⊢
      exact ⟨0, q.1, Or.inl rfl, fun _ => ⟨2, rfl, q.2⟩, fun z => absurd rfl z⟩
  · rw [if_neg e] at q ⊢
    exact ⟨0, q.1, Or.inl rfl, fun _ => ⟨1, rfl, q.2⟩, fun z => absurd rfl z⟩
theorem dfr_0 {h h1 : zH} {u : Nat} (a : dfr h 0 h1) (f : ∀ c2 : Nat, c2 ≠ 14 → h1 c2 = h c2) : dfr h u h1 := ⟨fun c2 e _ => f c2 e, a.2⟩
theorem zup_cg {h1 h2 : zH} {c i c2 : Nat} {v : Int} (e : h1 c2 = h2 c2) : zup h1 c i v c2 = zup h2 c i v c2 := by
  funext j; unfold zup; rw [e]
theorem rlf_congr {h h1 : zH} {u c c1 ru : Nat} {o : Option (List Int × Bool)} (hc : c ≤ c1) (e8 : h1 (u + 8) ru = h (u + 8) ru) (e9 : h1 (u + 9) ru = h (u + 9) ru) (e10 : h1 (u + 10) ru = h (u + 10) ru) (e11 : h1 (u + 11) ru = h (u + 11) ru) (e7 : ∀ i, i < c → h1 (u + 7) i = h (u + 7) i) (h0 : rlf h u c ru o) : rlf h1 u c1 ru o := by
  match o with
  | none => exact ⟨by rw [e10]; exact h0.1, by rw [e11]; exact h0.2⟩
  | some (l, b) =>
    obtain ⟨a1, a2, fr, a3, a4, a5, a6⟩ := h0
    exact ⟨by rw [e10]; exact a1, by rw [e11]; exact a2, fr, by rw [e8]; exact a3, by rw [e9]; exact a4, by omega, fun i hi => by rw [e7 _ (by omega)]; exact a6 i hi⟩
theorem getD_app {α : Type} {l : List α} {x d : α} {i : Nat} (hi : i < (l ++ [x]).length) : (l ++ [x]).getD i d = if i = l.length then x else l.getD i d := by
  rw [List.length_append] at hi
  simp only [List.length_cons, List.length_nil] at hi
  rw [List.getD_eq_getElem?_getD, List.getD_eq_getElem?_getD]
  by_cases e : i = l.length
  · rw [if_pos e, e, List.getElem?_append_right (Nat.le_refl _)]; simp
  · rw [if_neg e, List.getElem?_append_left (by omega)]
theorem drf_leaf {h h' : zH} {u c : Nat} {D : zDf} {a b : Int} (hu : isCourt u) (hD : drf h u c D) (e : ∀ c2 : Nat, c2 ≠ 14 → h' c2 = zup (zup (zup h (u + 1) D.1.length a) (u + 2) D.1.length b) u 0 ((D.1.length : Int) + 1) c2) : drf h' u c (D.1 ++ [(a, b)], D.2) := by
  have hu9 : u = 2 ∨ u = 16 := hu
  obtain ⟨⟨d1, d2⟩, ⟨d3, d4⟩, d5, d6, d7, d8⟩ := hD
  have eu : ∀ j, j ≠ 0 → h' u j = h u j := fun j hj => by rw [e u (by omega), zup_at, if_neg hj, zup_fn (by omega), zup_fn (by omega)]
  have eo : ∀ o, 3 ≤ o → o ≤ 11 → h' (u + o) = h (u + o) := fun o o1 o2 => by rw [e (u + o) (by omega), zup_fn (by omega), zup_fn (by omega), zup_fn (by omega)]
  refine ⟨⟨by rw [e u (by omega), zup_at, if_pos rfl]; simp, fun i hi => ?_⟩, ⟨by rw [eu 3 (by decide)]; exact d3, fun i hi => by rw [eo 3 (by omega) (by omega), eo 4 (by omega) (by omega), eo 5 (by omega) (by omega), eo 6 (by omega) (by omega)]; exact d4 i hi⟩, by rw [eu 8 (by decide)]; exact d5, by rw [eu 9 (by decide)]; exact d6, by rw [eu 11 (by decide)]; exact d7, fun ru hru => ?_⟩
  · rw [getD_app hi, e (u + 1) (by omega), e (u + 2) (by omega)]
    rw [zup_fn (by omega), zup_fn (by omega), zup_at, zup_fn (by omega), zup_at]
    have hi2 : i < D.1.length + 1 := by simpa using hi
    split
    · exact ⟨rfl, rfl⟩
    · rw [zup_fn (by omega)]; exact d2 i (by omega)
  · exact rlf_congr (Nat.le_refl _) (by rw [eo 8 (by omega) (by omega)]) (by rw [eo 9 (by omega) (by omega)]) (by rw [eo 10 (by omega) (by omega)]) (by rw [eo 11 (by omega) (by omega)]) (fun i _ => by rw [eo 7 (by omega) (by omega)]) (d8 ru hru)
theorem drf_jud {h h' : zH} {u c : Nat} {D : zDf} {a b w br : Int} (hu : isCourt u) (hD : drf h u c D) (e : ∀ c2 : Nat, c2 ≠ 14 → h' c2 = zup (zup (zup (zup (zup h (u + 3) D.2.1.length a) (u + 4) D.2.1.length b) (u + 5) D.2.1.length w) (u + 6) D.2.1.length br) u 3 ((D.2.1.length : Int) + 1) c2) : drf h' u c (D.1, D.2.1 ++ [(a, b, w, br)], D.2.2) := by
  have hu9 : u = 2 ∨ u = 16 := hu
  obtain ⟨⟨d1, d2⟩, ⟨d3, d4⟩, d5, d6, d7, d8⟩ := hD
  have eu : ∀ j, j ≠ 3 → h' u j = h u j := fun j hj => by rw [e u (by omega), zup_at, if_neg hj, zup_fn (by omega), zup_fn (by omega), zup_fn (by omega), zup_fn (by omega)]
  have eo : ∀ o, 1 ≤ o → o ≤ 11 → o ≠ 3 → o ≠ 4 → o ≠ 5 → o ≠ 6 → h' (u + o) = h (u + o) := fun o o1 o2 o3 o4 o5 o6 => by rw [e (u + o) (by omega), zup_fn (by omega), zup_fn (by omega), zup_fn (by omega), zup_fn (by omega), zup_fn (by omega)]
  refine ⟨⟨by rw [eu 0 (by decide)]; exact d1, fun i hi => by rw [eo 1 (by omega) (by omega) (by omega) (by omega) (by omega) (by omega), eo 2 (by omega) (by omega) (by omega) (by omega) (by omega) (by omega)]; exact d2 i hi⟩, ⟨by rw [e u (by omega), zup_at, if_pos rfl]; simp, fun i hi => ?_⟩, by rw [eu 8 (by decide)]; exact d5, by rw [eu 9 (by decide)]; exact d6, by rw [eu 11 (by decide)]; exact d7, fun ru hru => ?_⟩
  · have hi2 : i < D.2.1.length + 1 := by simpa using hi
    have c3 : h' (u + 3) i = if i = D.2.1.length then a else h (u + 3) i := by rw [e (u + 3) (by omega), zup_fn (by omega), zup_fn (by omega), zup_fn (by omega), zup_fn (by omega), zup_at]
    have c4 : h' (u + 4) i = if i = D.2.1.length then b else h (u + 4) i := by rw [e (u + 4) (by omega), zup_fn (by omega), zup_fn (by omega), zup_fn (by omega), zup_at, zup_fn (by omega)]
    have c5 : h' (u + 5) i = if i = D.2.1.length then w else h (u + 5) i := by rw [e (u + 5) (by omega), zup_fn (by omega), zup_fn (by omega), zup_at, zup_fn (by omega), zup_fn (by omega)]
    have c6 : h' (u + 6) i = if i = D.2.1.length then br else h (u + 6) i := by rw [e (u + 6) (by omega), zup_fn (by omega), zup_at, zup_fn (by omega), zup_fn (by omega), zup_fn (by omega)]
    show h' (u + 3) i = ((D.2.1 ++ [(a, b, w, br)]).getD i (0, 0, 0, 0)).1 ∧ h' (u + 4) i = ((D.2.1 ++ [(a, b, w, br)]).getD i (0, 0, 0, 0)).2.1 ∧ h' (u + 5) i = ((D.2.1 ++ [(a, b, w, br)]).getD i (0, 0, 0, 0)).2.2.1 ∧ h' (u + 6) i = ((D.2.1 ++ [(a, b, w, br)]).getD i (0, 0, 0, 0)).2.2.2
    rw [getD_app hi, c3, c4, c5, c6]
    by_cases e9 : i = D.2.1.length
    · rw [if_pos e9, if_pos e9, if_pos e9, if_pos e9, if_pos e9]; exact ⟨rfl, rfl, rfl, rfl⟩
    · rw [if_neg e9, if_neg e9, if_neg e9, if_neg e9, if_neg e9]; exact d4 i (by omega)
  · exact rlf_congr (Nat.le_refl _) (by rw [eo 8 (by omega) (by omega) (by omega) (by omega) (by omega) (by omega)]) (by rw [eo 9 (by omega) (by omega) (by omega) (by omega) (by omega) (by omega)]) (by rw [eo 10 (by omega) (by omega) (by omega) (by omega) (by omega) (by omega)]) (by rw [eo 11 (by omega) (by omega) (by omega) (by omega) (by omega) (by omega)]) (fun i _ => by rw [eo 7 (by omega) (by omega) (by omega) (by omega) (by omega) (by omega)]) (d8 ru hru)
theorem drf_pot {h h' : zH} {u c : Nat} {D : zDf} {a : Int} (hu : isCourt u) (hD : drf h u c D) (e : ∀ c2 : Nat, c2 ≠ 14 → h' c2 = zup (zup h u 9 1) u 8 a c2) : drf h' u c (D.1, D.2.1, a, true, D.2.2.2.2) := by
  have hu9 : u = 2 ∨ u = 16 := hu
  obtain ⟨⟨d1, d2⟩, ⟨d3, d4⟩, d5, d6, d7, d8⟩ := hD
  have eu : ∀ j, j ≠ 8 → j ≠ 9 → h' u j = h u j := fun j hj hk => by rw [e u (by omega), zup_at, if_neg hj, zup_at, if_neg hk]
  have eo : ∀ o, 1 ≤ o → o ≤ 11 → h' (u + o) = h (u + o) := fun o o1 o2 => by rw [e (u + o) (by omega), zup_fn (by omega), zup_fn (by omega)]
  refine ⟨⟨by rw [eu 0 (by decide) (by decide)]; exact d1, fun i hi => by rw [eo 1 (by omega) (by omega), eo 2 (by omega) (by omega)]; exact d2 i hi⟩, ⟨by rw [eu 3 (by decide) (by decide)]; exact d3, fun i hi => by rw [eo 3 (by omega) (by omega), eo 4 (by omega) (by omega), eo 5 (by omega) (by omega), eo 6 (by omega) (by omega)]; exact d4 i hi⟩, by rw [e u (by omega), zup_at, if_pos rfl], by rw [e u (by omega), zup_at, if_neg (by decide), zup_at, if_pos rfl]; rfl, by rw [eu 11 (by decide) (by decide)]; exact d7, fun ru hru => ?_⟩
  exact rlf_congr (Nat.le_refl _) (by rw [eo 8 (by omega) (by omega)]) (by rw [eo 9 (by omega) (by omega)]) (by rw [eo 10 (by omega) (by omega)]) (by rw [eo 11 (by omega) (by omega)]) (fun i _ => by rw [eo 7 (by omega) (by omega)]) (d8 ru hru)
theorem ruO_set (D : zDf) (ru r2 : Nat) (x : List Int × Bool) (h1 : ru < 2) (h2 : r2 < 2) : ruO (setR D ru x) r2 = if r2 = ru then some x else ruO D r2 := by
  unfold ruO setR
  rcases (show ru = 0 ∨ ru = 1 by omega) with rfl | rfl <;> rcases (show r2 = 0 ∨ r2 = 1 by omega) with rfl | rfl <;> rfl
theorem setR_1 (D : zDf) (ru : Nat) (x : List Int × Bool) : (setR D ru x).1 = D.1 ∧ (setR D ru x).2.1 = D.2.1 ∧ (setR D ru x).2.2.1 = D.2.2.1 ∧ (setR D ru x).2.2.2.1 = D.2.2.2.1 := by
  unfold setR; split <;> exact ⟨rfl, rfl, rfl, rfl⟩
/-- the draft ahead of a rule's steps, and behind them -/
theorem drf_rule {h h4 h5 h6 : zH} {T : Nat → Int} {n u c ru q : Nat} {D : zDf} {l : List Int} {b : Bool} (hu : isCourt u) (hru : ru < 2) (hn : (ruO D ru).isSome = false) (hD : drf h u c D) (e4 : ∀ c2 : Nat, c2 ≠ 14 → h4 c2 = zup (zup h (u + 10) ru 1) (u + 8) ru (c : Int) c2) (he : emitd h4 T n u ru c l b q h5) (e6 : h6 = zup h5 (u + 9) ru (h5 u 11)) : drf h6 u (c + l.length) (setR D ru (l, b)) := by
  have hu9 : u = 2 ∨ u = 16 := hu
  obtain ⟨⟨d1, d2⟩, ⟨d3, d4⟩, d5, d6, d7, d8⟩ := hD
  obtain ⟨m0, m1, m2, m3, m4, m5, m6, m7, m8⟩ := he
  obtain ⟨s1, s2, s3, s4⟩ := setR_1 D ru (l, b)
  have k5 : ∀ o, 1 ≤ o → o ≤ 11 → o ≠ 7 → o ≠ 11 → h5 (u + o) = h4 (u + o) := fun o o1 o2 o3 o4 => m0 (u + o) (by omega) (by omega) (by omega) (by omega)
  have eo : ∀ o, 1 ≤ o → o ≤ 6 → h6 (u + o) = h (u + o) := fun o o1 o2 => by rw [e6, zup_fn (by omega), k5 o o1 (by omega) (by omega) (by omega), e4 (u + o) (by omega), zup_fn (by omega), zup_fn (by omega)]
  have eu : ∀ j, j ≠ 11 → h6 u j = h u j := fun j hj => by rw [e6, zup_fn (by omega), m2 j hj, e4 u (by omega), zup_fn (by omega), zup_fn (by omega)]
  have f8 : ∀ r, h6 (u + 8) r = if r = ru then (c : Int) else h (u + 8) r := fun r => by rw [e6, zup_fn (by omega), k5 8 (by omega) (by omega) (by omega) (by omega), e4 (u + 8) (by omega), zup_at, zup_fn (by omega)]
  have f9 : ∀ r, h6 (u + 9) r = if r = ru then ((c + l.length : Nat) : Int) else h (u + 9) r := fun r => by rw [e6, zup_at, m3, k5 9 (by omega) (by omega) (by omega) (by omega), e4 (u + 9) (by omega), zup_fn (by omega), zup_fn (by omega)]
  have f10 : ∀ r, h6 (u + 10) r = if r = ru then 1 else h (u + 10) r := fun r => by rw [e6, zup_fn (by omega), k5 10 (by omega) (by omega) (by omega) (by omega), e4 (u + 10) (by omega), zup_fn (by omega), zup_at]
  have g11 : h4 (u + 11) = h (u + 11) := by rw [e4 (u + 11) (by omega), zup_fn (by omega), zup_fn (by omega)]
  have g7 : h4 (u + 7) = h (u + 7) := by rw [e4 (u + 7) (by omega), zup_fn (by omega), zup_fn (by omega)]
  have f7 : h6 (u + 7) = h5 (u + 7) := by rw [e6, zup_fn (by omega)]
  have f11 : h6 (u + 11) = h5 (u + 11) := by rw [e6, zup_fn (by omega)]
  refine ⟨?_, ?_, ?_, ?_, ?_, fun r2 hr2 => ?_⟩
  · rw [s1]; exact ⟨by rw [eu 0 (by decide)]; exact d1, fun i hi => by rw [eo 1 (by omega) (by omega), eo 2 (by omega) (by omega)]; exact d2 i hi⟩
  · rw [s2]; exact ⟨by rw [eu 3 (by decide)]; exact d3, fun i hi => by rw [eo 3 (by omega) (by omega), eo 4 (by omega) (by omega), eo 5 (by omega) (by omega), eo 6 (by omega) (by omega)]; exact d4 i hi⟩
  · rw [s3, eu 8 (by decide)]; exact d5
  · rw [s4, eu 9 (by decide)]; exact d6
  · rw [e6, zup_fn (by omega)]; exact m3
  · rw [ruO_set D ru r2 _ hru hr2]
    by_cases e : r2 = ru
    · rw [if_pos e]
      have h0 := d8 r2 hr2
      rw [e] at h0 ⊢
      have hz : ruO D ru = none := by cases z : ruO D ru with
        | none => rfl
        | some _ => rw [z] at hn; cases hn
      rw [hz] at h0
      refine ⟨by rw [f10, if_pos rfl], by rw [f11, m6, g11, h0.2], c, by rw [f8, if_pos rfl], by rw [f9, if_pos rfl], Nat.le_refl _, fun i hi => by rw [f7]; exact m5 i hi⟩
    · rw [if_neg e]
      exact rlf_congr (by omega) (by rw [f8, if_neg e]) (by rw [f9, if_neg e]) (by rw [f10, if_neg e]) (by rw [f11, m7 r2 e, g11]) (fun i hi => by rw [f7, m4 i hi, g7]) (d8 r2 hr2)
theorem dfr_e {h h1 : zH} {T : Nat → Int} {n u ru c q : Nat} {l : List Int} {b : Bool} (hu : isCourt u) (he : emitd h T n u ru c l b q h1) : dfr h u h1 := by
  have hu9 : u = 2 ∨ u = 16 := hu
  exact ⟨fun c2 e f => he.1 c2 e (by omega) (by omega) (by omega), fun j hj => he.2.1 j (by omega) (by omega) (by omega) (by omega)⟩
theorem dfr_b {h h1 : zH} {T : Nat → Int} {n u q : Nat} {k : Int} (hu : isCourt u) (he : badd h T n u k q h1) : dfr h u h1 := by
  have hu9 : u = 2 ∨ u = 16 := hu
  exact ⟨fun c2 e f => he.1 c2 e (by omega) (by omega) (by omega), fun j hj => he.2.1 j (by omega)⟩

set_option maxRecDepth 100000 in
theorem c0_takeLeaf {E : zE} {h : zH} {T : Nat → Int} {n u c : Nat} {D : zDf} {p : Nat} {d k : Nat} (hp : preD h T n u c D p) (hd : 9 ≤ d) : zCal E mX0_takeLeaf d k [zrv E 14] h (linQ h T n u (leafP T n D p)) (fun _ _ => False) := by
  refine zCal_of (by decide) (Nat.le_of_ble_eq_true rfl) (fun a => ?_)
  show zV _ 0 0 [zrv E 14, .null] [] _
  have hk := hp.1
  have hn7 := hk.2.2.1
  have hu := hk.2.2.2.2.1
  have hu9 : u = 2 ∨ u = 16 := hu
  have ht := hp.2.1
  have hpn := hp.2.2.1
  have hD := hp.2.2.2.1
  have hcp := hp.2.2.2.2.1
  have hL1 := hp.2.2.2.2.2.1
  have hL2 := hp.2.2.2.2.2.2
  have tl := tB_lo (T := T) hpn
  have ta := tA_lo (T := T) hpn
  refine zV_aload_nr dX0_takeLeaf_0 rfl rfl ?_
  refine gf0_18 (t := u) (hk.2.2.2.1) rfl (rfl) dX0_takeLeaf_1 ?_
  refine gf0_127 rfl (court_0 hu) dX0_takeLeaf_4 ?_
  rw [hD.1.1]
  refine zV_istore_n dX0_takeLeaf_7 rfl (Nat.le_of_ble_eq_true rfl) rfl ?_
  refine zV_iload_n dX0_takeLeaf_8 rfl rfl ?_
  refine zV_bipush dX0_takeLeaf_9 (by decide) ?_
  refine zR_icmp_lt (tgt := 20) dX0_takeLeaf_11 (by decide) (by omega) (by omega) (fun h11 => ?_) (fun h11 => ?_)
  · refine zV_aload_nr dX0_takeLeaf_20 rfl rfl ?_
    refine zV_callV (As := []) lk0_44 (rfl) rfl rfl (c0_advance (p := tB T n p) (d - 1) 0 (by omega) hk ht.2.1 tl.2.1) ⟨by show _ + 1 ≤ d; omega, by show _ ≤ k; omega⟩ rfl (Nat.le_of_ble_eq_true rfl) dX0_takeLeaf_21 (fun _ _ z => z.elim) (fun r h1 q => ?_)
    obtain ⟨rfl, fr, ht1⟩ := q
    have f1 : dfr h u h1 := dfr_F fr
    have k1 := clk_D hk f1
    refine zV_aload_nr dX0_takeLeaf_24 rfl rfl ?_
    refine zV_iconst dX0_takeLeaf_25 ?_
    refine zV_bipush dX0_takeLeaf_26 (by decide) ?_
    refine zV_callV (As := [ziv 0, ziv 11]) lk0_130 (rfl) rfl rfl (c0_takeNumber (p := tB T n p) (lo := 0) (hi := 11) (d - 1) 0 (by omega) k1 ht1 tl.2.1 (by decide) (by decide)) ⟨by show _ + 1 ≤ d; omega, by show _ ≤ k; omega⟩ rfl (Nat.le_of_ble_eq_true rfl) dX0_takeLeaf_28 (fun _ _ z => z.elim) (fun r h2 q => ?_)
    obtain ⟨v1, rfl, hv1, hbad1, hok1⟩ := numQ_v tl.2.1 q
    refine zR_if_ne (tgt := 36) dX0_takeLeaf_31 (by decide) (by omega) (fun h31 => ?_) (fun h31 => ?_)
    · obtain ⟨a1, q1, hN1, g2, f2, z2, hT2, ht2, hq1, hq1n⟩ := hok1 h31
      have f12 : dfr h u h2 := dfr_trans f1 (dfr_0 f2 g2)
      refine zV_aload_nr dX0_takeLeaf_36 rfl rfl ?_
      refine gf0_18 (t := u) ((by rw [f12.2 2 (by decide)]; exact hk.2.2.2.1)) rfl (rfl) dX0_takeLeaf_37 ?_
      refine gf0_134 rfl (court_0 hu) dX0_takeLeaf_40 ?_
      refine zV_iload_n dX0_takeLeaf_43 rfl rfl ?_
      refine zV_aload_nr dX0_takeLeaf_44 rfl rfl ?_
      refine gf0_95 rfl rfl dX0_takeLeaf_45 ?_
      rw [hT2]
      refine zV_iastoreN (i := D.1.length) (N := 8) (court_1 hk.2.2.2.2.1) (by omega) (by decide) dX0_takeLeaf_48 ?_
      have f13 : dfr h u (zup h2 (u + 1) D.1.length a1) := dfr_trans f12 (dfr_up _ hu (by omega))
      have k3 := clk_D hk f13
      have ht3 : tokAt (zup h2 (u + 1) D.1.length a1) T n q1 := tok_up (by omega) ht2
      refine zV_aload_nr dX0_takeLeaf_49 rfl rfl ?_
      refine zV_iconst dX0_takeLeaf_50 ?_
      refine zV_bipush dX0_takeLeaf_51 (by decide) ?_
      refine zV_callV (As := [ziv 1, ziv 9]) lk0_130 (rfl) rfl rfl (c0_takeNumber (p := q1) (lo := 1) (hi := 9) (d - 1) 0 (by omega) k3 ht3 hq1n (by decide) (by decide)) ⟨by show _ + 1 ≤ d; omega, by show _ ≤ k; omega⟩ rfl (Nat.le_of_ble_eq_true rfl) dX0_takeLeaf_53 (fun _ _ z => z.elim) (fun r h4 q => ?_)
      obtain ⟨v2, rfl, hv2, hbad2, hok2⟩ := numQ_v hq1n q
      refine zR_if_ne (tgt := 61) dX0_takeLeaf_56 (by decide) (by omega) (fun h56 => ?_) (fun h56 => ?_)
      · obtain ⟨a2, q2, hN2, g4, f4, z4, hT4, ht4, hq2, hq2n⟩ := hok2 h56
        have f14 : dfr h u h4 := dfr_trans f13 (dfr_0 f4 g4)
        refine zV_aload_nr dX0_takeLeaf_61 rfl rfl ?_
        refine gf0_18 (t := u) ((by rw [f14.2 2 (by decide)]; exact hk.2.2.2.1)) rfl (rfl) dX0_takeLeaf_62 ?_
        refine gf0_137 rfl (court_0 hu) dX0_takeLeaf_65 ?_
        refine zV_iload_n dX0_takeLeaf_68 rfl rfl ?_
        refine zV_aload_nr dX0_takeLeaf_69 rfl rfl ?_
        refine gf0_95 rfl rfl dX0_takeLeaf_70 ?_
        rw [hT4]
        refine zV_iastoreN (i := D.1.length) (N := 8) (court_2 hk.2.2.2.2.1) (by omega) (by decide) dX0_takeLeaf_73 ?_
        refine zV_aload_nr dX0_takeLeaf_74 rfl rfl ?_
        refine gf0_18 (t := u) ((by rw [zup_fn (by omega), f14.2 2 (by decide)]; exact hk.2.2.2.1)) rfl (rfl) dX0_takeLeaf_75 ?_
        refine zV_iload_n dX0_takeLeaf_78 rfl rfl ?_
        refine zV_iconst dX0_takeLeaf_79 ?_
        refine zV_iadd dX0_takeLeaf_80 ?_
        refine pf0_127 rfl (court_0 hu) dX0_takeLeaf_81 ?_
        refine zV_iconst dX0_takeLeaf_84 ?_
        exact zV_zreturn dX0_takeLeaf_85 rfl (Or.inr rfl) (Nat.zero_le _) (by
          unfold leafP; rw [if_neg (by omega), hN1]; show linQ h T n u (bn2 (numP T n 1 9 q1) _) _ _; rw [hN2]
          have f15 := dfr_trans f14 (dfr_trans (dfr_up h4 (k := u + 2) (i := D.1.length) (v := a2) hu (by omega)) (dfr_up _ (k := u) (i := 0) (v := (D.1.length : Int) + 1) hu (by omega)))
          refine ⟨rfl, f15, ?_, c, clk_D hk f15, tok_up (by omega) (tok_up (by omega) ht4), hq2n, drf_leaf hu hD (fun c2 e => ?_), by omega, by simp; omega, hL2⟩
          · rw [zup_fn (by omega), zup_fn (by omega), z4, zup_fn (by omega), z2]; exact fr.2 9 (by decide) (by decide) (by decide) (by decide)
          · exact zup_cg (zup_cg (by rw [g4 c2 e]; exact zup_cg (by rw [g2 c2 e]; exact fr.1 c2 e))))
      · obtain ⟨ke, hN2, hB⟩ := hbad2 h56
        refine zV_iconst dX0_takeLeaf_59 ?_
        exact zV_zreturn dX0_takeLeaf_60 rfl (Or.inl rfl) (Nat.zero_le _) (by unfold leafP; rw [if_neg (by omega), hN1]; show linQ h T n u (bn2 (numP T n 1 9 q1) _) _ _; rw [hN2]; exact ⟨rfl, dfr_trans (f13) (by rw [hB]; exact dfr_14 _ _ _ _ (by decide)), by rw [hB, zup_at, if_pos rfl], by rw [hB, zup_at, if_neg (by decide)]; exact (ht3).1⟩)
    · obtain ⟨ke, hN1, hB⟩ := hbad1 h31
      refine zV_iconst dX0_takeLeaf_34 ?_
      exact zV_zreturn dX0_takeLeaf_35 rfl (Or.inl rfl) (Nat.zero_le _) (by unfold leafP; rw [if_neg (by omega), hN1]; exact ⟨rfl, dfr_trans (f1) (by rw [hB]; exact dfr_14 _ _ _ _ (by decide)), by rw [hB, zup_at, if_pos rfl], by rw [hB, zup_at, if_neg (by decide)]; exact (ht1).1⟩)
  · refine zV_aload_nr dX0_takeLeaf_14 rfl rfl ?_
    refine zV_iconst dX0_takeLeaf_15 ?_
    refine zV_callV (As := [ziv 2]) lk0_92 (rfl) rfl rfl (c0_refuse (d - 1) 0) ⟨by show _ + 1 ≤ d; omega, by show _ ≤ k; omega⟩ rfl (Nat.le_of_ble_eq_true rfl) dX0_takeLeaf_16 (fun _ _ z => z.elim) (fun r h9 q => ?_)
    obtain ⟨rfl, hh⟩ := q
    exact zV_zreturn dX0_takeLeaf_19 rfl (Or.inl rfl) (Nat.zero_le _) (by unfold leafP; rw [if_pos (by omega)]; exact ⟨rfl, by rw [hh]; exact dfr_14 _ _ _ _ (by decide), by rw [hh, zup_at, if_pos rfl], by rw [hh, zup_at, if_neg (by decide)]; exact ht.1⟩)
set_option maxRecDepth 100000 in
theorem c0_takeJudge {E : zE} {h : zH} {T : Nat → Int} {n u c : Nat} {D : zDf} {p : Nat} {d k : Nat} (hp : preD h T n u c D p) {br : Int} (hbr : br = 0 ∨ br = 1) (hd : 9 ≤ d) : zCal E mX0_takeJudge d k [zrv E 14, ziv br] h (linQ h T n u (judP T n D br p)) (fun _ _ => False) := by
  refine zCal_of (by decide) (Nat.le_of_ble_eq_true rfl) (fun a => ?_)
  show zV _ 0 0 [zrv E 14, ziv br, .null] [] _
  have hk := hp.1
  have hn7 := hk.2.2.1
  have hu := hk.2.2.2.2.1
  have hu9 : u = 2 ∨ u = 16 := hu
  have ht := hp.2.1
  have hpn := hp.2.2.1
  have hD := hp.2.2.2.1
  have hcp := hp.2.2.2.2.1
  have hL1 := hp.2.2.2.2.2.1
  have hL2 := hp.2.2.2.2.2.2
  have tl := tB_lo (T := T) hpn
  have ta := tA_lo (T := T) hpn
  refine zV_aload_nr dX0_takeJudge_0 rfl rfl ?_
  refine gf0_18 (t := u) (hk.2.2.2.1) rfl (rfl) dX0_takeJudge_1 ?_
  refine gf0_140 rfl (court_0 hu) dX0_takeJudge_4 ?_
  rw [hD.2.1.1]
  refine zV_istore_n dX0_takeJudge_7 rfl (Nat.le_of_ble_eq_true rfl) rfl ?_
  refine zV_iload_n dX0_takeJudge_8 rfl rfl ?_
  refine zV_bipush dX0_takeJudge_9 (by decide) ?_
  refine zR_icmp_lt (tgt := 20) dX0_takeJudge_11 (by decide) (by omega) (by omega) (fun h11 => ?_) (fun h11 => ?_)
  · refine zV_aload_nr dX0_takeJudge_20 rfl rfl ?_
    refine zV_callV (As := []) lk0_44 (rfl) rfl rfl (c0_advance (p := tB T n p) (d - 1) 0 (by omega) hk ht.2.1 tl.2.1) ⟨by show _ + 1 ≤ d; omega, by show _ ≤ k; omega⟩ rfl (Nat.le_of_ble_eq_true rfl) dX0_takeJudge_21 (fun _ _ z => z.elim) (fun r h1 q => ?_)
    obtain ⟨rfl, fr, ht1⟩ := q
    have f1 : dfr h u h1 := dfr_F fr
    have k1 := clk_D hk f1
    refine zV_aload_nr dX0_takeJudge_24 rfl rfl ?_
    refine zV_iconst dX0_takeJudge_25 ?_
    refine zV_bipush dX0_takeJudge_26 (by decide) ?_
    refine zV_callV (As := [ziv 0, ziv 30]) lk0_130 (rfl) rfl rfl (c0_takeNumber (p := tB T n p) (lo := 0) (hi := 30) (d - 1) 0 (by omega) k1 ht1 tl.2.1 (by decide) (by decide)) ⟨by show _ + 1 ≤ d; omega, by show _ ≤ k; omega⟩ rfl (Nat.le_of_ble_eq_true rfl) dX0_takeJudge_28 (fun _ _ z => z.elim) (fun r h2 q => ?_)
    obtain ⟨v1, rfl, hv1, hbad1, hok1⟩ := numQ_v tl.2.1 q
    refine zR_if_ne (tgt := 36) dX0_takeJudge_31 (by decide) (by omega) (fun h31 => ?_) (fun h31 => ?_)
    · obtain ⟨a1, q1, hN1, g2, f2, z2, hT2, ht2, hq1, hq1n⟩ := hok1 h31
      have f12 : dfr h u h2 := dfr_trans f1 (dfr_0 f2 g2)
      refine zV_aload_nr dX0_takeJudge_36 rfl rfl ?_
      refine gf0_18 (t := u) ((by rw [f12.2 2 (by decide)]; exact hk.2.2.2.1)) rfl (rfl) dX0_takeJudge_37 ?_
      refine gf0_143 rfl (court_0 hu) dX0_takeJudge_40 ?_
      refine zV_iload_n dX0_takeJudge_43 rfl rfl ?_
      refine zV_aload_nr dX0_takeJudge_44 rfl rfl ?_
      refine gf0_95 rfl rfl dX0_takeJudge_45 ?_
      rw [hT2]
      refine zV_iastoreN (i := D.2.1.length) (N := 8) (court_3 hk.2.2.2.2.1) (by omega) (by decide) dX0_takeJudge_48 ?_
      have f13 : dfr h u (zup h2 (u + 3) D.2.1.length a1) := dfr_trans f12 (dfr_up _ hu (by omega))
      have k3 := clk_D hk f13
      have ht3 : tokAt (zup h2 (u + 3) D.2.1.length a1) T n q1 := tok_up (by omega) ht2
      refine zV_aload_nr dX0_takeJudge_49 rfl rfl ?_
      refine zV_iconst dX0_takeJudge_50 ?_
      refine zV_bipush dX0_takeJudge_51 (by decide) ?_
      refine zV_callV (As := [ziv 0, ziv 12]) lk0_130 (rfl) rfl rfl (c0_takeNumber (p := q1) (lo := 0) (hi := 12) (d - 1) 0 (by omega) k3 ht3 hq1n (by decide) (by decide)) ⟨by show _ + 1 ≤ d; omega, by show _ ≤ k; omega⟩ rfl (Nat.le_of_ble_eq_true rfl) dX0_takeJudge_53 (fun _ _ z => z.elim) (fun r h4 q => ?_)
      obtain ⟨v2, rfl, hv2, hbad2, hok2⟩ := numQ_v hq1n q
      refine zR_if_ne (tgt := 61) dX0_takeJudge_56 (by decide) (by omega) (fun h56 => ?_) (fun h56 => ?_)
      · obtain ⟨a2, q2, hN2, g4, f4, z4, hT4, ht4, hq2, hq2n⟩ := hok2 h56
        have f14 : dfr h u h4 := dfr_trans f13 (dfr_0 f4 g4)
        refine zV_aload_nr dX0_takeJudge_61 rfl rfl ?_
        refine gf0_18 (t := u) ((by rw [f14.2 2 (by decide)]; exact hk.2.2.2.1)) rfl (rfl) dX0_takeJudge_62 ?_
        refine gf0_146 rfl (court_0 hu) dX0_takeJudge_65 ?_
        refine zV_iload_n dX0_takeJudge_68 rfl rfl ?_
        refine zV_aload_nr dX0_takeJudge_69 rfl rfl ?_
        refine gf0_95 rfl rfl dX0_takeJudge_70 ?_
        rw [hT4]
        refine zV_iastoreN (i := D.2.1.length) (N := 8) (court_4 hk.2.2.2.2.1) (by omega) (by decide) dX0_takeJudge_73 ?_
        have f15 : dfr h u (zup h4 (u + 4) D.2.1.length a2) := dfr_trans f14 (dfr_up _ hu (by omega))
        have k5 := clk_D hk f15
        have ht5 : tokAt (zup h4 (u + 4) D.2.1.length a2) T n q2 := tok_up (by omega) ht4
        refine zV_aload_nr dX0_takeJudge_74 rfl rfl ?_
        refine zV_iconst dX0_takeJudge_75 ?_
        refine zV_iconst dX0_takeJudge_76 ?_
        refine zV_callV (As := [ziv 0, ziv 4]) lk0_130 (rfl) rfl rfl (c0_takeNumber (p := q2) (lo := 0) (hi := 4) (d - 1) 0 (by omega) k5 ht5 hq2n (by decide) (by decide)) ⟨by show _ + 1 ≤ d; omega, by show _ ≤ k; omega⟩ rfl (Nat.le_of_ble_eq_true rfl) dX0_takeJudge_77 (fun _ _ z => z.elim) (fun r h6 q => ?_)
        obtain ⟨v3, rfl, hv3, hbad3, hok3⟩ := numQ_v hq2n q
        refine zR_if_ne (tgt := 85) dX0_takeJudge_80 (by decide) (by omega) (fun h80 => ?_) (fun h80 => ?_)
        · obtain ⟨a3, q3, hN3, g6, f6, z6, hT6, ht6, hq3, hq3n⟩ := hok3 h80
          have f16 : dfr h u h6 := dfr_trans f15 (dfr_0 f6 g6)
          refine zV_aload_nr dX0_takeJudge_85 rfl rfl ?_
          refine gf0_18 (t := u) ((by rw [f16.2 2 (by decide)]; exact hk.2.2.2.1)) rfl (rfl) dX0_takeJudge_86 ?_
          refine gf0_149 rfl (court_0 hu) dX0_takeJudge_89 ?_
          refine zV_iload_n dX0_takeJudge_92 rfl rfl ?_
          refine zV_aload_nr dX0_takeJudge_93 rfl rfl ?_
          refine gf0_95 rfl rfl dX0_takeJudge_94 ?_
          rw [hT6]
          refine zV_iastoreN (i := D.2.1.length) (N := 8) (court_5 hk.2.2.2.2.1) (by omega) (by decide) dX0_takeJudge_97 ?_
          refine zV_aload_nr dX0_takeJudge_98 rfl rfl ?_
          refine gf0_18 (t := u) ((by rw [zup_fn (by omega), f16.2 2 (by decide)]; exact hk.2.2.2.1)) rfl (rfl) dX0_takeJudge_99 ?_
          refine gf0_152 rfl (court_0 hu) dX0_takeJudge_102 ?_
          refine zV_iload_n dX0_takeJudge_105 rfl rfl ?_
          refine zV_iload_n dX0_takeJudge_106 rfl rfl ?_
          refine zV_zastoreN (i := D.2.1.length) (N := 8) (court_6 hk.2.2.2.2.1) (by omega) (by decide) hbr dX0_takeJudge_107 ?_
          refine zV_aload_nr dX0_takeJudge_108 rfl rfl ?_
          refine gf0_18 (t := u) ((by rw [zup_fn (by omega), zup_fn (by omega), f16.2 2 (by decide)]; exact hk.2.2.2.1)) rfl (rfl) dX0_takeJudge_109 ?_
          refine zV_iload_n dX0_takeJudge_112 rfl rfl ?_
          refine zV_iconst dX0_takeJudge_113 ?_
          refine zV_iadd dX0_takeJudge_114 ?_
          refine pf0_140 rfl (court_0 hu) dX0_takeJudge_115 ?_
          refine zV_iconst dX0_takeJudge_118 ?_
          exact zV_zreturn dX0_takeJudge_119 rfl (Or.inr rfl) (Nat.zero_le _) (by
            unfold judP; rw [if_neg (by omega), hN1]; show linQ h T n u (bn2 (numP T n 0 12 q1) _) _ _; rw [hN2]; show linQ h T n u (bn2 (numP T n 0 4 q2) _) _ _; rw [hN3]
            have f17 := dfr_trans f16 (dfr_trans (dfr_up h6 (k := u + 5) (i := D.2.1.length) (v := a3) hu (by omega)) (dfr_trans (dfr_up _ (k := u + 6) (i := D.2.1.length) (v := br) hu (by omega)) (dfr_up _ (k := u) (i := 3) (v := (D.2.1.length : Int) + 1) hu (by omega))))
            refine ⟨rfl, f17, ?_, c, clk_D hk f17, tok_up (by omega) (tok_up (by omega) (tok_up (by omega) ht6)), hq3n, drf_jud hu hD (fun c2 e => ?_), by omega, hL1, by simp; omega⟩
            · rw [zup_fn (by omega), zup_fn (by omega), zup_fn (by omega), z6, zup_fn (by omega), z4, zup_fn (by omega), z2]; exact fr.2 9 (by decide) (by decide) (by decide) (by decide)
            · exact zup_cg (zup_cg (zup_cg (by rw [g6 c2 e]; exact zup_cg (by rw [g4 c2 e]; exact zup_cg (by rw [g2 c2 e]; exact fr.1 c2 e))))))
        · obtain ⟨ke, hN3, hB⟩ := hbad3 h80
          refine zV_iconst dX0_takeJudge_83 ?_
          exact zV_zreturn dX0_takeJudge_84 rfl (Or.inl rfl) (Nat.zero_le _) (by unfold judP; rw [if_neg (by omega), hN1]; show linQ h T n u (bn2 (numP T n 0 12 q1) _) _ _; rw [hN2]; show linQ h T n u (bn2 (numP T n 0 4 q2) _) _ _; rw [hN3]; exact ⟨rfl, dfr_trans (f15) (by rw [hB]; exact dfr_14 _ _ _ _ (by decide)), by rw [hB, zup_at, if_pos rfl], by rw [hB, zup_at, if_neg (by decide)]; exact (ht5).1⟩)
      · obtain ⟨ke, hN2, hB⟩ := hbad2 h56
        refine zV_iconst dX0_takeJudge_59 ?_
        exact zV_zreturn dX0_takeJudge_60 rfl (Or.inl rfl) (Nat.zero_le _) (by unfold judP; rw [if_neg (by omega), hN1]; show linQ h T n u (bn2 (numP T n 0 12 q1) _) _ _; rw [hN2]; exact ⟨rfl, dfr_trans (f13) (by rw [hB]; exact dfr_14 _ _ _ _ (by decide)), by rw [hB, zup_at, if_pos rfl], by rw [hB, zup_at, if_neg (by decide)]; exact (ht3).1⟩)
    · obtain ⟨ke, hN1, hB⟩ := hbad1 h31
      refine zV_iconst dX0_takeJudge_34 ?_
      exact zV_zreturn dX0_takeJudge_35 rfl (Or.inl rfl) (Nat.zero_le _) (by unfold judP; rw [if_neg (by omega), hN1]; exact ⟨rfl, dfr_trans (f1) (by rw [hB]; exact dfr_14 _ _ _ _ (by decide)), by rw [hB, zup_at, if_pos rfl], by rw [hB, zup_at, if_neg (by decide)]; exact (ht1).1⟩)
  · refine zV_aload_nr dX0_takeJudge_14 rfl rfl ?_
    refine zV_iconst dX0_takeJudge_15 ?_
    refine zV_callV (As := [ziv 2]) lk0_92 (rfl) rfl rfl (c0_refuse (d - 1) 0) ⟨by show _ + 1 ≤ d; omega, by show _ ≤ k; omega⟩ rfl (Nat.le_of_ble_eq_true rfl) dX0_takeJudge_16 (fun _ _ z => z.elim) (fun r h9 q => ?_)
    obtain ⟨rfl, hh⟩ := q
    exact zV_zreturn dX0_takeJudge_19 rfl (Or.inl rfl) (Nat.zero_le _) (by unfold judP; rw [if_pos (by omega)]; exact ⟨rfl, by rw [hh]; exact dfr_14 _ _ _ _ (by decide), by rw [hh, zup_at, if_pos rfl], by rw [hh, zup_at, if_neg (by decide)]; exact ht.1⟩)
set_option maxRecDepth 100000 in
theorem c0_takePot {E : zE} {h : zH} {T : Nat → Int} {n u c : Nat} {D : zDf} {p : Nat} {d k : Nat} (hp : preD h T n u c D p) (hd : 9 ≤ d) : zCal E mX0_takePot d k [zrv E 14] h (linQ h T n u (potP T n D p)) (fun _ _ => False) := by
  refine zCal_of (by decide) (Nat.le_of_ble_eq_true rfl) (fun a => ?_)
  show zV _ 0 0 [zrv E 14] [] _
  have hk := hp.1
  have hn7 := hk.2.2.1
  have hu := hk.2.2.2.2.1
  have hu9 : u = 2 ∨ u = 16 := hu
  have ht := hp.2.1
  have hpn := hp.2.2.1
  have hD := hp.2.2.2.1
  have hcp := hp.2.2.2.2.1
  have hL1 := hp.2.2.2.2.2.1
  have hL2 := hp.2.2.2.2.2.2
  have tl := tB_lo (T := T) hpn
  have ta := tA_lo (T := T) hpn
  refine zV_aload_nr dX0_takePot_0 rfl rfl ?_
  refine gf0_18 (t := u) (hk.2.2.2.1) rfl (rfl) dX0_takePot_1 ?_
  refine gf0_156 rfl (court_0 hu) dX0_takePot_4 ?_
  rw [hD.2.2.2.1]
  refine zR_if_eq (tgt := 16) dX0_takePot_7 (by decide) (by split <;> omega) (fun h7 => ?_) (fun h7 => ?_)
  · have n7 := ifF h7
    refine zV_aload_nr dX0_takePot_16 rfl rfl ?_
    refine gf0_18 (t := u) (hk.2.2.2.1) rfl (rfl) dX0_takePot_17 ?_
    refine zV_iconst dX0_takePot_20 ?_
    refine pf0_156 rfl (court_0 hu) (Or.inr rfl) dX0_takePot_21 ?_
    have f0 : dfr h u (zup h u 9 1) := dfr_up _ hu (by omega)
    have k0 := clk_D hk f0
    refine zV_aload_nr dX0_takePot_24 rfl rfl ?_
    refine zV_callV (As := []) lk0_44 (rfl) rfl rfl (c0_advance (p := tB T n p) (d - 1) 0 (by omega) k0 (tok_up (by omega) ht).2.1 tl.2.1) ⟨by show _ + 1 ≤ d; omega, by show _ ≤ k; omega⟩ rfl (Nat.le_of_ble_eq_true rfl) dX0_takePot_25 (fun _ _ z => z.elim) (fun r h1 q => ?_)
    obtain ⟨rfl, fr, ht1⟩ := q
    have f1 : dfr h u h1 := dfr_trans f0 (dfr_F fr)
    have k1 := clk_D hk f1
    refine zV_aload_nr dX0_takePot_28 rfl rfl ?_
    refine zV_iconst dX0_takePot_29 ?_
    refine zV_bipush dX0_takePot_30 (by decide) ?_
    refine zV_callV (As := [ziv 0, ziv 99]) lk0_130 (rfl) rfl rfl (c0_takeNumber (p := tB T n p) (lo := 0) (hi := 99) (d - 1) 0 (by omega) k1 ht1 tl.2.1 (by decide) (by decide)) ⟨by show _ + 1 ≤ d; omega, by show _ ≤ k; omega⟩ rfl (Nat.le_of_ble_eq_true rfl) dX0_takePot_32 (fun _ _ z => z.elim) (fun r h2 q => ?_)
    obtain ⟨v1, rfl, hv1, hbad1, hok1⟩ := numQ_v tl.2.1 q
    refine zR_if_ne (tgt := 40) dX0_takePot_35 (by decide) (by omega) (fun h35 => ?_) (fun h35 => ?_)
    · obtain ⟨a1, q1, hN1, g2, f2, z2, hT2, ht2, hq1, hq1n⟩ := hok1 h35
      have f12 : dfr h u h2 := dfr_trans f1 (dfr_0 f2 g2)
      refine zV_aload_nr dX0_takePot_40 rfl rfl ?_
      refine gf0_18 (t := u) ((by rw [f12.2 2 (by decide)]; exact hk.2.2.2.1)) rfl (rfl) dX0_takePot_41 ?_
      refine zV_aload_nr dX0_takePot_44 rfl rfl ?_
      refine gf0_95 rfl rfl dX0_takePot_45 ?_
      rw [hT2]
      refine pf0_160 rfl (court_0 hu) dX0_takePot_48 ?_
      refine zV_iconst dX0_takePot_51 ?_
      exact zV_zreturn dX0_takePot_52 rfl (Or.inr rfl) (Nat.zero_le _) (by
        unfold potP; rw [if_neg n7, hN1]
        have f13 := dfr_trans f12 (dfr_up h2 (k := u) (i := 8) (v := a1) hu (by omega))
        refine ⟨rfl, f13, ?_, c, clk_D hk f13, tok_up (by omega) ht2, hq1n, drf_pot hu hD (fun c2 e => ?_), by omega, hL1, hL2⟩
        · rw [zup_fn (by omega), z2, fr.2 9 (by decide) (by decide) (by decide) (by decide), zup_fn (by omega)]
        · exact zup_cg (by rw [g2 c2 e]; exact fr.1 c2 e))
    · obtain ⟨ke, hN1, hB⟩ := hbad1 h35
      refine zV_iconst dX0_takePot_38 ?_
      exact zV_zreturn dX0_takePot_39 rfl (Or.inl rfl) (Nat.zero_le _) (by unfold potP; rw [if_neg n7, hN1]; exact ⟨rfl, dfr_trans (f1) (by rw [hB]; exact dfr_14 _ _ _ _ (by decide)), by rw [hB, zup_at, if_pos rfl], by rw [hB, zup_at, if_neg (by decide)]; exact (ht1).1⟩)
  · have y7 := ifT h7
    refine zV_aload_nr dX0_takePot_10 rfl rfl ?_
    refine zV_iconst dX0_takePot_11 ?_
    refine zV_callV (As := [ziv 5]) lk0_92 (rfl) rfl rfl (c0_refuse (d - 1) 0) ⟨by show _ + 1 ≤ d; omega, by show _ ≤ k; omega⟩ rfl (Nat.le_of_ble_eq_true rfl) dX0_takePot_12 (fun _ _ z => z.elim) (fun r h9 q => ?_)
    obtain ⟨rfl, hh⟩ := q
    exact zV_zreturn dX0_takePot_15 rfl (Or.inl rfl) (Nat.zero_le _) (by unfold potP; rw [if_pos y7]; exact ⟨rfl, by rw [hh]; exact dfr_14 _ _ _ _ (by decide), by rw [hh, zup_at, if_pos rfl], by rw [hh, zup_at, if_neg (by decide)]; exact ht.1⟩)
set_option maxRecDepth 100000 in
theorem c0_takeRule {E : zE} {h : zH} {T : Nat → Int} {n u c : Nat} {D : zDf} {p : Nat} {d k : Nat} (hp : preD h T n u c D p) {ru : Nat} (hru : ru < 2) (hd : 60 ≤ d) : zCal E mX0_takeRule d k [zrv E 14, ziv (ru : Int)] h (linQ h T n u (rulP T n D ru p)) (fun _ _ => False) := by
  refine zCal_of (by decide) (Nat.le_of_ble_eq_true rfl) (fun a => ?_)
  show zV _ 0 0 [zrv E 14, ziv (ru : Int), .null] [] _
  have hk := hp.1
  have hn7 := hk.2.2.1
  have hu := hk.2.2.2.2.1
  have hu9 : u = 2 ∨ u = 16 := hu
  have ht := hp.2.1
  have hpn := hp.2.2.1
  have hD := hp.2.2.2.1
  have hcp := hp.2.2.2.2.1
  have hL1 := hp.2.2.2.2.2.1
  have hL2 := hp.2.2.2.2.2.2
  have tl := tB_lo (T := T) hpn
  have ta := tA_lo (T := T) hpn
  have hr0 := hD.2.2.2.2.2 ru hru
  have hr1 : h (u + 10) ru = if (ruO D ru).isSome = true then 1 else 0 := by
    cases z : ruO D ru with
    | none => rw [z] at hr0; exact hr0.1
    | some x => rw [z] at hr0; exact hr0.1
  refine zV_aload_nr dX0_takeRule_0 rfl rfl ?_
  refine gf0_18 (t := u) (hk.2.2.2.1) rfl (rfl) dX0_takeRule_1 ?_
  refine gf0_162 rfl (court_0 hu) dX0_takeRule_4 ?_
  refine zV_iload_n dX0_takeRule_7 rfl rfl ?_
  refine zV_zaloadN (i := ru) (N := 2) (court_10 hk.2.2.2.2.1) hru (by decide) dX0_takeRule_8 ?_
  rw [hr1]
  refine zR_if_eq (tgt := 18) dX0_takeRule_9 (by decide) (by split <;> omega) (fun h9 => ?_) (fun h9 => ?_)
  · have n9 := ifF h9
    refine zV_aload_nr dX0_takeRule_18 rfl rfl ?_
    refine gf0_18 (t := u) (hk.2.2.2.1) rfl (rfl) dX0_takeRule_19 ?_
    refine gf0_162 rfl (court_0 hu) dX0_takeRule_22 ?_
    refine zV_iload_n dX0_takeRule_25 rfl rfl ?_
    refine zV_iconst dX0_takeRule_26 ?_
    refine zV_zastoreN (i := ru) (N := 2) (court_10 hk.2.2.2.2.1) hru (by decide) (Or.inr rfl) dX0_takeRule_27 ?_
    refine zV_aload_nr dX0_takeRule_28 rfl rfl ?_
    refine zV_iload_n dX0_takeRule_29 rfl rfl ?_
    refine pf0_165 rfl (rfl) dX0_takeRule_30 ?_
    have f0 : dfr h u (zup (zup h (u + 10) ru 1) 14 3 (ru : Int)) := dfr_trans (dfr_up _ hu (by omega)) (dfr_14 _ _ _ _ (by decide))
    have k0 := clk_D hk f0
    have t0 : tokAt (zup (zup h (u + 10) ru 1) 14 3 (ru : Int)) T n p := by
      have := tok_up (k := u + 10) (i := ru) (v := 1) (by omega) ht
      exact ⟨by rw [zup_at, if_neg (by decide)]; exact this.1, by rw [zup_at, if_neg (by decide)]; exact this.2.1, by rw [zup_at, if_neg (by decide)]; exact this.2.2.1, by rw [zup_at, if_neg (by decide)]; exact this.2.2.2⟩
    have e11 : ∀ h1 : zH, clkF (zup (zup h (u + 10) ru 1) 14 3 (ru : Int)) h1 → h1 u 11 = (c : Int) := fun h1 fr => by rw [fr.1 u (by omega), zup_fn (by omega), zup_fn (by omega)]; exact hD.2.2.2.2.1
    refine zV_aload_nr dX0_takeRule_33 rfl rfl ?_
    refine zV_callV (As := []) lk0_44 (rfl) rfl rfl (c0_advance (p := tB T n p) (d - 1) 0 (by omega) k0 t0.2.1 tl.2.1) ⟨by show _ + 1 ≤ d; omega, by show _ ≤ k; omega⟩ rfl (Nat.le_of_ble_eq_true rfl) dX0_takeRule_34 (fun _ _ z => z.elim) (fun r h1 q => ?_)
    obtain ⟨rfl, fr, ht1⟩ := q
    have f1 : dfr h u h1 := dfr_trans f0 (dfr_F fr)
    have k1 := clk_D hk f1
    refine zV_aload_nr dX0_takeRule_37 rfl rfl ?_
    refine gf0_18 (t := u) (k1.2.2.2.1) rfl (rfl) dX0_takeRule_38 ?_
    refine gf0_168 rfl (court_0 hu) dX0_takeRule_41 ?_
    refine zV_iload_n dX0_takeRule_44 rfl rfl ?_
    refine zV_aload_nr dX0_takeRule_45 rfl rfl ?_
    refine gf0_18 (t := u) (k1.2.2.2.1) rfl (rfl) dX0_takeRule_46 ?_
    refine gf0_171 rfl (court_0 hu) dX0_takeRule_49 ?_
    rw [e11 h1 fr]
    refine zV_iastoreN (i := ru) (N := 2) (court_8 hk.2.2.2.2.1) hru (by decide) dX0_takeRule_52 ?_
    have hp4 : pre (zup h1 (u + 8) ru (c : Int)) T n u ru c (tB T n p) := ⟨clk_D k1 (dfr_up _ hu (by omega)), tok_up (by omega) ht1, tl.2.1, by rw [zup_fn (by omega)]; exact e11 h1 fr, by omega, by rw [zup_fn (by omega), fr.2 3 (by decide) (by decide) (by decide) (by decide), zup_at, if_pos rfl], hru⟩
    have f4 : dfr h u (zup h1 (u + 8) ru (c : Int)) := dfr_trans f1 (dfr_up _ hu (by omega))
    have e4 : ∀ c2 : Nat, c2 ≠ 14 → zup h1 (u + 8) ru (c : Int) c2 = zup (zup h (u + 10) ru 1) (u + 8) ru (c : Int) c2 := fun c2 e => zup_cg (by rw [fr.1 c2 e, zup_fn e])
    refine zV_aload_nr dX0_takeRule_53 rfl rfl ?_
    refine zV_iconst dX0_takeRule_54 ?_
    refine zV_callV (As := [ziv ((0 : Nat) : Int)]) lk0_174 (rfl) rfl rfl (c0_takeExpr 6 (d - 1) 0 _ c (tB T n p) 0 rfl (by omega) hp4) ⟨by show _ + 1 ≤ d; omega, by show _ ≤ k; omega⟩ rfl (Nat.le_of_ble_eq_true rfl) dX0_takeRule_55 (fun _ _ z => z.elim) (fun r h5 q => ?_)
    obtain ⟨v9, rfl, hv9, hbad, hok⟩ := parQ_v q
    have e52 : h5 14 2 = (u : Int) := by
      rcases hv9 with z | z
      · obtain ⟨ke, q0, -, hB⟩ := hbad z
        rw [hB.2.1 2 (by omega)]; exact hp4.1.2.2.2.1
      · obtain ⟨l, b, q0, -, hE⟩ := hok (by omega)
        rw [hE.2.1 2 (by decide) (by decide) (by decide) (by decide)]; exact hp4.1.2.2.2.1
    refine zV_istore_n dX0_takeRule_58 rfl (Nat.le_of_ble_eq_true rfl) rfl ?_
    refine zV_aload_nr dX0_takeRule_59 rfl rfl ?_
    refine gf0_18 (t := u) (e52) rfl (rfl) dX0_takeRule_60 ?_
    refine gf0_177 rfl (court_0 hu) dX0_takeRule_63 ?_
    refine zV_iload_n dX0_takeRule_66 rfl rfl ?_
    refine zV_aload_nr dX0_takeRule_67 rfl rfl ?_
    refine gf0_18 (t := u) (e52) rfl (rfl) dX0_takeRule_68 ?_
    refine gf0_171 rfl (court_0 hu) dX0_takeRule_71 ?_
    refine zV_iastoreN (i := ru) (N := 2) (court_9 hk.2.2.2.2.1) hru (by decide) dX0_takeRule_74 ?_
    refine zV_iload_n dX0_takeRule_75 rfl rfl ?_
    exact zV_zreturn dX0_takeRule_76 rfl hv9 (Nat.zero_le _) (by
      unfold rulP
      rw [if_neg n9]
      rcases hv9 with z | z
      · obtain ⟨ke, q0, hR, hB⟩ := hbad z
        rw [hR, z]
        exact ⟨rfl, dfr_trans (dfr_trans f4 (dfr_b hu hB)) (dfr_up _ hu (by omega)), by rw [zup_fn (by omega)]; exact hB.2.2.1, by rw [zup_fn (by omega)]; exact hB.2.2.2⟩
      · obtain ⟨l, b, q0, hR, hE⟩ := hok (by omega)
        have g0 := good_expr (T := T) (n := n) (dr := decide (ru = 0)) 6 (tB T n p) tl.2.1
        rw [hR] at g0
        have g01 : tB T n p + l.length ≤ q0 := g0.1
        rw [hR, z]
        have f7 := dfr_trans (dfr_trans f4 (dfr_e hu hE)) (dfr_up h5 (k := u + 9) (i := ru) (v := h5 u 11) hu (by omega))
        refine ⟨rfl, f7, ?_, c + l.length, clk_D hk f7, tok_up (by omega) hE.2.2.2.2.2.2.2.2, g0.2.2, drf_rule hu hru (by simpa using n9) hD e4 hE rfl, by omega, ?_, ?_⟩
        · rw [zup_fn (by omega), hE.2.1 9 (by decide) (by decide) (by decide) (by decide), zup_fn (by omega), fr.2 9 (by decide) (by decide) (by decide) (by decide), zup_at, if_neg (by decide), zup_fn (by omega)]
        · rw [(setR_1 D ru (l, b)).1]; exact hL1
        · rw [(setR_1 D ru (l, b)).2.1]; exact hL2)
  · have y9 := ifT h9
    refine zV_aload_nr dX0_takeRule_12 rfl rfl ?_
    refine zV_iconst dX0_takeRule_13 ?_
    refine zV_callV (As := [ziv 5]) lk0_92 (rfl) rfl rfl (c0_refuse (d - 1) 0) ⟨by show _ + 1 ≤ d; omega, by show _ ≤ k; omega⟩ rfl (Nat.le_of_ble_eq_true rfl) dX0_takeRule_14 (fun _ _ z => z.elim) (fun r h9 q => ?_)
    obtain ⟨rfl, hh⟩ := q
    exact zV_zreturn dX0_takeRule_17 rfl (Or.inl rfl) (Nat.zero_le _) (by unfold rulP; rw [if_pos y9]; exact ⟨rfl, by rw [hh]; exact dfr_14 _ _ _ _ (by decide), by rw [hh, zup_at, if_pos rfl], by rw [hh, zup_at, if_neg (by decide)]; exact ht.1⟩)
set_option maxRecDepth 100000 in
theorem c0_takeLine {E : zE} {h : zH} {T : Nat → Int} {n u c : Nat} {D : zDf} {p : Nat} {d k : Nat} (hp : preD h T n u c D p) (hd : 61 ≤ d) : zCal E mX0_takeLine d k [zrv E 14] h (linQ h T n u (lineP T n D p)) (fun _ _ => False) := by
  refine zCal_of (by decide) (Nat.le_of_ble_eq_true rfl) (fun a => ?_)
  show zV _ 0 0 [zrv E 14] [] _
  have hk := hp.1
  have hn7 := hk.2.2.1
  have hu := hk.2.2.2.2.1
  have hu9 : u = 2 ∨ u = 16 := hu
  have ht := hp.2.1
  have hpn := hp.2.2.1
  have hD := hp.2.2.2.1
  have hcp := hp.2.2.2.2.1
  have hL1 := hp.2.2.2.2.2.1
  have hL2 := hp.2.2.2.2.2.2
  have tl := tB_lo (T := T) hpn
  have ta := tA_lo (T := T) hpn
  refine zV_aload_nr dX0_takeLine_0 rfl rfl ?_
  refine zV_lds (i := 12) rfl rfl dX0_takeLine_1 ?_
  refine zV_callV (As := [.ref (eK E 12)]) lk0_100 (rfl) rfl rfl (c0_isWord (p := p) (b := wLeaf) (d - 1) 0 (by omega) hp.1 hp.2.1 hpn rfl) ⟨by show _ + 1 ≤ d; omega, by show _ ≤ k; omega⟩ rfl (Nat.le_of_ble_eq_true rfl) dX0_takeLine_3 (fun _ _ z => z.elim) (fun r h9 q => ?_)
  obtain ⟨rfl, hh⟩ := q
  rw [hh]
  refine zR_if_eq (tgt := 14) dX0_takeLine_6 (by decide) (by split <;> omega) (fun h6 => ?_) (fun h6 => ?_)
  · have n6 := ifF h6
    refine zV_aload_nr dX0_takeLine_14 rfl rfl ?_
    refine zV_lds (i := 13) rfl rfl dX0_takeLine_15 ?_
    refine zV_callV (As := [.ref (eK E 13)]) lk0_100 (rfl) rfl rfl (c0_isWord (p := p) (b := wJudge) (d - 1) 0 (by omega) hp.1 hp.2.1 hpn rfl) ⟨by show _ + 1 ≤ d; omega, by show _ ≤ k; omega⟩ rfl (Nat.le_of_ble_eq_true rfl) dX0_takeLine_17 (fun _ _ z => z.elim) (fun r h9 q => ?_)
    obtain ⟨rfl, hh⟩ := q
    rw [hh]
    refine zR_if_ne (tgt := 32) dX0_takeLine_20 (by decide) (by split <;> omega) (fun h20 => ?_) (fun h20 => ?_)
    · have y20 := ifT h20
      refine zV_aload_nr dX0_takeLine_32 rfl rfl ?_
      refine zV_aload_nr dX0_takeLine_33 rfl rfl ?_
      refine zV_lds (i := 14) rfl rfl dX0_takeLine_34 ?_
      refine zV_callV (As := [.ref (eK E 14)]) lk0_100 (rfl) rfl rfl (c0_isWord (p := p) (b := wBarr) (d - 1) 0 (by omega) hp.1 hp.2.1 hpn rfl) ⟨by show _ + 1 ≤ d; omega, by show _ ≤ k; omega⟩ rfl (Nat.le_of_ble_eq_true rfl) dX0_takeLine_36 (fun _ _ z => z.elim) (fun r h9 q => ?_)
      obtain ⟨rfl, hh⟩ := q
      rw [hh]
      refine zV_callV (As := [ziv (if isW T n p wBarr = true then 1 else 0)]) lk0_111 (rfl) rfl rfl (c0_takeJudge (d := d - 1) (k := 0) hp (br := if isW T n p wBarr = true then 1 else 0) (by
        by_cases z : isW T n p wBarr = true
        · exact Or.inr (if_pos z)
        · exact Or.inl (if_neg z)) (by omega)) ⟨by show _ + 1 ≤ d; omega, by show _ ≤ k; omega⟩ rfl (Nat.le_of_ble_eq_true rfl) dX0_takeLine_39 (fun _ _ z => z.elim) (fun r h9 q => ?_)
      obtain ⟨v9, rfl, hv9, -, -⟩ := linQ_v q
      exact zV_zreturn dX0_takeLine_42 rfl hv9 (Nat.zero_le _) (by
          unfold lineP
          rw [if_neg n6, if_pos y20]
          have e9 : isW T n p wBarr = false := by
            by_cases z : isW T n p wBarr = true
            · exact absurd ((isW_k z).2.symm.trans (isW_k y20).2) (by decide)
            · simpa using z
          rw [e9] at q; exact q)
    · have n20 := ifF h20
      refine zV_aload_nr dX0_takeLine_23 rfl rfl ?_
      refine zV_lds (i := 14) rfl rfl dX0_takeLine_24 ?_
      refine zV_callV (As := [.ref (eK E 14)]) lk0_100 (rfl) rfl rfl (c0_isWord (p := p) (b := wBarr) (d - 1) 0 (by omega) hp.1 hp.2.1 hpn rfl) ⟨by show _ + 1 ≤ d; omega, by show _ ≤ k; omega⟩ rfl (Nat.le_of_ble_eq_true rfl) dX0_takeLine_26 (fun _ _ z => z.elim) (fun r h9 q => ?_)
      obtain ⟨rfl, hh⟩ := q
      rw [hh]
      refine zR_if_eq (tgt := 43) dX0_takeLine_29 (by decide) (by split <;> omega) (fun h29 => ?_) (fun h29 => ?_)
      · have n29 := ifF h29
        refine zV_aload_nr dX0_takeLine_43 rfl rfl ?_
        refine zV_lds (i := 15) rfl rfl dX0_takeLine_44 ?_
        refine zV_callV (As := [.ref (eK E 15)]) lk0_100 (rfl) rfl rfl (c0_isWord (p := p) (b := wPot) (d - 1) 0 (by omega) hp.1 hp.2.1 hpn rfl) ⟨by show _ + 1 ≤ d; omega, by show _ ≤ k; omega⟩ rfl (Nat.le_of_ble_eq_true rfl) dX0_takeLine_46 (fun _ _ z => z.elim) (fun r h9 q => ?_)
        obtain ⟨rfl, hh⟩ := q
        rw [hh]
        refine zR_if_eq (tgt := 57) dX0_takeLine_49 (by decide) (by split <;> omega) (fun h49 => ?_) (fun h49 => ?_)
        · have n49 := ifF h49
          refine zV_aload_nr dX0_takeLine_57 rfl rfl ?_
          refine zV_lds (i := 16) rfl rfl dX0_takeLine_58 ?_
          refine zV_callV (As := [.ref (eK E 16)]) lk0_100 (rfl) rfl rfl (c0_isWord (p := p) (b := wDrinks) (d - 1) 0 (by omega) hp.1 hp.2.1 hpn rfl) ⟨by show _ + 1 ≤ d; omega, by show _ ≤ k; omega⟩ rfl (Nat.le_of_ble_eq_true rfl) dX0_takeLine_60 (fun _ _ z => z.elim) (fun r h9 q => ?_)
          obtain ⟨rfl, hh⟩ := q
          rw [hh]
          refine zR_if_eq (tgt := 72) dX0_takeLine_63 (by decide) (by split <;> omega) (fun h63 => ?_) (fun h63 => ?_)
          · have n63 := ifF h63
            refine zV_aload_nr dX0_takeLine_72 rfl rfl ?_
            refine zV_lds (i := 17) rfl rfl dX0_takeLine_73 ?_
            refine zV_callV (As := [.ref (eK E 17)]) lk0_100 (rfl) rfl rfl (c0_isWord (p := p) (b := wReads) (d - 1) 0 (by omega) hp.1 hp.2.1 hpn rfl) ⟨by show _ + 1 ≤ d; omega, by show _ ≤ k; omega⟩ rfl (Nat.le_of_ble_eq_true rfl) dX0_takeLine_75 (fun _ _ z => z.elim) (fun r h9 q => ?_)
            obtain ⟨rfl, hh⟩ := q
            rw [hh]
            refine zR_if_eq (tgt := 87) dX0_takeLine_78 (by decide) (by split <;> omega) (fun h78 => ?_) (fun h78 => ?_)
            · have n78 := ifF h78
              refine zV_aload_nr dX0_takeLine_87 rfl rfl ?_
              refine zV_iconst dX0_takeLine_88 ?_
              refine zV_callV (As := [ziv 1]) lk0_92 (rfl) rfl rfl (c0_refuse (d - 1) 0) ⟨by show _ + 1 ≤ d; omega, by show _ ≤ k; omega⟩ rfl (Nat.le_of_ble_eq_true rfl) dX0_takeLine_89 (fun _ _ z => z.elim) (fun r h9 q => ?_)
              obtain ⟨rfl, hh⟩ := q
              exact zV_zreturn dX0_takeLine_92 rfl (Or.inl rfl) (Nat.zero_le _) (by unfold lineP; rw [if_neg n6, if_neg n20, if_neg n29, if_neg n49, if_neg n63, if_neg n78]; exact ⟨rfl, by rw [hh]; exact dfr_14 _ _ _ _ (by decide), by rw [hh, zup_at, if_pos rfl], by rw [hh, zup_at, if_neg (by decide)]; exact ht.1⟩)
            · have y78 := ifT h78
              refine zV_aload_nr dX0_takeLine_81 rfl rfl ?_
              refine zV_iconst dX0_takeLine_82 ?_
              refine zV_callV (As := [ziv ((1 : Nat) : Int)]) lk0_122 (rfl) rfl rfl (c0_takeRule (d := d - 1) (k := 0) hp (ru := 1) (by decide) (by omega)) ⟨by show _ + 1 ≤ d; omega, by show _ ≤ k; omega⟩ rfl (Nat.le_of_ble_eq_true rfl) dX0_takeLine_83 (fun _ _ z => z.elim) (fun r h9 q => ?_)
              obtain ⟨v9, rfl, hv9, -, -⟩ := linQ_v q
              exact zV_zreturn dX0_takeLine_86 rfl hv9 (Nat.zero_le _) (by unfold lineP; rw [if_neg n6, if_neg n20, if_neg n29, if_neg n49, if_neg n63, if_pos y78]; exact q)
          · have y63 := ifT h63
            refine zV_aload_nr dX0_takeLine_66 rfl rfl ?_
            refine zV_iconst dX0_takeLine_67 ?_
            refine zV_callV (As := [ziv ((0 : Nat) : Int)]) lk0_122 (rfl) rfl rfl (c0_takeRule (d := d - 1) (k := 0) hp (ru := 0) (by decide) (by omega)) ⟨by show _ + 1 ≤ d; omega, by show _ ≤ k; omega⟩ rfl (Nat.le_of_ble_eq_true rfl) dX0_takeLine_68 (fun _ _ z => z.elim) (fun r h9 q => ?_)
            obtain ⟨v9, rfl, hv9, -, -⟩ := linQ_v q
            exact zV_zreturn dX0_takeLine_71 rfl hv9 (Nat.zero_le _) (by unfold lineP; rw [if_neg n6, if_neg n20, if_neg n29, if_neg n49, if_pos y63]; exact q)
        · have y49 := ifT h49
          refine zV_aload_nr dX0_takeLine_52 rfl rfl ?_
          refine zV_callV (As := []) lk0_117 (rfl) rfl rfl (c0_takePot (d := d - 1) (k := 0) hp (by omega)) ⟨by show _ + 1 ≤ d; omega, by show _ ≤ k; omega⟩ rfl (Nat.le_of_ble_eq_true rfl) dX0_takeLine_53 (fun _ _ z => z.elim) (fun r h9 q => ?_)
          obtain ⟨v9, rfl, hv9, -, -⟩ := linQ_v q
          exact zV_zreturn dX0_takeLine_56 rfl hv9 (Nat.zero_le _) (by unfold lineP; rw [if_neg n6, if_neg n20, if_neg n29, if_pos y49]; exact q)
      · have y29 := ifT h29
        refine zV_aload_nr dX0_takeLine_32 rfl rfl ?_
        refine zV_aload_nr dX0_takeLine_33 rfl rfl ?_
        refine zV_lds (i := 14) rfl rfl dX0_takeLine_34 ?_
        refine zV_callV (As := [.ref (eK E 14)]) lk0_100 (rfl) rfl rfl (c0_isWord (p := p) (b := wBarr) (d - 1) 0 (by omega) hp.1 hp.2.1 hpn rfl) ⟨by show _ + 1 ≤ d; omega, by show _ ≤ k; omega⟩ rfl (Nat.le_of_ble_eq_true rfl) dX0_takeLine_36 (fun _ _ z => z.elim) (fun r h9 q => ?_)
        obtain ⟨rfl, hh⟩ := q
        rw [hh]
        refine zV_callV (As := [ziv (if isW T n p wBarr = true then 1 else 0)]) lk0_111 (rfl) rfl rfl (c0_takeJudge (d := d - 1) (k := 0) hp (br := if isW T n p wBarr = true then 1 else 0) (by
          by_cases z : isW T n p wBarr = true
          · exact Or.inr (if_pos z)
          · exact Or.inl (if_neg z)) (by omega)) ⟨by show _ + 1 ≤ d; omega, by show _ ≤ k; omega⟩ rfl (Nat.le_of_ble_eq_true rfl) dX0_takeLine_39 (fun _ _ z => z.elim) (fun r h9 q => ?_)
        obtain ⟨v9, rfl, hv9, -, -⟩ := linQ_v q
        exact zV_zreturn dX0_takeLine_42 rfl hv9 (Nat.zero_le _) (by unfold lineP; rw [if_neg n6, if_neg n20, if_pos y29]; rw [y29] at q; exact q)
  · have y6 := ifT h6
    refine zV_aload_nr dX0_takeLine_9 rfl rfl ?_
    refine zV_callV (As := []) lk0_104 (rfl) rfl rfl (c0_takeLeaf (d := d - 1) (k := 0) hp (by omega)) ⟨by show _ + 1 ≤ d; omega, by show _ ≤ k; omega⟩ rfl (Nat.le_of_ble_eq_true rfl) dX0_takeLine_10 (fun _ _ z => z.elim) (fun r h9 q => ?_)
    obtain ⟨v9, rfl, hv9, -, -⟩ := linQ_v q
    exact zV_zreturn dX0_takeLine_13 rfl hv9 (Nat.zero_le _) (by unfold lineP; rw [if_pos y6]; exact q)
