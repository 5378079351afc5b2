/-! THE BASE. The world behind the constructors is a fixed row of cells (zsh); a state of it is one function
h : cell -> place -> Int; zV is the machine at a pc over such a state; zCal a method's contract over it. -/
abbrev zH : Type := Nat → Nat → Int
abbrev zE : Type := (Nat → ClassId) × (Nat → Nat → Nat) × (Nat → ClassId) × (Nat → Nat) × (Nat → Nat) × (Nat → Nat) × Nat × Launch
abbrev eD (E : zE) : va_G := (E.1, E.2.1)
abbrev eC (E : zE) : Nat → ClassId := E.2.2.1
abbrev ead (E : zE) : Nat → Nat := E.2.2.2.1
abbrev eK (E : zE) : Nat → Nat := E.2.2.2.2.1
abbrev eV (E : zE) : Nat → Nat := E.2.2.2.2.2.1
abbrev eb (E : zE) : Nat := E.2.2.2.2.2.2.1
abbrev el (E : zE) : Launch := E.2.2.2.2.2.2.2
/-- one place written -/
def zup (h : zH) (c i : Nat) (v : Int) : zH := fun c' i' => if c' = c ∧ i' = i then v else h c' i'
theorem zup_same {h : zH} {c i : Nat} {v : Int} : zup h c i v c i = v := by simp [zup]
theorem zup_ne {h : zH} {c i c' i' : Nat} {v : Int} (hn : ¬ (c' = c ∧ i' = i)) : zup h c i v c' i' = h c' i' := by simp [zup, hn]
theorem zup_nec {h : zH} {c i c' i' : Nat} {v : Int} (hn : c' ≠ c) : zup h c i v c' i' = h c' i' := by simp [zup, hn]
/-- an int, a long, a cell as values -/
def ziv (a : Int) : Value := .int (Int32.ofInt a)
def zlv (a : Int) : Value := .long (Int64.ofInt a)
def zrv (E : zE) (k : Nat) : Value := .ref (ead E k)
/-- what a number is as an int of the machine -/
def zn (a : Int) : Int := (Int32.ofInt a).toInt
theorem zn_of {a : Int} (h1 : -2147483648 ≤ a) (h2 : a ≤ 2147483647) : zn a = a := by
  unfold zn
  rw [Int32.toInt_ofInt]
  exact Int.bmod_eq_of_le (by simp only [Int32.size]; omega) (by simp only [Int32.size]; omega)
theorem zn_lo (a : Int) : -2147483648 ≤ zn a := Int32.le_toInt _
theorem zn_hi (a : Int) : zn a ≤ 2147483647 := by have := Int32.toInt_lt (Int32.ofInt a); unfold zn; omega
theorem zn_zn (a : Int) : zn (zn a) = zn a := zn_of (zn_lo a) (zn_hi a)
theorem ziv_zn (a : Int) : ziv (zn a) = ziv a := by unfold ziv zn; rw [Int32.ofInt_toInt]
theorem ziv_toInt (x : Int32) : ziv x.toInt = .int x := by unfold ziv; rw [Int32.ofInt_toInt]
/-! the row of cells: .inl class, or .inr (kind of array: 0 int, 1 boolean, 2 long, 3 String; length) -/
def zsh : List (Nat ⊕ (Nat × Nat)) := [.inl 5, .inr (0, 700), .inl 1, .inr (0, 8), .inr (0, 8), .inr (0, 8), .inr (0, 8), .inr (0, 8), .inr (1, 8), .inr (0, 700), .inr (0, 2), .inr (0, 2), .inr (1, 2), .inr (1, 2), .inl 0, .inr (0, 0), .inl 1, .inr (0, 8), .inr (0, 8), .inr (0, 8), .inr (0, 8), .inr (0, 8), .inr (1, 8), .inr (0, 700), .inr (0, 2), .inr (0, 2), .inr (1, 2), .inr (1, 2), .inl 4, .inr (0, 64), .inr (0, 12), .inl 3, .inl 2, .inr (0, 8), .inr (0, 8), .inr (0, 8), .inr (0, 8), .inr (0, 8), .inr (0, 1080), .inr (0, 8), .inr (0, 8), .inr (0, 3), .inl 3, .inl 2, .inr (0, 8), .inr (0, 8), .inr (0, 8), .inr (0, 8), .inr (0, 8), .inr (0, 1080), .inr (0, 8), .inr (0, 8), .inr (0, 3), .inl 2, .inr (0, 8), .inr (0, 8), .inr (0, 8), .inr (0, 8), .inr (0, 8), .inr (0, 8), .inr (0, 8), .inr (0, 20), .inr (0, 20), .inr (0, 4), .inl 6, .inr (3, 2), .inr (3, 7), .inr (3, 5), .inr (0, 10), .inr (0, 16), .inr (0, 16), .inr (0, 16), .inr (0, 16), .inr (0, 16), .inr (0, 16), .inr (0, 1400), .inr (0, 1400), .inr (0, 3), .inr (0, 8), .inr (0, 700), .inr (0, 8), .inr (0, 8), .inr (0, 8), .inr (0, 1080), .inr (0, 7), .inr (0, 64), .inr (0, 8), .inr (0, 27), .inr (0, 5), .inr (0, 8), .inr (0, 8), .inr (0, 8), .inr (0, 8), .inr (0, 8), .inr (0, 27), .inr (0, 104), .inr (0, 2080), .inr (0, 4), .inr (0, 27), .inr (0, 1080), .inr (0, 8), .inr (0, 8), .inr (0, 3), .inr (2, 1)]
/-- of a class its fields: 0 int, 1 boolean, 2 a cell at a fixed way from here, 3 a cell that h names -/
def zfd : List (List (Nat × Nat)) := [[(3, 0), (0, 0), (3, 0), (0, 0), (0, 0), (0, 0), (0, 0), (0, 0), (0, 0), (0, 0)],
  [(0, 0), (2, 1), (2, 2), (0, 0), (2, 3), (2, 4), (2, 5), (2, 6), (0, 0), (1, 0), (2, 7), (0, 0), (2, 8), (2, 9), (2, 10), (2, 11)],
  [(2, 1), (2, 2), (2, 3), (2, 4), (2, 5), (0, 0), (0, 0), (0, 0), (0, 0)],
  [(2, 1), (2, 7), (0, 0), (0, 0), (2, 8), (2, 9), (0, 0), (2, 10)],
  [(2, 1), (2, 2), (0, 0), (0, 0), (0, 0)],
  [(2, 1), (0, 0), (0, 0), (3, 0), (2, 14), (2, 28), (2, 31), (2, 42), (1, 0), (2, 53), (2, 59), (2, 60), (2, 61), (2, 62), (2, 63), (0, 0)],
  [(2, 1), (2, 2), (2, 3), (3, 0), (0, 0), (2, 4), (2, 5), (2, 6), (2, 7), (2, 8), (2, 9), (2, 10), (2, 11), (2, 12), (2, 13), (2, 14), (2, 15), (0, 0), (0, 0), (0, 0), (0, 0), (0, 0), (0, 0), (0, 0), (0, 0), (0, 0), (0, 0), (1, 0), (2, 16), (2, 17), (2, 18), (2, 19), (0, 0), (0, 0), (0, 0), (0, 0), (0, 0), (0, 0), (2, 20), (2, 21), (2, 22), (2, 23), (2, 24), (0, 0), (0, 0), (2, 25), (2, 26), (2, 27), (0, 0), (1, 0), (2, 28), (2, 29), (2, 30), (2, 31), (2, 32), (0, 0), (2, 33), (0, 0), (1, 0), (0, 0), (0, 0), (2, 34), (2, 35), (2, 36), (2, 37), (2, 38)]]
def zft (ci j : Nat) : Nat × Nat := (zfd.getD ci []).getD j (9, 0)
def znf (ci : Nat) : Nat := (zfd.getD ci []).length
/-- what a field holds -/
def zfv (E : zE) (h : zH) (k ci j : Nat) : Value := if (zft ci j).1 = 2 then zrv E (k + (zft ci j).2) else if (zft ci j).1 = 3 then zrv E (h k j).toNat else ziv (h k j)
/-- what a cell holds -/
def zce (E : zE) (h : zH) (k : Nat) : Nat ⊕ (Nat × Nat) → va_E
  | .inl ci => .inr (ci, (List.range (znf ci)).map (zfv E h k ci))
  | .inr (0, n) => .inl (eC E 0, n, .inl (fun j => Int32.ofInt (h k j)))
  | .inr (1, n) => .inl (eC E 1, n, .inl (fun j => Int32.ofInt (h k j)))
  | .inr (2, n) => .inl (eC E 2, n, .inr (.inl (fun j => Int64.ofInt (h k j))))
  | .inr (_, n) => .inl (eC E 3, n, .inr (.inr (.inr (.inr (fun j => some (eK E (h k j).toNat))))))
def zws (E : zE) (h : zH) : va_W := zsh.mapIdx (fun k kd => (ead E k, zce E h k kd))
theorem zws_at {E : zE} {h : zH} {k : Nat} {kd : Nat ⊕ (Nat × Nat)} (hk : zsh[k]? = some kd) : (zws E h)[k]? = some (ead E k, zce E h k kd) := by
  unfold zws; rw [List.getElem?_mapIdx, hk]; rfl
theorem zws_none {E : zE} {h : zH} {k : Nat} (hk : zsh[k]? = none) : (zws E h)[k]? = none := by
  unfold zws; rw [List.getElem?_mapIdx, hk]; rfl
theorem zce_congr {E : zE} {h h' : zH} {k : Nat} (e : ∀ j, h' k j = h k j) (kd : Nat ⊕ (Nat × Nat)) : zce E h' k kd = zce E h k kd := by
  have e' : h' k = h k := funext e
  rcases kd with ci | ⟨t, n⟩
  · have e2 : zfv E h' k ci = zfv E h k ci := funext fun j => by simp only [zfv, e']
    simp only [zce, e2]
  · match t with
    | 0 => simp only [zce, e']
    | 1 => simp only [zce, e']
    | 2 => simp only [zce, e']
    | t + 3 => simp only [zce, e']
/-- a place of the cell k written: the row of cells with that cell put -/
theorem zws_set {E : zE} {h : zH} {k i : Nat} {v : Int} {kd : Nat ⊕ (Nat × Nat)} (hk : zsh[k]? = some kd) {q : va_E} (hq : q = zce E (zup h k i v) k kd) : (zws E h).set k (ead E k, q) = zws E (zup h k i v) := by
  apply List.ext_getElem?
  intro j
  rw [List.getElem?_set]
  by_cases hj : k = j
  · subst hj
    have hlt : k < (zws E h).length := by
      have := zws_at (E := E) (h := h) hk
      exact (List.getElem?_eq_some_iff.mp this).1
    rw [if_pos rfl, if_pos hlt, zws_at hk, hq]
  · rw [if_neg hj]
    cases hz : zsh[j]? with
    | none => rw [zws_none hz, zws_none hz]
    | some kd' =>
      rw [zws_at hz, zws_at hz, zce_congr (h := h) (h' := zup h k i v) (fun i' => zup_nec (Ne.symm hj))]
