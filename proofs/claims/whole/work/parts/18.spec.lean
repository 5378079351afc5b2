/-! WORDS for states: cells put, cells that agree, folds; what a survey finds -/
def zst (h : zH) (k : Nat) (f : Nat → Int) : zH := fun c => if c = k then f else h c
theorem zst_same {h : zH} {k : Nat} {f : Nat → Int} : zst h k f k = f := by simp [zst]
theorem zst_ne {h : zH} {k c : Nat} {f : Nat → Int} (hn : c ≠ k) : zst h k f c = h c := by simp [zst, hn]
theorem zup_fn {h : zH} {c i c' : Nat} {v : Int} (hn : c' ≠ c) : zup h c i v c' = h c' := by funext i'; exact zup_nec hn
theorem zup_at {h : zH} {c i i' : Nat} {v : Int} : zup h c i v c i' = if i' = i then v else h c i' := by simp [zup]
theorem zcp_fn {h : zH} {k0 sp k1 dp n c : Nat} (hn : c ≠ k1) : zcp h k0 sp k1 dp n c = h c := by funext i; unfold zcp; rw [if_neg (fun z => hn z.1)]
def nfold {α : Type} (f : Nat → α → α) : Nat → α → α
  | 0, a => a
  | n + 1, a => f n (nfold f n a)
theorem nfold_0 {α : Type} (f : Nat → α → α) (a : α) : nfold f 0 a = a := rfl
theorem nfold_s {α : Type} (f : Nat → α → α) (n : Nat) (a : α) : nfold f (n + 1) a = f n (nfold f n a) := rfl
/-- how many of the first n hold q -/
def cntS (p : Nat → Int) (q : Int) : Nat → Int
  | 0 => 0
  | n + 1 => if p n = q then cntS p q n + 1 else cntS p q n
theorem cntS_lo (p : Nat → Int) (q : Int) (n : Nat) : 0 ≤ cntS p q n ∧ cntS p q n ≤ n := by
  induction n with
  | zero => simp [cntS]
  | succ n ih => unfold cntS; split <;> omega
/-- how many of the first n are odd -/
def oddS (p : Nat → Int) : Nat → Int
  | 0 => 0
  | n + 1 => oddS p n + p n % 2
theorem oddS_lo (p : Nat → Int) (n : Nat) : 0 ≤ oddS p n ∧ oddS p n ≤ n := by
  induction n with
  | zero => simp [oddS]
  | succ n ih => unfold oddS; omega
/-- the most at one place, and the least such place, of the first m places -/
def mwS (p : Nat → Int) (n : Nat) : Nat → Int × Int
  | 0 => (0, 0)
  | m + 1 => if (mwS p n m).1 < cntS p m n then (cntS p m n, (m : Int)) else mwS p n m
theorem cntS_s (p : Nat → Int) (q : Int) (n : Nat) : cntS p q (n + 1) = if p n = q then cntS p q n + 1 else cntS p q n := rfl
theorem oddS_s (p : Nat → Int) (n : Nat) : oddS p (n + 1) = oddS p n + p n % 2 := rfl
theorem mwS_s (p : Nat → Int) (n m : Nat) : mwS p n (m + 1) = if (mwS p n m).1 < cntS p m n then (cntS p m n, (m : Int)) else mwS p n m := rfl
theorem mwS_lo (p : Nat → Int) (n m : Nat) : 0 ≤ (mwS p n m).1 ∧ (mwS p n m).1 ≤ n ∧ 0 ≤ (mwS p n m).2 ∧ ((mwS p n m).2 < m ∨ (mwS p n m).2 = 0) := by
  induction m with
  | zero => simp [mwS]
  | succ m ih =>
    unfold mwS
    have := cntS_lo p m n
    split
    · dsimp only; omega
    · omega
def mostS (p : Nat → Int) (n : Nat) : Int := (mwS p n 12).1
def whereS (p : Nat → Int) (n : Nat) : Int := (mwS p n 12).2
theorem zand1 {x : Int} (h0 : 0 ≤ x) (h1 : x < 12) : zand x 1 = x % 2 := by
  have : ∀ n : Nat, n < 12 → zand (n : Int) 1 = (n : Int) % 2 := by decide
  have h := this x.toNat (by omega)
  rw [Int.toNat_of_nonneg h0] at h
  exact h
section ZD
variable {C : zC} {n pc : Nat} {lv st : List Value} {h : zH}
/-- a local is forgotten -/
theorem zV_drop (i : Nat) (k : zV C n pc (lv.set i .null) st h) : zV C n pc lv st h := fun ok H locs ls hP hS hl =>
  k ok H locs ls hP hS ⟨hl.1, hl.2.1, fun q hq => hl.2.2 q (by
    obtain ⟨j, v⟩ := q
    obtain ⟨t, ht, h2, h3⟩ := zlp_mem.mp hq
    refine zlp_mem.mpr ⟨t, ht, ?_, h3⟩
    rw [List.getElem?_set] at h2
    split at h2
    · split at h2
      · cases h2; exact absurd rfl h3
      · cases h2
    · exact h2)⟩
end ZD
section ZG
variable {C : zC} {n pc : Nat} {lv st : List Value} {h : zH}
theorem zV_lveq {lv' : List Value} (e : lv' = lv) (k : zV C n pc lv' st h) : zV C n pc lv st h := e ▸ k
end ZG
