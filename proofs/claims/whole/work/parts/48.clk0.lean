/-! THE TEXT: tokens, and the rows that a rule is kept as -/
def blk (c : Int) : Bool := decide (c = 32 ∨ c = 10)
def ltr (c : Int) : Bool := decide (97 ≤ c ∧ c ≤ 122)
def dgt (c : Int) : Bool := decide (48 ≤ c ∧ c ≤ 57)
/-- on, as long as b -/
def whF (b : Int → Bool) (T : Nat → Int) (n : Nat) : Nat → Nat → Nat
  | 0, p => p
  | k + 1, p => if p < n ∧ b (T p) = true then whF b T n k (p + 1) else p
theorem whF_s (b : Int → Bool) (T : Nat → Int) (n k p : Nat) : whF b T n (k + 1) p = if p < n ∧ b (T p) = true then whF b T n k (p + 1) else p := rfl
theorem whF_lo (b : Int → Bool) (T : Nat → Int) (n : Nat) : ∀ k p, p ≤ whF b T n k p ∧ (p ≤ n → whF b T n k p ≤ n) := by
  intro k
  induction k with
  | zero => intro p; exact ⟨Nat.le_refl _, fun h => h⟩
  | succ k ih =>
    intro p
    rw [whF_s]
    split
    · rename_i h; have := ih (p + 1); exact ⟨by omega, fun _ => this.2 (by omega)⟩
    · exact ⟨Nat.le_refl _, fun h => h⟩
def dgF (T : Nat → Int) (n a : Nat) : Nat → Nat → Int → Nat × Int
  | 0, p, v => (p, v)
  | k + 1, p, v => if p < n ∧ dgt (T p) = true then dgF T n a k (p + 1) (if 4 < p - a then v else 10 * v + T p - 48) else (p, v)
theorem dgF_s (T : Nat → Int) (n a k p : Nat) (v : Int) : dgF T n a (k + 1) p v = if p < n ∧ dgt (T p) = true then dgF T n a k (p + 1) (if 4 < p - a then v else 10 * v + T p - 48) else (p, v) := rfl
theorem dgF_p (T : Nat → Int) (n a : Nat) : ∀ k p v, (dgF T n a k p v).1 = whF dgt T n k p := by
  intro k
  induction k with
  | zero => intro p v; rfl
  | succ k ih => intro p v; rw [dgF_s, whF_s]; split; exact ih _ _; rfl
/-- where the token begins that is looked for from p on; the one behind its last byte; its kind; its value -/
def tA (T : Nat → Int) (n p : Nat) : Nat := whF blk T n (n - p) p
def tK (T : Nat → Int) (n p : Nat) : Int := if n ≤ tA T n p then 0 else if ltr (T (tA T n p)) = true then 1 else if dgt (T (tA T n p)) = true then 2 else 3
def tB (T : Nat → Int) (n p : Nat) : Nat := if n ≤ tA T n p then tA T n p else if ltr (T (tA T n p)) = true then whF ltr T n (n - tA T n p) (tA T n p) else if dgt (T (tA T n p)) = true then (dgF T n (tA T n p) (n - tA T n p) (tA T n p) 0).1 else tA T n p + 1
def tV (T : Nat → Int) (n p : Nat) : Int := if n ≤ tA T n p then 0 else if ltr (T (tA T n p)) = true then 0 else if dgt (T (tA T n p)) = true then (dgF T n (tA T n p) (n - tA T n p) (tA T n p) 0).2 else T (tA T n p)
theorem tA_lo {T : Nat → Int} {n p : Nat} (hp : p ≤ n) : p ≤ tA T n p ∧ tA T n p ≤ n := by have := whF_lo blk T n (n - p) p; exact ⟨this.1, this.2 hp⟩
theorem whF_gt {b : Int → Bool} {T : Nat → Int} {n p : Nat} (hp : p < n) (hb : b (T p) = true) : p < whF b T n (n - p) p := by
  obtain ⟨k, hk⟩ : ∃ k, n - p = k + 1 := ⟨n - p - 1, by omega⟩
  rw [hk, whF_s, if_pos ⟨hp, hb⟩]
  have := (whF_lo b T n k (p + 1)).1
  omega
theorem tB_lo {T : Nat → Int} {n p : Nat} (hp : p ≤ n) : tA T n p ≤ tB T n p ∧ tB T n p ≤ n ∧ (tK T n p ≠ 0 → tA T n p < tB T n p) := by
  have ha := tA_lo (T := T) hp
  unfold tB tK
  by_cases h1 : n ≤ tA T n p
  · rw [if_pos h1, if_pos h1]; exact ⟨Nat.le_refl _, ha.2, fun z => absurd rfl z⟩
  · rw [if_neg h1, if_neg h1]
    by_cases h2 : ltr (T (tA T n p)) = true
    · rw [if_pos h2, if_pos h2]
      have := whF_gt (n := n) (p := tA T n p) (by omega) h2
      exact ⟨by omega, (whF_lo ltr T n _ _).2 ha.2, fun _ => this⟩
    · rw [if_neg h2, if_neg h2]
      by_cases h3 : dgt (T (tA T n p)) = true
      · rw [if_pos h3, if_pos h3, dgF_p]
        have := whF_gt (n := n) (p := tA T n p) (by omega) h3
        exact ⟨by omega, (whF_lo dgt T n _ _).2 ha.2, fun _ => this⟩
      · rw [if_neg h3, if_neg h3]; exact ⟨by omega, by omega, fun _ => by omega⟩
theorem tK_lo (T : Nat → Int) (n p : Nat) : 0 ≤ tK T n p ∧ tK T n p ≤ 3 := by unfold tK; repeat' split
                                                                              all_goals decide
theorem tK_end {T : Nat → Int} {n p : Nat} (hp : n ≤ p) : tK T n p = 0 := by
  unfold tK
  rw [if_pos]
  exact Nat.le_trans hp (whF_lo blk T n (n - p) p).1
theorem dgF_v {T : Nat → Int} {n a : Nat} : ∀ k p v, a ≤ p → 0 ≤ v → (p - a ≤ 5 → v < 10 ^ (p - a)) → v < 100000 → 0 ≤ (dgF T n a k p v).2 ∧ (dgF T n a k p v).2 < 100000 := by
  intro k
  induction k with
  | zero => intro p v _ h1 _ h3; exact ⟨h1, h3⟩
  | succ k ih =>
    intro p v ha h1 h2 h3
    rw [dgF_s]
    split
    · rename_i h
      have hd : 48 ≤ T p ∧ T p ≤ 57 := of_decide_eq_true h.2
      by_cases h4 : 4 < p - a
      · rw [if_pos h4]; exact ih _ _ (by omega) h1 (fun z => absurd z (by omega)) h3
      · rw [if_neg h4]
        have e : 10 ^ (p + 1 - a) = 10 * 10 ^ (p - a) := by rw [show p + 1 - a = (p - a) + 1 by omega, Nat.pow_succ, Nat.mul_comm]
        have h5 := h2 (by omega)
        have h6 : (10 : Int) * v + 10 ≤ 10 * ((10 : Int) ^ (p - a)) := by omega
        have e2 : ((10 : Int) ^ (p + 1 - a)) = 10 * (10 : Int) ^ (p - a) := by rw [show p + 1 - a = (p - a) + 1 by omega, Int.pow_succ, Int.mul_comm]
        have h7 : (10 : Int) ^ (p - a) ≤ 10000 := by
          have : ∀ j : Nat, j ≤ 4 → (10 : Int) ^ j ≤ 10000 := by decide
          exact this _ (by omega)
        exact ih _ _ (by omega) (by omega) (fun _ => by rw [e2]; omega) (by omega)
    · exact ⟨h1, h3⟩
theorem tV_lo {T : Nat → Int} {n p : Nat} (hT : ∀ i, i < n → 0 ≤ T i ∧ T i ≤ 255) : 0 ≤ tV T n p ∧ tV T n p < 100000 := by
  unfold tV
  split
  · decide
  · rename_i h1
    split
    · decide
    · split
      · exact dgF_v _ _ _ (Nat.le_refl _) (by decide) (fun _ => by rw [Nat.sub_self]; decide) (by decide)
      · have := hT (tA T n p) (by omega); omega
/-- the token is the word b -/
def isW (T : Nat → Int) (n p : Nat) (b : List Int) : Bool := decide (tK T n p = 1) && (decide (((tB T n p - tA T n p : Nat) : Int) = (b.length : Int)) && likeB (fun j => T (tA T n p + j)) (fun j => b.getD j 0) b.length)
def isS (T : Nat → Int) (n p : Nat) (c : Int) : Bool := decide (tK T n p = 3 ∧ tV T n p = c)
def wLeaf : List Int := [108, 101, 97, 102]
def wJudge : List Int := [106, 117, 100, 103, 101]
def wBarr : List Int := [98, 97, 114, 114, 105, 115, 116, 101, 114]
def wPot : List Int := [112, 111, 116]
def wDrinks : List Int := [100, 114, 105, 110, 107, 115]
def wReads : List Int := [114, 101, 97, 100, 115]
def wOr : List Int := [111, 114]
def wAnd : List Int := [97, 110, 100]
def wNot : List Int := [110, 111, 116]
def wLevel : List Int := [108, 101, 118, 101, 108]
def wMost : List Int := [109, 111, 115, 116]
def wWhere : List Int := [119, 104, 101, 114, 101]
def wOdd : List Int := [111, 100, 100]
def wCase : List Int := [99, 97, 115, 101]
def wThirst : List Int := [116, 104, 105, 114, 115, 116]
def wSeat : List Int := [115, 101, 97, 116]
/-- a fault and where, or what is laid, whether the leaves are looked at, and how far one is -/
abbrev zR : Type := (Int × Nat) ⊕ (List Int × Bool × Nat)
def bnd (r : zR) (f : List Int → Bool → Nat → zR) : zR := match r with
  | .inl e => .inl e
  | .inr (l, b, p) => f l b p
def valN (T : Nat → Int) (n : Nat) (dr : Bool) (p : Nat) : Int := if isW T n p wLevel = true then -10 else if isW T n p wMost = true then -11 else if isW T n p wWhere = true then -12 else if isW T n p wOdd = true then -13 else if isW T n p wCase = true then -14 else if dr = true ∧ isW T n p wThirst = true then -15 else if dr = true ∧ isW T n p wSeat = true then -16 else 0
def partP (T : Nat → Int) (n : Nat) (dr : Bool) (ex : Nat → zR) (p : Nat) : zR :=
  if isS T n p 40 = true then bnd (ex (tB T n p)) (fun l b q => if isS T n q 41 = true then .inr (l, b, tB T n q) else .inl (1, q))
  else if tK T n p = 1 then (if valN T n dr p = 0 then .inl (3, p) else .inr ([valN T n dr p], decide (-13 ≤ valN T n dr p ∧ valN T n dr p ≤ -11), tB T n p))
  else if tK T n p = 2 then (if 4 < tB T n p - tA T n p then .inl (2, p) else .inr ([tV T n p], false, tB T n p)) else .inl (1, p)
def loopP (T : Nat → Int) (n : Nat) (op : Nat → Int) (sub : Nat → zR) : Nat → List Int → Bool → Nat → zR
  | 0, l, b, p => .inr (l, b, p)
  | k + 1, l, b, p => if op p = 0 then .inr (l, b, p) else bnd (sub (tB T n p)) (fun l2 b2 q => loopP T n op sub k (l ++ (l2 ++ [op p])) (b || b2) q)
theorem loopP_s (T : Nat → Int) (n : Nat) (op : Nat → Int) (sub : Nat → zR) (k : Nat) (l : List Int) (b : Bool) (p : Nat) : loopP T n op sub (k + 1) l b p = if op p = 0 then .inr (l, b, p) else bnd (sub (tB T n p)) (fun l2 b2 q => loopP T n op sub k (l ++ (l2 ++ [op p])) (b || b2) q) := rfl
def opMul (T : Nat → Int) (n p : Nat) : Int := if isS T n p 42 = true then -8 else if isS T n p 47 = true then -9 else 0
def opAdd (T : Nat → Int) (n p : Nat) : Int := if isS T n p 43 = true then -6 else if isS T n p 45 = true then -7 else 0
def opAnd (T : Nat → Int) (n p : Nat) : Int := if isW T n p wAnd = true then -2 else 0
def opOr (T : Nat → Int) (n p : Nat) : Int := if isW T n p wOr = true then -1 else 0
def opTst (T : Nat → Int) (n p : Nat) : Int := if isS T n p 60 = true then -4 else if isS T n p 61 = true then -5 else 0
def prodP (T : Nat → Int) (n : Nat) (dr : Bool) (ex : Nat → zR) (p : Nat) : zR := bnd (partP T n dr ex p) (fun l b q => loopP T n (opMul T n) (partP T n dr ex) (n + 1) l b q)
def sumP (T : Nat → Int) (n : Nat) (dr : Bool) (ex : Nat → zR) (p : Nat) : zR := bnd (prodP T n dr ex p) (fun l b q => loopP T n (opAdd T n) (prodP T n dr ex) (n + 1) l b q)
def testP (T : Nat → Int) (n : Nat) (dr : Bool) (ex : Nat → zR) (p : Nat) : zR := bnd (sumP T n dr ex p) (fun l b q => if opTst T n q = 0 then .inr (l, b, q) else bnd (sumP T n dr ex (tB T n q)) (fun l2 b2 q2 => .inr (l ++ (l2 ++ [opTst T n q]), b || b2, q2)))
def ntF (T : Nat → Int) (n : Nat) : Nat → Nat → Nat × Nat
  | 0, p => (0, p)
  | k + 1, p => if isW T n p wNot = true then ((ntF T n k (tB T n p)).1 + 1, (ntF T n k (tB T n p)).2) else (0, p)
theorem ntF_s (T : Nat → Int) (n k p : Nat) : ntF T n (k + 1) p = if isW T n p wNot = true then ((ntF T n k (tB T n p)).1 + 1, (ntF T n k (tB T n p)).2) else (0, p) := rfl
def notP (T : Nat → Int) (n : Nat) (dr : Bool) (ex : Nat → zR) (p : Nat) : zR := if (ntF T n 6 p).1 = 6 ∧ isW T n (ntF T n 6 p).2 wNot = true then .inl (2, (ntF T n 6 p).2) else bnd (testP T n dr ex (ntF T n 6 p).2) (fun l b q => .inr (l ++ List.replicate (ntF T n 6 p).1 (-3), b, q))
def andP (T : Nat → Int) (n : Nat) (dr : Bool) (ex : Nat → zR) (p : Nat) : zR := bnd (notP T n dr ex p) (fun l b q => loopP T n (opAnd T n) (notP T n dr ex) (n + 1) l b q)
def orP (T : Nat → Int) (n : Nat) (dr : Bool) (ex : Nat → zR) (p : Nat) : zR := bnd (andP T n dr ex p) (fun l b q => loopP T n (opOr T n) (andP T n dr ex) (n + 1) l b q)
def exprP (T : Nat → Int) (n : Nat) (dr : Bool) : Nat → Nat → zR
  | 0, p => .inl (if tK T n p = 2 ∨ tK T n p = 1 ∨ isS T n p 40 = true then 2 else 1, p)
  | d + 1, p => orP T n dr (exprP T n dr d) p
/-- one is farther behind than before, and no more is laid than was read -/
def good (n p : Nat) (r : zR) : Prop := match r with
  | .inl (_, q) => p ≤ q ∧ q ≤ n
  | .inr (l, _, q) => p + l.length ≤ q ∧ p < q ∧ q ≤ n
theorem good_bnd {n p : Nat} {r : zR} {f : List Int → Bool → Nat → zR} (h : good n p r) (hf : ∀ l b q, p + l.length ≤ q → p < q → q ≤ n → good n p (f l b q)) : good n p (bnd r f) := by
  rcases r with ⟨k, q⟩ | ⟨l, b, q⟩
  · exact h
  · exact hf l b q h.1 h.2.1 h.2.2
theorem isS_k {T : Nat → Int} {n p : Nat} {c : Int} (h : isS T n p c = true) : tK T n p = 3 := (of_decide_eq_true h).1
theorem isW_k {T : Nat → Int} {n p : Nat} {b : List Int} (h : isW T n p b = true) : tK T n p = 1 ∧ tB T n p - tA T n p = b.length := by
  unfold isW at h
  rw [Bool.and_eq_true, Bool.and_eq_true] at h
  have := of_decide_eq_true h.2.1
  exact ⟨of_decide_eq_true h.1, by omega⟩
theorem good_part {T : Nat → Int} {n : Nat} {dr : Bool} {ex : Nat → zR} (he : ∀ p, p ≤ n → good n p (ex p)) (p : Nat) (hp : p ≤ n) : good n p (partP T n dr ex p) := by
  have ha := tA_lo (T := T) hp
  have hb := tB_lo (T := T) hp
  unfold partP
  split
  · rename_i h
    have hk := hb.2.2 (by rw [isS_k h]; decide)
    have h0 := he (tB T n p) hb.2.1
    generalize ex (tB T n p) = r at h0
    rcases r with ⟨k, q⟩ | ⟨l, b, q⟩
    · exact ⟨by have := h0.1; omega, h0.2⟩
    · show good n p (if isS T n q 41 = true then .inr (l, b, tB T n q) else .inl (1, q))
      have hb2 := tB_lo (T := T) (p := q) h0.2.2
      have ha2 := tA_lo (T := T) (p := q) h0.2.2
      have h01 := h0.1
      split
      · exact ⟨by omega, by omega, hb2.2.1⟩
      · exact ⟨by omega, h0.2.2⟩
  · split
    · rename_i h1
      have hk := hb.2.2 (by rw [h1]; decide)
      split
      · exact ⟨Nat.le_refl _, hp⟩
      · exact ⟨by simp only [List.length_cons, List.length_nil]; omega, by omega, hb.2.1⟩
    · split
      · rename_i h1
        have hk := hb.2.2 (by rw [h1]; decide)
        split
        · exact ⟨Nat.le_refl _, hp⟩
        · exact ⟨by simp only [List.length_cons, List.length_nil]; omega, by omega, hb.2.1⟩
      · exact ⟨Nat.le_refl _, hp⟩
theorem good_loop {T : Nat → Int} {n : Nat} {op : Nat → Int} {sub : Nat → zR} (hs : ∀ p, p ≤ n → good n p (sub p)) (ho : ∀ p, op p ≠ 0 → tK T n p ≠ 0) (p0 : Nat) : ∀ k l b p, p0 + l.length ≤ p → p0 < p → p ≤ n → good n p0 (loopP T n op sub k l b p) := by
  intro k
  induction k with
  | zero => intro l b p h1 h2 h3; exact ⟨h1, h2, h3⟩
  | succ k ih =>
    intro l b p h1 h2 h3
    rw [loopP_s]
    split
    · exact ⟨h1, h2, h3⟩
    · rename_i h
      have hb := tB_lo (T := T) h3
      have ha := tA_lo (T := T) h3
      have hk := hb.2.2 (ho p h)
      have h0 := hs (tB T n p) hb.2.1
      generalize sub (tB T n p) = r at h0
      rcases r with ⟨e, q⟩ | ⟨l2, b2, q⟩
      · exact ⟨by have := h0.1; omega, h0.2⟩
      · exact ih _ _ _ (by have := h0.1; simp only [List.length_append, List.length_cons, List.length_nil]; omega) (by have := h0.2.1; omega) h0.2.2
theorem op_k {T : Nat → Int} {n : Nat} : (∀ p, opMul T n p ≠ 0 → tK T n p ≠ 0) ∧ (∀ p, opAdd T n p ≠ 0 → tK T n p ≠ 0) ∧ (∀ p, opAnd T n p ≠ 0 → tK T n p ≠ 0) ∧ (∀ p, opOr T n p ≠ 0 → tK T n p ≠ 0) ∧ (∀ p, opTst T n p ≠ 0 → tK T n p ≠ 0) := by
  refine ⟨fun p h => ?_, fun p h => ?_, fun p h => ?_, fun p h => ?_, fun p h => ?_⟩
  · unfold opMul at h
    by_cases h1 : isS T n p 42 = true
    · rw [isS_k h1]; decide
    · by_cases h2 : isS T n p 47 = true
      · rw [isS_k h2]; decide
      · rw [if_neg h1, if_neg h2] at h; exact absurd rfl h
  · unfold opAdd at h
    by_cases h1 : isS T n p 43 = true
    · rw [isS_k h1]; decide
    · by_cases h2 : isS T n p 45 = true
      · rw [isS_k h2]; decide
      · rw [if_neg h1, if_neg h2] at h; exact absurd rfl h
  · unfold opAnd at h
    by_cases h1 : isW T n p wAnd = true
    · rw [(isW_k h1).1]; decide
    · rw [if_neg h1] at h; exact absurd rfl h
  · unfold opOr at h
    by_cases h1 : isW T n p wOr = true
    · rw [(isW_k h1).1]; decide
    · rw [if_neg h1] at h; exact absurd rfl h
  · unfold opTst at h
    by_cases h1 : isS T n p 60 = true
    · rw [isS_k h1]; decide
    · by_cases h2 : isS T n p 61 = true
      · rw [isS_k h2]; decide
      · rw [if_neg h1, if_neg h2] at h; exact absurd rfl h
theorem good_prod {T : Nat → Int} {n : Nat} {dr : Bool} {ex : Nat → zR} (he : ∀ p, p ≤ n → good n p (ex p)) (p : Nat) (hp : p ≤ n) : good n p (prodP T n dr ex p) := good_bnd (good_part he p hp) (fun l b q h1 h2 h3 => good_loop (good_part he) op_k.1 p _ l b q h1 h2 h3)
theorem good_sum {T : Nat → Int} {n : Nat} {dr : Bool} {ex : Nat → zR} (he : ∀ p, p ≤ n → good n p (ex p)) (p : Nat) (hp : p ≤ n) : good n p (sumP T n dr ex p) := good_bnd (good_prod he p hp) (fun l b q h1 h2 h3 => good_loop (good_prod he) op_k.2.1 p _ l b q h1 h2 h3)
theorem good_test {T : Nat → Int} {n : Nat} {dr : Bool} {ex : Nat → zR} (he : ∀ p, p ≤ n → good n p (ex p)) (p : Nat) (hp : p ≤ n) : good n p (testP T n dr ex p) := good_bnd (good_sum he p hp) (fun l b q h1 h2 h3 => by
  split
  · exact ⟨h1, h2, h3⟩
  · rename_i h
    have hb := tB_lo (T := T) h3
    have ha := tA_lo (T := T) h3
    have hk := hb.2.2 (op_k.2.2.2.2 q h)
    have h0 := good_sum (T := T) he (dr := dr) (tB T n q) hb.2.1
    generalize sumP T n dr ex (tB T n q) = r at h0
    rcases r with ⟨e, q2⟩ | ⟨l2, b2, q2⟩
    · exact ⟨by have := h0.1; omega, h0.2⟩
    · exact ⟨by have := h0.1; simp only [List.length_append, List.length_cons, List.length_nil]; omega, by have := h0.2.1; omega, h0.2.2⟩)
theorem ntF_lo {T : Nat → Int} {n : Nat} : ∀ k p, p ≤ n → p + 3 * (ntF T n k p).1 ≤ (ntF T n k p).2 ∧ (ntF T n k p).2 ≤ n ∧ (ntF T n k p).1 ≤ k := by
  intro k
  induction k with
  | zero => intro p hp; exact ⟨by show p + 3 * 0 ≤ p; omega, hp, Nat.le_refl _⟩
  | succ k ih =>
    intro p hp
    rw [ntF_s]
    split
    · rename_i h
      have hb := tB_lo (T := T) hp
      have ha := tA_lo (T := T) hp
      have hw := (isW_k h).2
      have := ih (tB T n p) hb.2.1
      have e3 : wNot.length = 3 := rfl
      dsimp only
      exact ⟨by omega, this.2.1, by omega⟩
    · exact ⟨by show p + 3 * 0 ≤ p; omega, hp, Nat.zero_le _⟩
theorem good_not {T : Nat → Int} {n : Nat} {dr : Bool} {ex : Nat → zR} (he : ∀ p, p ≤ n → good n p (ex p)) (p : Nat) (hp : p ≤ n) : good n p (notP T n dr ex p) := by
  have hl := ntF_lo (T := T) (n := n) 6 p hp
  unfold notP
  split
  · exact ⟨by omega, hl.2.1⟩
  · have h0 := good_test (T := T) he (dr := dr) (ntF T n 6 p).2 hl.2.1
    generalize testP T n dr ex (ntF T n 6 p).2 = r at h0
    rcases r with ⟨e, q⟩ | ⟨l, b, q⟩
    · exact ⟨by have := h0.1; omega, h0.2⟩
    · exact ⟨by have := h0.1; simp only [List.length_append, List.length_replicate]; omega, by have := h0.2.1; omega, h0.2.2⟩
theorem good_and {T : Nat → Int} {n : Nat} {dr : Bool} {ex : Nat → zR} (he : ∀ p, p ≤ n → good n p (ex p)) (p : Nat) (hp : p ≤ n) : good n p (andP T n dr ex p) := good_bnd (good_not he p hp) (fun l b q h1 h2 h3 => good_loop (good_not he) op_k.2.2.1 p _ l b q h1 h2 h3)
theorem good_or {T : Nat → Int} {n : Nat} {dr : Bool} {ex : Nat → zR} (he : ∀ p, p ≤ n → good n p (ex p)) (p : Nat) (hp : p ≤ n) : good n p (orP T n dr ex p) := good_bnd (good_and he p hp) (fun l b q h1 h2 h3 => good_loop (good_and he) op_k.2.2.2.1 p _ l b q h1 h2 h3)
theorem good_expr {T : Nat → Int} {n : Nat} {dr : Bool} : ∀ d p, p ≤ n → good n p (exprP T n dr d p) := by
  intro d
  induction d with
  | zero => intro p hp; exact ⟨Nat.le_refl _, hp⟩
  | succ d ih => intro p hp; exact good_or ih p hp
