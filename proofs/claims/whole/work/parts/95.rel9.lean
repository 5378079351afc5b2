/-! A TEXT is what its bytes are -/
section ZTX
variable {T S : Nat → Int} {n : Nat}
theorem whF_cg (h : ∀ i, i < n → T i = S i) (b : Int → Bool) : ∀ k p, whF b T n k p = whF b S n k p := by
  intro k
  induction k with
  | zero => intro p; rfl
  | succ k ih =>
    intro p
    show (if p < n ∧ b (T p) = true then whF b T n k (p + 1) else p) = (if p < n ∧ b (S p) = true then whF b S n k (p + 1) else p)
    by_cases e : p < n
    · rw [h p e, ih (p + 1)]
    · rw [if_neg (fun z => e z.1), if_neg (fun z => e z.1)]
theorem dgF_cg (h : ∀ i, i < n → T i = S i) (a : Nat) : ∀ k p v, dgF T n a k p v = dgF S n a k p v := by
  intro k
  induction k with
  | zero => intro p v; rfl
  | succ k ih =>
    intro p v
    show (if p < n ∧ dgt (T p) = true then dgF T n a k (p + 1) (if 4 < p - a then v else 10 * v + T p - 48) else (p, v)) = (if p < n ∧ dgt (S p) = true then dgF S n a k (p + 1) (if 4 < p - a then v else 10 * v + S p - 48) else (p, v))
    by_cases e : p < n
    · rw [h p e, ih (p + 1)]
    · rw [if_neg (fun z => e z.1), if_neg (fun z => e z.1)]
theorem tok_cg (h : ∀ i, i < n → T i = S i) : tA T n = tA S n ∧ tB T n = tB S n ∧ tK T n = tK S n ∧ tV T n = tV S n := by
  have eA : tA T n = tA S n := by funext p; exact whF_cg h blk (n - p) p
  refine ⟨eA, ?_, ?_, ?_⟩
  · funext p
    unfold tB
    rw [eA]
    by_cases e : n ≤ tA S n p
    · rw [if_pos e, if_pos e]
    · rw [if_neg e, if_neg e, h (tA S n p) (by omega), whF_cg h, dgF_cg h]
  · funext p
    unfold tK
    rw [eA]
    by_cases e : n ≤ tA S n p
    · rw [if_pos e, if_pos e]
    · rw [if_neg e, if_neg e, h (tA S n p) (by omega)]
  · funext p
    unfold tV
    rw [eA]
    by_cases e : n ≤ tA S n p
    · rw [if_pos e, if_pos e]
    · rw [if_neg e, if_neg e, h (tA S n p) (by omega), dgF_cg h]
theorem isW_cg (h : ∀ i, i < n → T i = S i) : isW T n = isW S n := by
  obtain ⟨eA, eB, eK, eV⟩ := tok_cg h
  funext p b
  unfold isW
  rw [eA, eB, eK]
  by_cases e1 : tK S n p = 1
  · by_cases e2 : ((tB S n p - tA S n p : Nat) : Int) = (b.length : Int)
    · have hp : p ≤ n := by
        by_cases z : p ≤ n
        · exact z
        · have ta : tA S n p = p := by unfold tA; rw [show n - p = 0 by omega]; rfl
          unfold tK at e1
          rw [ta, if_pos (by omega)] at e1
          exact absurd e1 (by decide)
      have tl := tB_lo (T := S) hp
      rw [likeB_congr (p := fun j => T (tA S n p + j)) (q := fun j => S (tA S n p + j)) b.length (fun j hj => h _ (by omega))]
    · rw [decide_eq_false e2, Bool.false_and, Bool.false_and]
  · rw [decide_eq_false e1, Bool.false_and, Bool.false_and]
theorem isS_cg (h : ∀ i, i < n → T i = S i) : isS T n = isS S n := by
  obtain ⟨eA, eB, eK, eV⟩ := tok_cg h
  funext p c
  unfold isS; rw [eK, eV]
theorem op_cg (h : ∀ i, i < n → T i = S i) : valN T n = valN S n ∧ opMul T n = opMul S n ∧ opAdd T n = opAdd S n ∧ opAnd T n = opAnd S n ∧ opOr T n = opOr S n ∧ opTst T n = opTst S n := by
  have eW := isW_cg h
  have eS := isS_cg h
  refine ⟨?_, ?_, ?_, ?_, ?_, ?_⟩
  · funext dr p; unfold valN; rw [eW]
  · funext p; unfold opMul; rw [eS]
  · funext p; unfold opAdd; rw [eS]
  · funext p; unfold opAnd; rw [eW]
  · funext p; unfold opOr; rw [eW]
  · funext p; unfold opTst; rw [eS]
theorem loopP_cg (h : ∀ i, i < n → T i = S i) (op : Nat → Int) (sub : Nat → zR) : ∀ k l b p, loopP T n op sub k l b p = loopP S n op sub k l b p := by
  intro k
  induction k with
  | zero => intro l b p; rfl
  | succ k ih =>
    intro l b p
    rw [loopP_s, loopP_s, (tok_cg h).2.1]
    by_cases e : op p = 0
    · rw [if_pos e, if_pos e]
    · rw [if_neg e, if_neg e]
      congr 1
      funext l2 b2 q
      exact ih _ _ _
theorem ntF_cg (h : ∀ i, i < n → T i = S i) : ∀ k p, ntF T n k p = ntF S n k p := by
  intro k
  induction k with
  | zero => intro p; rfl
  | succ k ih => intro p; rw [ntF_s, ntF_s, isW_cg h, (tok_cg h).2.1, ih]
theorem expr_cg (h : ∀ i, i < n → T i = S i) (dr : Bool) : ∀ d, exprP T n dr d = exprP S n dr d := by
  obtain ⟨eA, eB, eK, eV⟩ := tok_cg h
  have eW := isW_cg h
  have eS := isS_cg h
  obtain ⟨o1, o2, o3, o4, o5, o6⟩ := op_cg h
  have p1 : ∀ ex, partP T n dr ex = partP S n dr ex := fun ex => by funext p; unfold partP; rw [eS, eB, eK, eA, eV, o1]
  have lp : ∀ op sub, loopP T n op sub = loopP S n op sub := fun op sub => by funext k l b p; exact loopP_cg h op sub k l b p
  have p2 : ∀ ex, prodP T n dr ex = prodP S n dr ex := fun ex => by funext p; unfold prodP; rw [p1, o2, lp]
  have p3 : ∀ ex, sumP T n dr ex = sumP S n dr ex := fun ex => by funext p; unfold sumP; rw [p2, o3, lp]
  have p4 : ∀ ex, testP T n dr ex = testP S n dr ex := fun ex => by funext p; unfold testP; rw [p3, o6, eB]
  have p5 : ∀ ex, notP T n dr ex = notP S n dr ex := fun ex => by funext p; unfold notP; rw [ntF_cg h, eW, p4]
  have p6 : ∀ ex, andP T n dr ex = andP S n dr ex := fun ex => by funext p; unfold andP; rw [p5, o4, lp]
  have p7 : ∀ ex, orP T n dr ex = orP S n dr ex := fun ex => by funext p; unfold orP; rw [p6, o5, lp]
  intro d
  induction d with
  | zero => funext p; show Sum.inl _ = Sum.inl _; rw [eK, eS]
  | succ d ih => funext p; show orP T n dr (exprP T n dr d) p = orP S n dr (exprP S n dr d) p; rw [ih, p7]
theorem line_cg (h : ∀ i, i < n → T i = S i) (D : zDf) (p : Nat) : lineP T n D p = lineP S n D p := by
  obtain ⟨eA, eB, eK, eV⟩ := tok_cg h
  have eW := isW_cg h
  have n1 : numP T n = numP S n := by funext lo hi p; unfold numP; rw [eK, eB, eA, eV]
  have l1 : leafP T n D p = leafP S n D p := by unfold leafP; rw [n1, eB]
  have l2 : ∀ br, judP T n D br p = judP S n D br p := fun br => by unfold judP; rw [n1, eB]
  have l3 : potP T n D p = potP S n D p := by unfold potP; rw [n1, eB]
  have l4 : ∀ ru, rulP T n D ru p = rulP S n D ru p := fun ru => by unfold rulP; rw [expr_cg h, eB]
  unfold lineP
  rw [eW, l1, l2, l2, l3, l4, l4]
theorem text_cg (h : ∀ i, i < n → T i = S i) : ∀ k D p, textP T n k D p = textP S n k D p := by
  obtain ⟨eA, eB, eK, eV⟩ := tok_cg h
  intro k
  induction k with
  | zero => intro D p; rfl
  | succ k ih =>
    intro D p
    rw [textP_s, textP_s, line_cg h, eK]
    by_cases e : tK S n p = 0
    · rw [if_pos e, if_pos e]
    · rw [if_neg e, if_neg e]
      cases lineP S n D p with
      | inl w => rfl
      | inr w =>
        obtain ⟨D2, q⟩ := w
        show (if isS T n q 59 = true then textP T n k D2 (tB T n q) else .inl (1, q)) = (if isS S n q 59 = true then textP S n k D2 (tB S n q) else .inl (1, q))
        rw [isS_cg h, eB, ih]
end ZTX

