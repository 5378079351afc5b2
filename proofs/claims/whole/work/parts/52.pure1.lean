/-! WHAT A RULE's TEXT GIVES: a row of steps that finds its operands, and room; a fault is 1, 2, 3 or 5 -/
section
/-- the digits as the other one reads them -/
def dgM (T : Nat → Int) (n : Nat) : Nat → Nat → Int → Nat × Int
  | 0, p, v => (p, v)
  | k + 1, p, v => if p < n ∧ dgt (T p) = true then dgM T n k (p + 1) (min 100000 (10 * v + T p - 48)) else (p, v)
theorem dgM_s (T : Nat → Int) (n k p : Nat) (v : Int) : dgM T n (k + 1) p v = if p < n ∧ dgt (T p) = true then dgM T n k (p + 1) (min 100000 (10 * v + T p - 48)) else (p, v) := rfl
theorem dgM_p (T : Nat → Int) (n : Nat) : ∀ k p v, (dgM T n k p v).1 = whF dgt T n k p := by
  intro k
  induction k with
  | zero => intro p v; rfl
  | succ k ih => intro p v; rw [dgM_s, whF_s]; split; exact ih _ _; rfl
theorem dg_eq {T : Nat → Int} {n a : Nat} : ∀ k p v, a ≤ p → 0 ≤ v → v < (10 : Int) ^ (p - a) → (dgF T n a k p v).1 - a ≤ 4 → dgM T n k p v = dgF T n a k p v ∧ (dgF T n a k p v).2 < (10 : Int) ^ ((dgF T n a k p v).1 - a) := by
  intro k
  induction k with
  | zero => intro p v _ _ h _; exact ⟨rfl, h⟩
  | succ k ih =>
    intro p v ha h1 h2 h3
    rw [dgF_s] at h3 ⊢
    rw [dgM_s]
    split
    · rename_i h
      rw [if_pos h] at h3
      have hd : 48 ≤ T p ∧ T p ≤ 57 := of_decide_eq_true h.2
      have h5 : p + 1 ≤ (dgF T n a k (p + 1) (if 4 < p - a then v else 10 * v + T p - 48)).1 := by rw [dgF_p]; exact (whF_lo dgt T n k (p + 1)).1
      have h4 : ¬ 4 < p - a := by omega
      rw [if_neg h4] at h3 h5 ⊢
      have e2 : ((10 : Int) ^ (p + 1 - a)) = 10 * (10 : Int) ^ (p - a) := by rw [show p + 1 - a = (p - a) + 1 by omega, Int.pow_succ, Int.mul_comm]
      have h7 : (10 : Int) ^ (p - a) ≤ 10000 := by
        have : ∀ j : Nat, j ≤ 4 → (10 : Int) ^ j ≤ 10000 := by decide
        exact this _ (by omega)
      rw [show min 100000 (10 * v + T p - 48) = 10 * v + T p - 48 by omega]
      exact ih _ _ (by omega) (by omega) (by rw [e2]; omega) h3
    · exact ⟨rfl, h2⟩
theorem tV_4 {T : Nat → Int} {n p : Nat} (hT : ∀ i, i < n → 0 ≤ T i ∧ T i ≤ 255) (h : tB T n p - tA T n p ≤ 4) : tV T n p ≤ 9999 := by
  unfold tB at h
  unfold tV
  split
  · decide
  · rename_i h1
    rw [if_neg h1] at h
    split
    · decide
    · rename_i h2
      rw [if_neg h2] at h
      split
      · rename_i h3
        rw [if_pos h3] at h
        have := (dg_eq (T := T) (n := n) (a := tA T n p) (n - tA T n p) (tA T n p) 0 (Nat.le_refl _) (by decide) (by rw [Nat.sub_self]; decide) h).2
        have h8 : ∀ j : Nat, j ≤ 4 → (10 : Int) ^ j ≤ 10000 := by decide
        have := h8 _ h
        omega
      · have := hT (tA T n p) (by omega); omega
/-- the height behind a step -/
def hg1 (x : Int) (k : Nat) : Option Nat := if 0 ≤ x ∨ x < -9 then (if k < 64 then some (k + 1) else none) else if x = -3 then (if 1 ≤ k then some k else none) else (if 2 ≤ k then some (k - 1) else none)
def hgL : List Int → Nat → Option Nat
  | [], k => some k
  | x :: r, k => match hg1 x k with
    | none => none
    | some j => hgL r j
theorem hgL_c (x : Int) (r : List Int) (k : Nat) : hgL (x :: r) k = match hg1 x k with
    | none => none
    | some j => hgL r j := rfl
theorem hgL_app : ∀ (a b : List Int) (k j : Nat), hgL a k = some j → hgL (a ++ b) k = hgL b j := by
  intro a
  induction a with
  | nil => intro b k j h; cases h; rfl
  | cons x r ih =>
    intro b k j h
    rw [List.cons_append]
    rw [hgL_c] at h ⊢
    cases e : hg1 x k with
    | none => rw [e] at h; cases h
    | some i => rw [e] at h; exact ih b i j h
theorem hgL_pre : ∀ (a b : List Int) (k j : Nat), hgL (a ++ b) k = some j → ∃ i, hgL a k = some i ∧ hgL b i = some j := by
  intro a
  induction a with
  | nil => intro b k j h; exact ⟨k, rfl, h⟩
  | cons x r ih =>
    intro b k j h
    rw [List.cons_append] at h
    rw [hgL_c] at h ⊢
    cases e : hg1 x k with
    | none => rw [e] at h; cases h
    | some i => rw [e] at h; exact ih b i j h
/-- a step may stand in a rule -/
def tkB (dr b : Bool) (x : Int) : Prop := -16 ≤ x ∧ x ≤ 9999 ∧ (dr = false → -15 < x) ∧ (b = false → ¬ (-13 ≤ x ∧ x ≤ -11))
def fine (M : Nat) (dr : Bool) (r : zR) : Prop := match r with
  | .inl (k, _) => k = 1 ∨ k = 2 ∨ k = 3 ∨ k = 5
  | .inr (l, b, _) => l ≠ [] ∧ (∀ k, k + M ≤ 64 → hgL l k = some (k + 1)) ∧ ∀ x ∈ l, tkB dr b x
theorem tkB_or {dr b c : Bool} {x : Int} (h : tkB dr b x) : tkB dr (b || c) x ∧ tkB dr (c || b) x := by
  obtain ⟨h1, h2, h3, h4⟩ := h
  refine ⟨⟨h1, h2, h3, fun z => h4 ?_⟩, ⟨h1, h2, h3, fun z => h4 ?_⟩⟩ <;> cases b <;> cases c <;> simp_all
theorem fine_mono {M N : Nat} {dr : Bool} {r : zR} (hMN : M ≤ N) (h : fine M dr r) : fine N dr r := by
  rcases r with ⟨k, q⟩ | ⟨l, b, q⟩
  · exact h
  · exact ⟨h.1, fun k hk => h.2.1 k (by omega), h.2.2⟩
theorem fine_bnd {M N : Nat} {dr : Bool} {r : zR} {f : List Int → Bool → Nat → zR} (h : fine M dr r) (hf : ∀ l b q, fine M dr (.inr (l, b, q)) → fine N dr (f l b q)) : fine N dr (bnd r f) := by
  rcases r with ⟨k, q⟩ | ⟨l, b, q⟩
  · exact h
  · exact hf l b q h
theorem fine_join {M N : Nat} {dr : Bool} {l l2 : List Int} {b b2 : Bool} {op : Int} {q q2 q3 : Nat} (hMN : M + 1 ≤ N) (h : fine N dr (.inr (l, b, q))) (h2 : fine M dr (.inr (l2, b2, q2))) (ho : op ≠ -3 ∧ -9 ≤ op ∧ op < 0) : fine N dr (.inr (l ++ (l2 ++ [op]), b || b2, q3)) := by
  refine ⟨fun z => h.1 (List.append_eq_nil_iff.mp z).1, fun k hk => ?_, fun x hx => ?_⟩
  · rw [hgL_app _ _ k (k + 1) (h.2.1 k hk), hgL_app _ _ (k + 1) (k + 1 + 1) (h2.2.1 (k + 1) (by omega))]
    show (match hg1 op (k + 1 + 1) with | none => none | some j => hgL [] j) = _
    unfold hg1
    rw [if_neg (by omega), if_neg ho.1, if_pos (by omega)]
    show some (k + 1 + 1 - 1) = _
    congr 1
  · rcases List.mem_append.mp hx with h9 | h9
    · exact (tkB_or (h.2.2 x h9)).1
    · rcases List.mem_append.mp h9 with h9 | h9
      · exact (tkB_or (h2.2.2 x h9)).2
      · rw [List.mem_singleton.mp h9]; exact ⟨by omega, by omega, fun _ => by omega, fun _ => by omega⟩
theorem fine_loop {T : Nat → Int} {n M N : Nat} {dr : Bool} {op : Nat → Int} {sub : Nat → zR} (hMN : M + 1 ≤ N) (hs : ∀ p, fine M dr (sub p)) (ho : ∀ p, op p ≠ 0 → op p ≠ -3 ∧ -9 ≤ op p ∧ op p < 0) : ∀ k l b p, fine N dr (.inr (l, b, p)) → fine N dr (loopP T n op sub k l b p) := by
  intro k
  induction k with
  | zero => intro l b p h; exact h
  | succ k ih =>
    intro l b p h
    rw [loopP_s]
    split
    · exact h
    · rename_i h0
      have h2 := hs (tB T n p)
      generalize sub (tB T n p) = r at h2
      rcases r with ⟨e, q⟩ | ⟨l2, b2, q⟩
      · exact h2
      · exact ih _ _ _ (fine_join hMN h h2 (ho p h0))
theorem op_r (T : Nat → Int) (n p : Nat) : (opMul T n p ≠ 0 → opMul T n p ≠ -3 ∧ -9 ≤ opMul T n p ∧ opMul T n p < 0) ∧ (opAdd T n p ≠ 0 → opAdd T n p ≠ -3 ∧ -9 ≤ opAdd T n p ∧ opAdd T n p < 0) ∧ (opAnd T n p ≠ 0 → opAnd T n p ≠ -3 ∧ -9 ≤ opAnd T n p ∧ opAnd T n p < 0) ∧ (opOr T n p ≠ 0 → opOr T n p ≠ -3 ∧ -9 ≤ opOr T n p ∧ opOr T n p < 0) ∧ (opTst T n p ≠ 0 → opTst T n p ≠ -3 ∧ -9 ≤ opTst T n p ∧ opTst T n p < 0) := by
  unfold opMul opAdd opAnd opOr opTst
  refine ⟨?_, ?_, ?_, ?_, ?_⟩ <;> (repeat' split) <;> omega
theorem valN_r (T : Nat → Int) (n : Nat) (dr : Bool) (p : Nat) : valN T n dr p = 0 ∨ (-16 ≤ valN T n dr p ∧ valN T n dr p ≤ -10 ∧ (dr = false → -15 < valN T n dr p)) := by
  unfold valN
  cases dr <;> (repeat' split) <;> simp_all
section
variable {T : Nat → Int} {n : Nat} {dr : Bool} {ex : Nat → zR} {M : Nat}
theorem fine_push {x : Int} {b : Bool} {q : Nat} (hM : 1 ≤ M) (hx : 0 ≤ x ∨ x < -9) (ht : tkB dr b x) : fine M dr (.inr ([x], b, q)) := by
  refine ⟨by simp, fun k hk => ?_, fun y hy => by rw [List.mem_singleton.mp hy]; exact ht⟩
  show (match hg1 x k with | none => none | some j => hgL [] j) = _
  unfold hg1
  rw [if_pos hx, if_pos (by omega)]; rfl
theorem fine_part (hT : ∀ i, i < n → 0 ≤ T i ∧ T i ≤ 255) (hM : 1 ≤ M) (he : ∀ p, fine M dr (ex p)) (p : Nat) : fine M dr (partP T n dr ex p) := by
  unfold partP
  split
  · refine fine_bnd (he _) (fun l b q h => ?_)
    split
    · exact h
    · exact Or.inl rfl
  · split
    · split
      · exact Or.inr (Or.inr (Or.inl rfl))
      · rename_i h0
        rcases valN_r T n dr p with h | ⟨h1, h2, h3⟩
        · exact absurd h h0
        · exact fine_push hM (by omega) ⟨h1, by omega, h3, fun z => of_decide_eq_false z⟩
    · split
      · split
        · exact Or.inr (Or.inl rfl)
        · rename_i h0
          have v1 := (tV_lo (T := T) (n := n) (p := p) hT).1
          have v2 := tV_4 (T := T) (n := n) (p := p) hT (by omega)
          exact fine_push hM (by omega) ⟨by omega, by omega, fun _ => by omega, fun _ => by omega⟩
      · exact Or.inl rfl
theorem fine_prod (hT : ∀ i, i < n → 0 ≤ T i ∧ T i ≤ 255) (hM : 1 ≤ M) (he : ∀ p, fine M dr (ex p)) (p : Nat) : fine (M + 1) dr (prodP T n dr ex p) := fine_bnd (fine_part hT hM he p) (fun l b q h => fine_loop (Nat.le_refl _) (fine_part hT hM he) (fun p => (op_r T n p).1) _ l b q (fine_mono (by omega) h))
theorem fine_sum (hT : ∀ i, i < n → 0 ≤ T i ∧ T i ≤ 255) (hM : 1 ≤ M) (he : ∀ p, fine M dr (ex p)) (p : Nat) : fine (M + 2) dr (sumP T n dr ex p) := fine_bnd (fine_prod hT hM he p) (fun l b q h => fine_loop (Nat.le_refl _) (fine_prod hT hM he) (fun p => (op_r T n p).2.1) _ l b q (fine_mono (by omega) h))
theorem fine_test (hT : ∀ i, i < n → 0 ≤ T i ∧ T i ≤ 255) (hM : 1 ≤ M) (he : ∀ p, fine M dr (ex p)) (p : Nat) : fine (M + 3) dr (testP T n dr ex p) := by
  refine fine_bnd (fine_sum hT hM he p) (fun l b q h => ?_)
  split
  · exact fine_mono (by omega) h
  · rename_i h0
    have h2 := fine_sum hT hM he (tB T n q)
    generalize sumP T n dr ex (tB T n q) = r at h2
    rcases r with ⟨e, q2⟩ | ⟨l2, b2, q2⟩
    · exact h2
    · exact fine_join (Nat.le_refl _) (fine_mono (by omega) h) h2 ((op_r T n q).2.2.2.2 h0)
theorem hgL_not : ∀ m k, 1 ≤ k → hgL (List.replicate m (-3)) k = some k := by
  intro m
  induction m with
  | zero => intro k _; rfl
  | succ m ih =>
    intro k hk
    rw [List.replicate_succ]
    unfold hgL hg1
    rw [if_neg (by decide), if_pos rfl, if_pos hk]
    exact ih k hk
theorem fine_not (hT : ∀ i, i < n → 0 ≤ T i ∧ T i ≤ 255) (hM : 1 ≤ M) (he : ∀ p, fine M dr (ex p)) (p : Nat) : fine (M + 3) dr (notP T n dr ex p) := by
  unfold notP
  split
  · exact Or.inr (Or.inl rfl)
  · refine fine_bnd (fine_test hT hM he _) (fun l b q h => ⟨fun z => h.1 (List.append_eq_nil_iff.mp z).1, fun k hk => ?_, fun x hx => ?_⟩)
    · rw [hgL_app _ _ k (k + 1) (h.2.1 k hk)]; exact hgL_not _ _ (by omega)
    · rcases List.mem_append.mp hx with h9 | h9
      · exact h.2.2 x h9
      · rw [(List.mem_replicate.mp h9).2]; exact ⟨by decide, by decide, fun _ => by decide, fun _ => by decide⟩
theorem fine_and (hT : ∀ i, i < n → 0 ≤ T i ∧ T i ≤ 255) (hM : 1 ≤ M) (he : ∀ p, fine M dr (ex p)) (p : Nat) : fine (M + 4) dr (andP T n dr ex p) := fine_bnd (fine_not hT hM he p) (fun l b q h => fine_loop (Nat.le_refl _) (fine_not hT hM he) (fun p => (op_r T n p).2.2.1) _ l b q (fine_mono (by omega) h))
theorem fine_or (hT : ∀ i, i < n → 0 ≤ T i ∧ T i ≤ 255) (hM : 1 ≤ M) (he : ∀ p, fine M dr (ex p)) (p : Nat) : fine (M + 5) dr (orP T n dr ex p) := fine_bnd (fine_and hT hM he p) (fun l b q h => fine_loop (Nat.le_refl _) (fine_and hT hM he) (fun p => (op_r T n p).2.2.2.1) _ l b q (fine_mono (by omega) h))
theorem fine_expr (hT : ∀ i, i < n → 0 ≤ T i ∧ T i ≤ 255) : ∀ d p, fine (5 * d + 1) dr (exprP T n dr d p) := by
  intro d
  induction d with
  | zero => intro p; show (if _ then (2 : Int) else 1) = 1 ∨ _; split <;> simp
  | succ d ih => intro p; exact fine_mono (by omega) (fine_or hT (by omega) ih p)
end
theorem evT_len {env : Int → Int} {x : Int} {st : List Int} {j : Nat} (h : hg1 x st.length = some j) : (evT env x st).length = j := by
  unfold hg1 at h
  unfold evT
  by_cases h1 : 0 ≤ x ∨ x < -9
  · rw [if_pos h1] at h ⊢
    split at h
    · cases h; rfl
    · cases h
  · rw [if_neg h1] at h ⊢
    by_cases h2 : x = -3
    · rw [if_pos h2] at h ⊢
      match st with
      | [] => simp at h
      | y :: r => simp at h; simpa using h
    · rw [if_neg h2] at h ⊢
      match st with
      | [] => simp at h
      | [y] => simp at h
      | y :: z :: r => simp at h; simp; omega
theorem take_s {l : List Int} {i : Nat} (hi : i < l.length) : l.take (i + 1) = l.take i ++ [l.getD i 0] := by
  rw [List.take_succ, List.getD_eq_getElem?_getD]
  rw [List.getElem?_eq_getElem hi]; rfl
theorem evN_len {env : Int → Int} {tk : Nat → Int} {fr : Nat} {l : List Int} (ht : ∀ i, i < l.length → tk (fr + i) = l.getD i 0) {j : Nat} (h : hgL l 0 = some j) : ∀ i, i ≤ l.length → hgL (l.take i) 0 = some (evN env tk fr i).length := by
  intro i
  induction i with
  | zero => intro _; rfl
  | succ i ih =>
    intro hi
    have h1 := ih (by omega)
    rw [← List.take_append_drop (i + 1) l] at h
    obtain ⟨k, h2, -⟩ := hgL_pre _ _ _ _ h
    rw [h2]
    rw [take_s (by omega), hgL_app _ _ _ _ h1] at h2
    show some k = some (evT env (tk (fr + i)) (evN env tk fr i)).length
    rw [ht i (by omega)]
    unfold hgL at h2
    cases e : hg1 (l.getD i 0) (evN env tk fr i).length with
    | none => rw [e] at h2; cases h2
    | some m =>
      rw [e] at h2
      rw [evT_len e]
      exact h2.symm
theorem wf_of {tk : Nat → Int} {fr : Nat} {l : List Int} {dr b : Bool} (ht : ∀ i, i < l.length → tk (fr + i) = l.getD i 0) (hl : ∀ k, k + 31 ≤ 64 → hgL l k = some (k + 1)) (hx : ∀ x ∈ l, tkB dr b x) (env : Int → Int) : wfN env tk fr l.length := by
  intro i hi
  have h0 := hl 0 (by omega)
  have h1 := evN_len (env := env) ht h0 i (by omega)
  have h2 := evN_len (env := env) ht h0 (i + 1) (by omega)
  have hm : l.getD i 0 ∈ l := by rw [List.getD_eq_getElem?_getD, List.getElem?_eq_getElem hi]; exact List.getElem_mem hi
  have hk := hx _ hm
  rw [ht i hi]
  rw [take_s hi, hgL_app _ _ _ _ h1] at h2
  unfold hgL at h2
  cases e : hg1 (l.getD i 0) (evN env tk fr i).length with
  | none => rw [e] at h2; cases h2
  | some m =>
    clear h2
    unfold hg1 at e
    refine ⟨hk.1, hk.2.1, fun z => ?_, fun z => ?_, fun z z2 => ?_⟩
    · rw [if_pos z] at e
      split at e
      · assumption
      · cases e
    · rw [if_neg (by omega), if_pos z] at e
      split at e
      · assumption
      · cases e
    · rw [if_neg z, if_neg z2] at e
      split at e
      · assumption
      · cases e
theorem ev_one {tk : Nat → Int} {fr : Nat} {l : List Int} (ht : ∀ i, i < l.length → tk (fr + i) = l.getD i 0) (hl : hgL l 0 = some 1) (env : Int → Int) : (evN env tk fr l.length).length = 1 := by
  have h1 := evN_len (env := env) ht hl l.length (Nat.le_refl _)
  rw [List.take_length, hl] at h1
  exact (Option.some.inj h1).symm
end
