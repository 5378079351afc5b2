/-! A CASE as numbers: pushing, stirring, blowing, drinking, reading -/
def pushS (hand lev : Int) : Int := (hand - 6) * (lev / 10)
def stirS (p push w : Int) : Int := (p + push.tdiv w) % 12
theorem stirS_lo (p push w : Int) : 0 ≤ stirS p push w ∧ stirS p push w < 12 := ⟨Int.emod_nonneg _ (by decide), Int.emod_lt_of_pos _ (by decide)⟩
theorem stirS_0 {p w : Int} (h0 : 0 ≤ p) (h1 : p < 12) : stirS p 0 w = p := by unfold stirS; rw [Int.zero_tdiv, Int.add_zero]; exact Int.emod_eq_of_lt h0 h1
def stirP (p w : Nat → Int) (push : Int) (n : Nat) : Nat → Int := fun l => if l < n then stirS (p l) push (w l) else p l
theorem pushS_r {a b : Int} (ha : 0 ≤ a ∧ a ≤ 12) (hb : 0 ≤ b ∧ b ≤ 99) : -54 ≤ pushS a b ∧ pushS a b ≤ 54 := by
  unfold pushS
  have h1 : 0 ≤ b / 10 ∧ b / 10 ≤ 9 := by omega
  have h2 : -6 ≤ a - 6 ∧ a - 6 ≤ 6 := by omega
  generalize b / 10 = y at *
  generalize a - 6 = x at *
  rcases (show y = 0 ∨ y = 1 ∨ y = 2 ∨ y = 3 ∨ y = 4 ∨ y = 5 ∨ y = 6 ∨ y = 7 ∨ y = 8 ∨ y = 9 by omega) with rfl | rfl | rfl | rfl | rfl | rfl | rfl | rfl | rfl | rfl <;> omega
def hitB (q : Nat → Int) (v : Int) : Nat → Bool
  | 0 => false
  | m + 1 => hitB q v m || decide (q m = v)
theorem hitB_s (q : Nat → Int) (v : Int) (m : Nat) : hitB q v (m + 1) = (hitB q v m || decide (q m = v)) := rfl
theorem hitB_mono {q : Nat → Int} {v : Int} {m : Nat} (h : hitB q v m = true) : ∀ k, hitB q v (m + k) = true := by
  intro k
  induction k with
  | zero => exact h
  | succ k ih => show hitB q v (m + k + 1) = true; rw [hitB_s, ih]; rfl
def blowP (p : Nat → Int) : Nat → Nat → Int
  | 0 => p
  | m + 1 => if hitB (blowP p m) (blowP p m m) m = true then (fun l => if l = m then (blowP p m m + 1) % 12 else blowP p m l) else blowP p m
theorem blowP_s (p : Nat → Int) (m : Nat) : blowP p (m + 1) = if hitB (blowP p m) (blowP p m m) m = true then (fun l => if l = m then (blowP p m m + 1) % 12 else blowP p m l) else blowP p m := rfl
theorem blowP_1 (p : Nat → Int) : blowP p 1 = p := by rw [blowP_s]; rfl
theorem blowP_lo {p : Nat → Int} {n : Nat} (hp : ∀ l, l < n → 0 ≤ p l ∧ p l < 12) : ∀ m l, l < n → 0 ≤ blowP p m l ∧ blowP p m l < 12 := by
  intro m
  induction m with
  | zero => exact hp
  | succ m ih =>
    intro l hl
    rw [blowP_s]
    split
    · dsimp only
      split
      · exact ⟨Int.emod_nonneg _ (by decide), Int.emod_lt_of_pos _ (by decide)⟩
      · exact ih l hl
    · exact ih l hl
theorem stirP_lo {p w : Nat → Int} {push : Int} {n : Nat} : ∀ l, l < n → 0 ≤ stirP p w push n l ∧ stirP p w push n l < 12 := fun l hl => by
  unfold stirP; rw [if_pos hl]; exact stirS_lo _ _ _
theorem zup_zst {h : zH} {k i : Nat} {f : Nat → Int} {v : Int} : zup (zst h k f) k i v = zst h k (fun j => if j = i then v else f j) := by
  funext c j
  unfold zup zst
  by_cases hc : c = k
  · subst hc; simp
  · simp [hc]
theorem zst_self (h : zH) (k : Nat) : zst h k (h k) = h := by
  funext c; unfold zst; split
  · rename_i e; rw [e]
  · rfl
/-- a rule's value by what it may name -/
def ruleV (h : zH) (t ru : Nat) (env : Int → Int) : Int := (evN env (h (t + 7)) (h (t + 8) ru).toNat ((h (t + 9) ru).toNat - (h (t + 8) ru).toNat)).headD 0
/-- a rule as a court keeps it -/
def ruleOK (h : zH) (t ru : Nat) : Prop := h (t + 10) ru = 0 ∨ (h (t + 10) ru = 1 ∧ ∃ fr mm : Nat, h (t + 8) ru = (fr : Int) ∧ h (t + 9) ru = ((fr + mm : Nat) : Int) ∧ fr + mm ≤ 700 ∧ (h (t + 11) ru = 0 ∨ h (t + 11) ru = 1) ∧
  (∀ env, wfN env (h (t + 7)) fr mm) ∧ (h (t + 11) ru = 0 → ∀ i, i < mm → ¬ (-13 ≤ h (t + 7) (fr + i) ∧ h (t + 7) (fr + i) ≤ -11)))
theorem evN_congr {e1 e2 : Int → Int} {tk : Nat → Int} {fr : Nat} : ∀ m, (∀ i, i < m → tk (fr + i) < -9 → e1 (tk (fr + i)) = e2 (tk (fr + i))) → evN e1 tk fr m = evN e2 tk fr m := by
  intro m
  induction m with
  | zero => intro _; rfl
  | succ m ih =>
    intro he
    show evT e1 (tk (fr + m)) (evN e1 tk fr m) = evT e2 (tk (fr + m)) (evN e2 tk fr m)
    rw [ih (fun i hi => he i (by omega))]
    unfold evT
    by_cases h1 : 0 ≤ tk (fr + m) ∨ tk (fr + m) < -9
    · rw [if_pos h1, if_pos h1]
      by_cases h2 : 0 ≤ tk (fr + m)
      · rw [if_pos h2, if_pos h2]
      · rw [if_neg h2, if_neg h2, he m (by omega) (by omega)]
    · rw [if_neg h1, if_neg h1]
theorem evN_r {env : Int → Int} {tk : Nat → Int} {fr m : Nat} (he : ∀ v, -2147483648 ≤ env v ∧ env v ≤ 2147483647) (hw : wfN env tk fr m) : -2147483648 ≤ (evN env tk fr m).headD 0 ∧ (evN env tk fr m).headD 0 ≤ 2147483647 := by
  have := rng_evN he hw m (Nat.le_refl _)
  cases e : evN env tk fr m with
  | nil => simp
  | cons x r => rw [e] at this; exact this x List.mem_cons_self
theorem envS_r {lev mo wh od ca th se : Int} (h1 : -2147483648 ≤ lev ∧ lev ≤ 2147483647) (h2 : -2147483648 ≤ mo ∧ mo ≤ 2147483647) (h3 : -2147483648 ≤ wh ∧ wh ≤ 2147483647) (h4 : -2147483648 ≤ od ∧ od ≤ 2147483647) (h5 : -2147483648 ≤ ca ∧ ca ≤ 2147483647) (h6 : -2147483648 ≤ th ∧ th ≤ 2147483647) (h7 : -2147483648 ≤ se ∧ se ≤ 2147483647) (v : Int) :
    -2147483648 ≤ envS lev mo wh od ca th se v ∧ envS lev mo wh od ca th se v ≤ 2147483647 := by
  unfold envS
  repeat' split
  all_goals omega
theorem surv_r (p : Nat → Int) {n : Nat} (hn : n ≤ 8) : (0 ≤ mostS p n ∧ mostS p n ≤ 8) ∧ (0 ≤ whereS p n ∧ whereS p n ≤ 11) ∧ (0 ≤ oddS p n ∧ oddS p n ≤ 8) := by
  have g1 := mwS_lo p n 12
  have g2 := oddS_lo p n
  unfold mostS whereS
  omega
/-- what a rule may name, the leaves lying so -/
def envL (p : Nat → Int) (n : Nat) (lev ca th se : Int) : Int → Int := envS lev (mostS p n) (whereS p n) (oddS p n) ca th se
/-- a judge at the seat s: leaves, level, sips -/
def seatStep (n jn : Nat) (seats hands thirsts w barr : Nat → Int) (dt : Int) (dv : (Int → Int) → Int) (ca : Int) (s : Nat) (x : (Nat → Int) × Int × (Nat → Int)) : (Nat → Int) × Int × (Nat → Int) :=
  let j := (seats s).toNat
  let wanted := if dt = 0 then thirsts j else dv (envL x.1 n x.2.1 ca (thirsts j) s)
  let sip := if s + 1 = jn then 0 else max 0 (min wanted x.2.1)
  let p1 := stirP x.1 w (pushS (hands j) (x.2.1 - sip)) n
  ((if barr j = 0 then p1 else blowP p1 n), x.2.1 - sip, fun i => if i = j then sip else x.2.2 i)
def seatsN (n jn : Nat) (seats hands thirsts w barr : Nat → Int) (dt : Int) (dv : (Int → Int) → Int) (ca : Int) (x : (Nat → Int) × Int × (Nat → Int)) : Nat → (Nat → Int) × Int × (Nat → Int)
  | 0 => x
  | s + 1 => seatStep n jn seats hands thirsts w barr dt dv ca s (seatsN n jn seats hands thirsts w barr dt dv ca x s)
/-- the verdict -/
def verdS (p : Nat → Int) (n : Nat) (lev ca : Int) (rt : Int) (rv : (Int → Int) → Int) : Int := (if rt = 0 then whereS p n + mostS p n else rv (envL p n lev ca 0 0)) % 5
