/-! THE CLERK: a text taken down; the court -/
def tdBad (h : zH) (T : Nat → Int) (n : Nat) (R : (Int × Nat) ⊕ zDf) : Prop := ∃ k q, R = .inl (k, q) ∧ h 14 9 = k ∧ h 14 4 = (tA T n q : Int)
def tdOk (h : zH) (T : Nat → Int) (n u i p : Nat) (D : zDf) (R : (Int × Nat) ⊕ zDf) : Prop := h 14 9 = 0 ∧ i ≤ p ∧ (∃ c : Nat, preD h T n u c D p) ∧ R = textP T n (n + 1 - i) D p
def tdQ (h : zH) (T : Nat → Int) (n u : Nat) (R : (Int × Nat) ⊕ zDf) : Option Value → zH → Prop := fun r h' => ((∀ c2 : Nat, c2 ≠ 14 → (c2 < u ∨ u + 11 < c2) → h' c2 = h c2) ∧ h' 14 2 = (u : Int)) ∧ match R with
  | .inl (k, q) => r = some (ziv k) ∧ h' 14 4 = (tA T n q : Int)
  | .inr D => r = some (ziv 0) ∧ ∃ c : Nat, c ≤ 700 ∧ drf h' u c D
theorem textP_s (T : Nat → Int) (n k : Nat) (D : zDf) (p : Nat) : textP T n (k + 1) D p = if tK T n p = 0 then .inr D else match lineP T n D p with
    | .inl e => .inl e
    | .inr (D2, q) => if isS T n q 59 = true then textP T n k D2 (tB T n q) else .inl (1, q) := rfl
theorem num_ge {T : Nat → Int} {n : Nat} {lo hi : Int} {p q : Nat} {a : Int} (hp : p ≤ n) (h : numP T n lo hi p = .inr (a, q)) : p ≤ q ∧ q ≤ n ∧ lo ≤ a ∧ a ≤ hi := by
  have tl := tB_lo (T := T) hp
  have ta := tA_lo (T := T) hp
  unfold numP at h
  split at h
  · split at h
    · rename_i h1
      simp only [Sum.inr.injEq, Prod.mk.injEq] at h
      obtain ⟨rfl, rfl⟩ := h
      exact ⟨by omega, tl.2.1, h1.2.1, h1.2.2⟩
    · cases h
  · cases h
theorem num_k {T : Nat → Int} {n : Nat} {lo hi : Int} {p q : Nat} {k : Int} (h : numP T n lo hi p = .inl (k, q)) : k = 1 ∨ k = 2 := by
  unfold numP at h
  split at h
  · split at h
    · cases h
    · simp only [Sum.inl.injEq, Prod.mk.injEq] at h; omega
  · simp only [Sum.inl.injEq, Prod.mk.injEq] at h; omega
/-- what a draft holds is as told -/
def dfOK (D : zDf) : Prop := D.1.length ≤ 8 ∧ (∀ x ∈ D.1, (0 ≤ x.1 ∧ x.1 ≤ 11) ∧ 1 ≤ x.2 ∧ x.2 ≤ 9) ∧ D.2.1.length ≤ 8 ∧ (∀ x ∈ D.2.1, (0 ≤ x.1 ∧ x.1 ≤ 30) ∧ (0 ≤ x.2.1 ∧ x.2.1 ≤ 12) ∧ (0 ≤ x.2.2.1 ∧ x.2.2.1 ≤ 4) ∧ (x.2.2.2 = 0 ∨ x.2.2.2 = 1)) ∧ (0 ≤ D.2.2.1 ∧ D.2.2.1 ≤ 99) ∧
  ∀ ru, ru < 2 → ∀ x, ruO D ru = some x → fine 31 (decide (ru = 0)) (.inr (x.1, x.2, 0))
def linOK (n p : Nat) (r : zRD) : Prop := match r with
  | .inl (k, _) => k = 1 ∨ k = 2 ∨ k = 3 ∨ k = 5
  | .inr (D, q) => dfOK D ∧ p ≤ q ∧ q ≤ n
theorem lin_bn2 {T : Nat → Int} {n p p0 : Nat} {lo hi : Int} {f : Int → Nat → zRD} (hp : p ≤ n) (h0 : p0 ≤ p) (hf : ∀ a q, p ≤ q → q ≤ n → lo ≤ a → a ≤ hi → linOK n p0 (f a q)) : linOK n p0 (bn2 (numP T n lo hi p) f) := by
  cases e : numP T n lo hi p with
  | inl x =>
    obtain ⟨k, q⟩ := x
    have := num_k e
    show k = 1 ∨ k = 2 ∨ k = 3 ∨ k = 5
    omega
  | inr x =>
    obtain ⟨a, q⟩ := x
    obtain ⟨h1, h2, h3, h4⟩ := num_ge hp e
    exact hf a q h1 h2 h3 h4
theorem line_ok {T : Nat → Int} {n p : Nat} {D : zDf} (hT : ∀ i, i < n → 0 ≤ T i ∧ T i ≤ 255) (hp : p ≤ n) (hD : dfOK D) : linOK n p (lineP T n D p) := by
  have tl := tB_lo (T := T) hp
  have ta := tA_lo (T := T) hp
  obtain ⟨d1, d2, d3, d4, d5, d6⟩ := hD
  have hj : ∀ br : Int, (br = 0 ∨ br = 1) → linOK n p (judP T n D br p) := by
    intro br hbr
    unfold judP
    split
    · exact Or.inr (Or.inl rfl)
    · refine lin_bn2 tl.2.1 (by omega) (fun a q a1 a2 a3 a4 => lin_bn2 a2 (by omega) (fun b q2 b1 b2 b3 b4 => lin_bn2 b2 (by omega) (fun c q3 c1 c2 c3 c4 => ⟨⟨d1, d2, by simp; omega, fun x hx => ?_, d5, d6⟩, by omega, c2⟩)))
      rcases List.mem_append.mp hx with h | h
      · exact d4 x h
      · rw [List.mem_singleton.mp h]; exact ⟨⟨a3, a4⟩, ⟨b3, b4⟩, ⟨c3, c4⟩, hbr⟩
  have hr : ∀ ru, ru < 2 → linOK n p (rulP T n D ru p) := by
    intro ru hru
    unfold rulP
    split
    · exact Or.inr (Or.inr (Or.inr rfl))
    · have h1 := fine_expr (T := T) (n := n) (dr := decide (ru = 0)) hT 6 (tB T n p)
      have h2 := good_expr (T := T) (n := n) (dr := decide (ru = 0)) 6 (tB T n p) tl.2.1
      generalize exprP T n (decide (ru = 0)) 6 (tB T n p) = r at h1 h2
      rcases r with ⟨k, q⟩ | ⟨l, b, q⟩
      · exact h1
      · obtain ⟨s1, s2, s3, s4⟩ := setR_1 D ru (l, b)
        have h21 : tB T n p + l.length ≤ q := h2.1
        refine ⟨⟨by rw [s1]; exact d1, by rw [s1]; exact d2, by rw [s2]; exact d3, by rw [s2]; exact d4, by rw [s3]; exact d5, fun r2 hr2 x hx => ?_⟩, by omega, h2.2.2⟩
        rw [ruO_set D ru r2 _ hru hr2] at hx
        by_cases e : r2 = ru
        · rw [if_pos e] at hx
          cases hx
          rw [e]; exact h1
        · rw [if_neg e] at hx; exact d6 r2 hr2 x hx
  unfold lineP
  split
  · unfold leafP
    split
    · exact Or.inr (Or.inl rfl)
    · refine lin_bn2 tl.2.1 (by omega) (fun a q a1 a2 a3 a4 => lin_bn2 a2 (by omega) (fun b q2 b1 b2 b3 b4 => ⟨⟨by simp; omega, fun x hx => ?_, d3, d4, d5, d6⟩, by omega, b2⟩))
      rcases List.mem_append.mp hx with h | h
      · exact d2 x h
      · rw [List.mem_singleton.mp h]; exact ⟨⟨a3, a4⟩, b3, b4⟩
  · split
    · exact hj 0 (Or.inl rfl)
    · split
      · exact hj 1 (Or.inr rfl)
      · split
        · unfold potP
          split
          · exact Or.inr (Or.inr (Or.inr rfl))
          · exact lin_bn2 tl.2.1 (by omega) (fun a q a1 a2 a3 a4 => ⟨⟨d1, d2, d3, d4, ⟨a3, a4⟩, d6⟩, by omega, a2⟩)
        · split
          · exact hr 0 (by decide)
          · split
            · exact hr 1 (by decide)
            · exact Or.inl rfl
def txtOK (r : (Int × Nat) ⊕ zDf) : Prop := match r with
  | .inl (k, _) => k = 1 ∨ k = 2 ∨ k = 3 ∨ k = 5
  | .inr D => dfOK D
theorem text_ok {T : Nat → Int} {n : Nat} (hT : ∀ i, i < n → 0 ≤ T i ∧ T i ≤ 255) : ∀ k D p, p ≤ n → dfOK D → txtOK (textP T n k D p) := by
  intro k
  induction k with
  | zero => intro D p _ hD; exact hD
  | succ k ih =>
    intro D p hp hD
    rw [textP_s]
    split
    · exact hD
    · have h1 := line_ok hT hp hD
      generalize lineP T n D p = r at h1
      rcases r with ⟨e, q⟩ | ⟨D2, q⟩
      · exact h1
      · show txtOK (if isS T n q 59 = true then textP T n k D2 (tB T n q) else .inl (1, q))
        split
        · exact ih D2 _ (tB_lo h1.2.2).2.1 h1.1
        · exact Or.inl rfl
theorem df0_ok : dfOK df0 := ⟨by decide, fun x hx => (List.not_mem_nil hx).elim, by decide, fun x hx => (List.not_mem_nil hx).elim, by decide, fun ru _ x hx => by unfold ruO df0 at hx; split at hx <;> cases hx⟩
/-- a court as its draft tells it -/
theorem court_of {h : zH} {t c : Nat} {D : zDf} (ht : isCourt t) (hc : c ≤ 700) (hD : drf h t c D) (ho : dfOK D) : courtOK h t D.1.length D.2.1.length := by
  obtain ⟨⟨d1, d2⟩, ⟨d3, d4⟩, d5, d6, d7, d8⟩ := hD
  obtain ⟨o1, o2, o3, o4, o5, o6⟩ := ho
  refine ⟨ht, o1, o3, d1, d3, fun l hl => ?_, fun j hj => ?_, fun ru hru => ?_⟩
  · rw [(d2 l hl).2]
    refine (o2 (D.1.getD l (0, 0)) ?_).2
    rw [List.getD_eq_getElem?_getD, List.getElem?_eq_getElem hl]; exact List.getElem_mem hl
  · rw [(d4 j hj).2.2.2]
    refine (o4 (D.2.1.getD j (0, 0, 0, 0)) ?_).2.2.2
    rw [List.getD_eq_getElem?_getD, List.getElem?_eq_getElem hj]; exact List.getElem_mem hj
  · have h0 := d8 ru hru
    have h1 := o6 ru hru
    cases e : ruO D ru with
    | none => rw [e] at h0; exact Or.inl h0.1
    | some x =>
      obtain ⟨l, b⟩ := x
      rw [e] at h0
      have h2 := h1 (l, b) e
      obtain ⟨a1, a2, fr, a3, a4, a5, a6⟩ := h0
      refine Or.inr ⟨a1, fr, l.length, a3, a4, by omega, by rw [a2]; split; exact Or.inr rfl; exact Or.inl rfl, fun env => wf_of a6 h2.2.1 h2.2.2 env, fun z i hi => ?_⟩
      have hb : b = false := by
        cases b
        · rfl
        · rw [a2] at z; exact absurd z (by decide)
      rw [a6 i hi]
      have hm : l.getD i 0 ∈ l := by rw [List.getD_eq_getElem?_getD, List.getElem?_eq_getElem hi]; exact List.getElem_mem hi
      exact (h2.2.2 _ hm).2.2.2 hb

theorem drf_cg {h h1 : zH} {u c : Nat} {D : zDf} (eo : ∀ o, o ≤ 11 → h1 (u + o) = h (u + o)) (hD : drf h u c D) : drf h1 u c D := by
  have e0 : h1 u = h u := eo 0 (by omega)
  obtain ⟨⟨d1, d2⟩, ⟨d3, d4⟩, d5, d6, d7, d8⟩ := hD
  exact ⟨⟨by rw [e0]; exact d1, fun i hi => by rw [eo 1 (by omega), eo 2 (by omega)]; exact d2 i hi⟩, ⟨by rw [e0]; exact d3, fun i hi => by rw [eo 3 (by omega), eo 4 (by omega), eo 5 (by omega), eo 6 (by omega)]; exact d4 i hi⟩, by rw [e0]; exact d5, by rw [e0]; exact d6, by rw [e0]; exact d7, fun ru hru => rlf_congr (Nat.le_refl _) (by rw [eo 8 (by omega)]) (by rw [eo 9 (by omega)]) (by rw [eo 10 (by omega)]) (by rw [eo 11 (by omega)]) (fun i _ => by rw [eo 7 (by omega)]) (d8 ru hru)⟩
def linGe (n p : Nat) (r : zRD) : Prop := match r with
  | .inl _ => True
  | .inr (_, q) => p ≤ q ∧ q ≤ n
theorem ge_bn2 {T : Nat → Int} {n p p0 : Nat} {lo hi : Int} {f : Int → Nat → zRD} (hp : p ≤ n) (h0 : p0 ≤ p) (hf : ∀ a q, p ≤ q → q ≤ n → linGe n p0 (f a q)) : linGe n p0 (bn2 (numP T n lo hi p) f) := by
  cases e : numP T n lo hi p with
  | inl x => trivial
  | inr x =>
    obtain ⟨a, q⟩ := x
    obtain ⟨h1, h2, h3, h4⟩ := num_ge hp e
    exact hf a q h1 h2
theorem line_ge {T : Nat → Int} {n p q : Nat} {D D2 : zDf} (hp : p ≤ n) (h : lineP T n D p = .inr (D2, q)) : p ≤ q := by
  have tl := tB_lo (T := T) hp
  have ta := tA_lo (T := T) hp
  have hr : ∀ ru, linGe n p (rulP T n D ru p) := by
    intro ru
    unfold rulP
    split
    · trivial
    · have h2 := good_expr (T := T) (n := n) (dr := decide (ru = 0)) 6 (tB T n p) tl.2.1
      generalize exprP T n (decide (ru = 0)) 6 (tB T n p) = r at h2
      rcases r with ⟨k, q⟩ | ⟨l, b, q⟩
      · trivial
      · exact ⟨by have := h2.1; omega, h2.2.2⟩
  have hj : ∀ br, linGe n p (judP T n D br p) := by
    intro br
    unfold judP
    split
    · trivial
    · exact ge_bn2 tl.2.1 (by omega) (fun a q a1 a2 => ge_bn2 a2 (by omega) (fun b q2 b1 b2 => ge_bn2 b2 (by omega) (fun c q3 c1 c2 => ⟨by omega, c2⟩)))
  have : linGe n p (lineP T n D p) := by
    unfold lineP
    split
    · unfold leafP
      split
      · trivial
      · exact ge_bn2 tl.2.1 (by omega) (fun a q a1 a2 => ge_bn2 a2 (by omega) (fun b q2 b1 b2 => ⟨by omega, b2⟩))
    · split
      · exact hj 0
      · split
        · exact hj 1
        · split
          · unfold potP
            split
            · trivial
            · exact ge_bn2 tl.2.1 (by omega) (fun a q a1 a2 => ⟨by omega, a2⟩)
          · split
            · exact hr 0
            · split
              · exact hr 1
              · trivial
  rw [h] at this
  exact this.1

set_option maxRecDepth 100000 in
theorem c0_takeDown {E : zE} {h : zH} {n u : Nat} {d k : Nat} (hn7 : n ≤ 700) (hu : isCourt u) (hu2 : h 14 2 = (u : Int)) (hT : ∀ i, i < n → 0 ≤ h 1 i ∧ h 1 i ≤ 255) (hd : 62 ≤ d) : zCal E mX0_takeDown d k [zrv E 14, zrv E 1, ziv (n : Int)] h (tdQ h (h 1) n u (textP (h 1) n (n + 1) df0 0)) (fun _ _ => False) := by
  refine zCal_of (by decide) (Nat.le_of_ble_eq_true rfl) (fun a => ?_)
  show zV _ 0 0 [zrv E 14, zrv E 1, ziv (n : Int), .null, .null] [] _
  have hu9 : u = 2 ∨ u = 16 := hu
  refine zV_aload_nr dX0_takeDown_0 rfl rfl ?_
  refine zV_aload_nr dX0_takeDown_1 rfl rfl ?_
  refine pf0_9 rfl (rfl) dX0_takeDown_2 ?_
  refine zV_aload_nr dX0_takeDown_5 rfl rfl ?_
  refine zV_iconst dX0_takeDown_6 ?_
  refine zV_iload_n dX0_takeDown_7 rfl rfl ?_
  refine zV_aload_nr dX0_takeDown_8 rfl rfl ?_
  refine gf0_9 (t := 1) ((by rw [zup_at, if_pos rfl])) rfl (rfl) dX0_takeDown_9 ?_
  refine zV_alen (t := 0) (N := 700) (rfl) dX0_takeDown_12 ?_
  refine zV_callS (As := [ziv (n : Int), ziv ((700 : Nat) : Int)]) lk0_22 (cJ_min (d - 1) 0 (by omega) (by omega)) ⟨by show _ + 1 ≤ d; omega, by show _ ≤ k; omega⟩ rfl (Nat.le_of_ble_eq_true rfl) dX0_takeDown_13 (fun _ _ z => z.elim) (fun r h9 q => ?_)
  obtain ⟨rfl, hh⟩ := q
  rw [hh]
  rw [show min (n : Int) ((700 : Nat) : Int) = (n : Int) by omega]
  refine zV_callS (As := [ziv 0, ziv (n : Int)]) lk0_28 (cJ_max (d - 1) 0 (by omega) (by omega)) ⟨by show _ + 1 ≤ d; omega, by show _ ≤ k; omega⟩ rfl (Nat.le_of_ble_eq_true rfl) dX0_takeDown_16 (fun _ _ z => z.elim) (fun r h9 q => ?_)
  obtain ⟨rfl, hh⟩ := q
  rw [hh]
  rw [show max 0 (n : Int) = (n : Int) by omega]
  refine pf0_31 rfl (rfl) dX0_takeDown_19 ?_
  refine zV_aload_nr dX0_takeDown_22 rfl rfl ?_
  refine gf0_18 (t := u) ((by rw [zup_at, if_neg (by decide), zup_at, if_neg (by decide)]; exact hu2)) rfl (rfl) dX0_takeDown_23 ?_
  refine zV_callV (As := []) lk0_35 (court_0 hu) rfl rfl (c1_clear (d - 1) 0 hu) ⟨by show _ + 1 ≤ d; omega, by show _ ≤ k; omega⟩ rfl (Nat.le_of_ble_eq_true rfl) dX0_takeDown_26 (fun _ _ z => z.elim) (fun r h3 q => ?_)
  obtain ⟨rfl, c0, c1, c2, c3, c4, c5, c6, c7⟩ := q
  refine zV_aload_nr dX0_takeDown_29 rfl rfl ?_
  refine zV_iconst dX0_takeDown_30 ?_
  refine pf0_38 rfl (rfl) dX0_takeDown_31 ?_
  refine zV_aload_nr dX0_takeDown_34 rfl rfl ?_
  refine zV_iconst dX0_takeDown_35 ?_
  refine pf0_41 rfl (rfl) dX0_takeDown_36 ?_
  refine zV_aload_nr dX0_takeDown_39 rfl rfl ?_
  have e3 : ∀ j, h3 14 j = zup (zup h 14 0 ((1 : Nat) : Int)) 14 1 (n : Int) 14 j := fun j => by rw [c0 14 (by omega) (by omega) (by omega)]
  have o3 : ∀ c2 : Nat, c2 ≠ 14 → (c2 < u ∨ u + 11 < c2) → h3 c2 = h c2 := fun c2 a b => by rw [c0 c2 (by omega) (by omega) (by omega), zup_fn a, zup_fn a]
  have k5 : clk (zup (zup h3 14 5 0) 14 9 0) (h 1) n u := ⟨by rw [zup_at, if_neg (by decide), zup_at, if_neg (by decide), e3, zup_at, if_neg (by decide), zup_at, if_pos rfl], by rw [zup_at, if_neg (by decide), zup_at, if_neg (by decide), e3, zup_at, if_pos rfl], hn7, by rw [zup_at, if_neg (by decide), zup_at, if_neg (by decide), e3, zup_at, if_neg (by decide), zup_at, if_neg (by decide)]; exact hu2, hu, by rw [zup_fn (by decide), zup_fn (by decide)]; exact o3 1 (by decide) (by omega), hT⟩
  refine zV_callV (As := []) lk0_44 (rfl) rfl rfl (c0_advance (p := 0) (d - 1) 0 (by omega) k5 (by rw [zup_at, if_neg (by decide), zup_at, if_pos rfl]; rfl) (Nat.zero_le _)) ⟨by show _ + 1 ≤ d; omega, by show _ ≤ k; omega⟩ rfl (Nat.le_of_ble_eq_true rfl) dX0_takeDown_40 (fun _ _ z => z.elim) (fun r h6 q => ?_)
  obtain ⟨rfl, fr, ht6⟩ := q
  refine zV_iconst dX0_takeDown_43 ?_
  refine zV_istore_n dX0_takeDown_44 rfl (Nat.le_of_ble_eq_true rfl) rfl ?_
  refine zV_iconst dX0_takeDown_45 ?_
  refine zV_istore dX0_takeDown_46 (Nat.le_of_ble_eq_true rfl) rfl ?_
  have L48 : ∀ (m : Nat) (w : Int) (i p : Nat) (D : zDf) (h1 : zH), (n + 2 ≤ i + m) → (i ≤ n + 1) → (w = 0 ∨ w = 1) → ((∀ c2 : Nat, c2 ≠ 14 → (c2 < u ∨ u + 11 < c2) → h1 c2 = h c2) ∧ h1 14 2 = (u : Int)) → (w = 0 → tdBad h1 (h 1) n (textP (h 1) n (n + 1) df0 0)) → (w ≠ 0 → tdOk h1 (h 1) n u i p D (textP (h 1) n (n + 1) df0 0)) → zV (E, mX0_takeDown, d, k, (tdQ h (h 1) n u (textP (h 1) n (n + 1) df0 0)), (fun _ _ => False), a) 0 48 [zrv E 14, zrv E 1, ziv (n : Int), ziv w, ziv (i : Int)] [] h1 := by
    intro m
    induction m with
    | zero => intro w i p D h1 hm_ hin hw hf h0 h1o; exfalso; omega
    | succ m ih =>
      intro w i p D h1 hm_ hin hw hf h0 h1o
      refine zV_iload_n dX0_takeDown_48 rfl rfl ?_
      refine zR_if_eq (tgt := 96) dX0_takeDown_49 (by decide) (by omega) (fun h49 => ?_) (fun h49 => ?_)
      · obtain ⟨ke, q0, hR, e9, e4⟩ := h0 h49
        refine zV_aload_nr dX0_takeDown_96 rfl rfl ?_
        refine gf0_41 rfl rfl dX0_takeDown_97 ?_
        exact zV_ireturn dX0_takeDown_100 rfl (Nat.zero_le _) (by
            refine ⟨hf, ?_⟩
            rw [hR]
            exact ⟨by rw [e9], e4⟩)
      · obtain ⟨z9, hip, ⟨c9, hpD⟩, hR⟩ := h1o h49
        have hpn := hpD.2.2.1
        have kl := tK_lo (h 1) n p
        refine zV_aload_nr dX0_takeDown_52 rfl rfl ?_
        refine gf0_47 rfl rfl dX0_takeDown_53 ?_
        rw [hpD.2.1.2.2.1]
        refine zR_if_eq (tgt := 96) dX0_takeDown_56 (by decide) (by omega) (fun h56 => ?_) (fun h56 => ?_)
        · refine zV_aload_nr dX0_takeDown_96 rfl rfl ?_
          refine gf0_41 rfl rfl dX0_takeDown_97 ?_
          exact zV_ireturn dX0_takeDown_100 rfl (Nat.zero_le _) (by
              refine ⟨hf, ?_⟩
              rw [hR, show n + 1 - i = (n - i) + 1 by omega, textP_s, if_pos h56]
              exact ⟨by rw [z9], c9, by have := hpD.2.2.2.2.1; omega, hpD.2.2.2.1⟩)
        · refine zV_iload dX0_takeDown_59 rfl ?_
          refine zV_aload_nr dX0_takeDown_61 rfl rfl ?_
          refine gf0_31 rfl rfl dX0_takeDown_62 ?_
          rw [hpD.1.2.1]
          refine zR_icmp_gt (tgt := 96) dX0_takeDown_65 (by decide) (by omega) (by omega) (fun h65 => ?_) (fun h65 => ?_)
          · exact absurd h65 (by omega)
          · refine zV_aload_nr dX0_takeDown_68 rfl rfl ?_
            refine zV_callV (As := []) lk0_50 (rfl) rfl rfl (c0_takeLine (d := d - 1) (k := 0) hpD (by omega)) ⟨by show _ + 1 ≤ d; omega, by show _ ≤ k; omega⟩ rfl (Nat.le_of_ble_eq_true rfl) dX0_takeDown_69 (fun _ _ z => z.elim) (fun r h2 q => ?_)
            obtain ⟨v9, rfl, hv9, hbad, hok⟩ := linQ_v q
            refine zR_if_eq (tgt := 88) dX0_takeDown_72 (by decide) (by clear hbad hok; omega) (fun h72 => ?_) (fun h72 => ?_)
            · obtain ⟨ke, q0, hR2, f2, e9, e4⟩ := hbad h72
              clear hbad hok
              refine zV_iconst dX0_takeDown_88 ?_
              refine zV_istore_n dX0_takeDown_89 rfl (Nat.le_of_ble_eq_true rfl) rfl ?_
              refine zV_iinc dX0_takeDown_90 rfl (Nat.le_of_ble_eq_true rfl) rfl ?_
              refine zV_goto (tgt := 48) dX0_takeDown_93 (by decide) ?_
              exact ih 0 (i + 1) p D h2 (by omega) (by omega) (Or.inl rfl) ⟨fun c2 a b => (f2.1 c2 a b).trans (hf.1 c2 a b), (f2.2 2 (by decide)).trans hf.2⟩ (fun _ => ⟨ke, q0, by rw [hR, show n + 1 - i = (n - i) + 1 by omega, textP_s, if_neg h56, hR2], e9, e4⟩) (fun z => absurd rfl z)
            · obtain ⟨D2, q0, hR2, f2, e9, c8, hpD2⟩ := hok h72
              clear hbad hok
              have tq := tB_lo (T := h 1) hpD2.2.2.1
              have tqa := tA_lo (T := h 1) hpD2.2.2.1
              refine zV_aload_nr dX0_takeDown_75 rfl rfl ?_
              refine zV_bipush dX0_takeDown_76 (by decide) ?_
              refine zV_callV (As := [ziv 59]) lk0_54 (rfl) rfl rfl (c0_takeSign (p := q0) (d - 1) 0 (by omega) hpD2.1 hpD2.2.1 hpD2.2.2.1 (by decide)) ⟨by show _ + 1 ≤ d; omega, by show _ ≤ k; omega⟩ rfl (Nat.le_of_ble_eq_true rfl) dX0_takeDown_78 (fun _ _ z => z.elim) (fun r h4 q => ?_)
              obtain ⟨v8, rfl, hv8, hno, hyes⟩ := sgQ_v q
              refine zR_if_eq (tgt := 88) dX0_takeDown_81 (by decide) (by omega) (fun h81 => ?_) (fun h81 => ?_)
              · obtain ⟨n59, hh4⟩ := hno h81
                refine zV_iconst dX0_takeDown_88 ?_
                refine zV_istore_n dX0_takeDown_89 rfl (Nat.le_of_ble_eq_true rfl) rfl ?_
                refine zV_iinc dX0_takeDown_90 rfl (Nat.le_of_ble_eq_true rfl) rfl ?_
                refine zV_goto (tgt := 48) dX0_takeDown_93 (by decide) ?_
                exact ih 0 (i + 1) p D h4 (by omega) (by omega) (Or.inl rfl) ⟨fun c2 a b => ((dfr_trans f2 (by rw [hh4]; exact dfr_14 _ _ _ _ (by decide))).1 c2 a b).trans (hf.1 c2 a b), ((dfr_trans f2 (by rw [hh4]; exact dfr_14 _ _ _ _ (by decide))).2 2 (by decide)).trans hf.2⟩ (fun _ => ⟨1, q0, by rw [hR, show n + 1 - i = (n - i) + 1 by omega, textP_s, if_neg h56, hR2]; exact if_neg n59, by rw [hh4, zup_at, if_pos rfl], by rw [hh4, zup_at, if_neg (by decide)]; exact hpD2.2.1.1⟩) (fun z => absurd rfl z)
              · obtain ⟨y59, fr4, ht4⟩ := hyes h81
                have tk59 := tq.2.2 (by rw [isS_k y59]; decide)
                refine zV_iconst dX0_takeDown_84 ?_
                refine zV_goto (tgt := 89) dX0_takeDown_85 (by decide) ?_
                refine zV_istore_n dX0_takeDown_89 rfl (Nat.le_of_ble_eq_true rfl) rfl ?_
                refine zV_iinc dX0_takeDown_90 rfl (Nat.le_of_ble_eq_true rfl) rfl ?_
                refine zV_goto (tgt := 48) dX0_takeDown_93 (by decide) ?_
                have hl9 := line_ge (T := h 1) hpn hR2
                refine ih 1 (i + 1) (tB (h 1) n q0) D2 h4 (by omega) (by omega) (Or.inr rfl) ⟨fun c2 a b => ((dfr_trans f2 (dfr_F fr4)).1 c2 a b).trans (hf.1 c2 a b), ((dfr_trans f2 (dfr_F fr4)).2 2 (by decide)).trans hf.2⟩ (fun z => absurd z (by decide)) (fun _ => ⟨by rw [fr4.2 9 (by decide) (by decide) (by decide) (by decide), e9]; exact z9, by omega, ⟨c8, clk_F hpD2.1 fr4, ht4, tq.2.1, ?_, by have := hpD2.2.2.2.2.1; omega, hpD2.2.2.2.2.2⟩, ?_⟩)
                · exact drf_cg (fun o ho => fr4.1 (u + o) (by omega)) hpD2.2.2.2.1
                · rw [hR, show n + 1 - i = (n - i) + 1 by omega, textP_s, if_neg h56, hR2]
                  show (if isS (h 1) n q0 59 = true then _ else _) = _
                  rw [if_pos y59, show n + 1 - (i + 1) = n - i by omega]
  have t6 : drf h6 u 0 df0 := by
    have eu : ∀ o, o ≤ 11 → h6 (u + o) = h3 (u + o) := fun o ho => by rw [fr.1 (u + o) (by omega), zup_fn (by omega), zup_fn (by omega)]
    have eu0 : h6 u = h3 u := eu 0 (by omega)
    exact ⟨⟨by rw [eu0]; exact c1, fun i hi => absurd hi (Nat.not_lt_zero i)⟩, ⟨by rw [eu0]; exact c2, fun i hi => absurd hi (Nat.not_lt_zero i)⟩, by rw [eu0]; exact c3, by rw [eu0]; exact c4, by rw [eu0]; exact c5, fun ru hru => by
      rw [show ruO df0 ru = none by unfold ruO df0; split <;> rfl]
      exact ⟨by rw [eu 10 (by omega)]; exact c6 ru hru, by rw [eu 11 (by omega)]; exact c7 ru hru⟩⟩
  refine L48 (n + 2) 1 0 0 df0 h6 (by omega) (by omega) (Or.inr rfl) ⟨fun c2 a b => by rw [fr.1 c2 a, zup_fn a, zup_fn a]; exact o3 c2 a b, by rw [fr.2 2 (by decide) (by decide) (by decide) (by decide)]; exact k5.2.2.2.1⟩ (fun z => absurd z (by decide)) (fun _ => ⟨by rw [fr.2 9 (by decide) (by decide) (by decide) (by decide), zup_at, if_pos rfl], Nat.le_refl _, ⟨0, clk_F k5 fr, ht6, Nat.zero_le _, t6, Nat.le_refl _, by decide, by decide⟩, rfl⟩)
/-- behind a court: a fault, or the draft, opened -/
def crtQ (h : zH) (t u : Nat) (R : (Int × Nat) ⊕ zDf) (n : Nat) : Option Value → zH → Prop := fun r h' => match R with
  | .inl (k, q) => r = some (ziv k) ∧ (∀ c2 : Nat, c2 ≠ 0 → c2 ≠ 14 → c2 ≠ 41 → (c2 < u ∨ u + 11 < c2) → h' c2 = h c2) ∧ (∀ j, j ≠ 1 → j ≠ 2 → h' 0 j = h 0 j) ∧ h' 0 1 = 0 ∧ h' 0 2 = (tA (h 1) n q : Int) ∧ h' 14 2 = (u : Int) ∧ h' 41 0 = h 41 0 + 1 ∧ ∀ j, j ≠ 0 → h' 41 j = h 41 j
  | .inr D => r = some (ziv 0) ∧ ∃ h1 h2 : zH, (∀ c2 : Nat, c2 ≠ 0 → c2 ≠ 14 → (c2 < u ∨ u + 11 < c2) → h1 c2 = h c2) ∧ (∀ j, j ≠ 1 → j ≠ 2 → j ≠ 3 → j ≠ 8 → h1 0 j = h 0 j) ∧ h1 0 1 = 0 ∧ h1 0 2 = -1 ∧ h1 0 3 = (u : Int) ∧ h1 0 8 = 0 ∧ h1 14 2 = (t : Int) ∧ (∃ c : Nat, c ≤ 700 ∧ drf h1 u c D) ∧ opened h1 32 u h2 ∧ h' = zup (zup h2 31 3 0) 31 6 0

set_option maxRecDepth 100000 in
theorem c5_court {E : zE} {h : zH} {t u : Nat} {x : Int} (hx : -2147483648 ≤ x ∧ x ≤ 2147483647) (hl : 0 ≤ h 0 1 ∧ h 0 1 ≤ 700) (ht : isCourt t) (hu : isCourt u) (htu : t ≠ u) (k0 : h 0 3 = (t : Int)) (hu2 : h 14 2 = (u : Int)) (hT : ∀ i : Nat, (i : Int) < h 0 1 → 0 ≤ h 1 i ∧ h 1 i ≤ 255) (hs : -2147483648 ≤ h 41 0 ∧ h 41 0 ≤ 2147483646) : zCal E mX5_court 70 4 [zrv E 0, ziv x] h (fun r h' => (0 ≤ x ∧ x ≤ h 0 1) ∧ crtQ h t u (textP (h 1) x.toNat (x.toNat + 1) df0 0) x.toNat r h') (fun e h' => h' = h ∧ e = IAE ∧ ¬ (0 ≤ x ∧ x ≤ h 0 1)) := by
  refine zCal_of (by decide) (Nat.le_of_ble_eq_true rfl) (fun a => ?_)
  show zV _ 0 0 [zrv E 0, ziv x, .null] [] _
  have hu9 : u = 2 ∨ u = 16 := hu
  have ht9 : t = 2 ∨ t = 16 := ht
  refine zV_iload_n dX5_court_0 rfl rfl ?_
  refine zR_if_lt (tgt := 12) dX5_court_1 (by decide) (by omega) (fun h1 => ?_) (fun h1 => ?_)
  · exact zV_iae (i := 0) rfl rfl ⟨Nat.le_of_ble_eq_true rfl, Nat.le_of_ble_eq_true rfl⟩ dX5_court_12 dX5_court_15 dX5_court_16 dX5_court_18 dX5_court_21 ⟨rfl, rfl, by omega⟩
  · refine zV_iload_n dX5_court_4 rfl rfl ?_
    refine zV_aload_nr dX5_court_5 rfl rfl ?_
    refine gf5_70 rfl rfl dX5_court_6 ?_
    refine zR_icmp_le (tgt := 22) dX5_court_9 (by decide) (by omega) (by omega) (fun h9 => ?_) (fun h9 => ?_)
    · refine zV_aload_nr dX5_court_22 rfl rfl ?_
      refine zV_iconst dX5_court_23 ?_
      refine pf5_70 rfl (rfl) dX5_court_24 ?_
      refine zV_aload_nr dX5_court_27 rfl rfl ?_
      refine gf5_27 rfl (rfl) dX5_court_28 ?_
      refine zV_teq (w := zrv E 14) rfl ?_
      refine zV_aload_nr dX5_court_31 rfl rfl ?_
      refine gf5_9 rfl (rfl) dX5_court_32 ?_
      refine zV_teq (w := zrv E 1) rfl ?_
      refine zV_teq (w := zrv E 1) rfl ?_
      refine zV_iload_n dX5_court_35 rfl rfl ?_
      refine zV_teq (w := ziv ((x.toNat : Nat) : Int)) (by rw [Int.toNat_of_nonneg (by omega)]) ?_
      refine zV_callV (As := [zrv E 1, ziv ((x.toNat : Nat) : Int)]) lk5_84 (rfl) rfl rfl (c0_takeDown (h := zup h 0 1 0) (n := x.toNat) (u := u) (d := 69) (k := 0) (by omega) hu (by rw [zup_fn (by decide)]; exact hu2) (by rw [zup_fn (by decide)]; intro i hi; exact hT i (by omega)) (by decide)) ⟨by show _ + 1 ≤ 70; omega, by show _ ≤ 4; omega⟩ rfl (Nat.le_of_ble_eq_true rfl) dX5_court_36 (fun _ _ z => z.elim) (fun r h2 q => ?_)
      obtain ⟨⟨f1, f2⟩, hR⟩ := q
      rw [zup_fn (by decide)] at hR
      have rr : ∃ v : Int, r = some (ziv v) ∧ (v = 0 ∨ v = 1 ∨ v = 2 ∨ v = 3 ∨ v = 5) ∧ (v ≠ 0 → ∃ q0, textP (h 1) x.toNat (x.toNat + 1) df0 0 = .inl (v, q0) ∧ h2 14 4 = (tA (h 1) x.toNat q0 : Int)) ∧ (v = 0 → ∃ D, textP (h 1) x.toNat (x.toNat + 1) df0 0 = .inr D ∧ ∃ c : Nat, c ≤ 700 ∧ drf h2 u c D) := by
        have tk := text_ok (T := h 1) (n := x.toNat) (fun i hi => hT i (by omega)) (x.toNat + 1) df0 0 (Nat.zero_le _) df0_ok
        generalize textP (h 1) x.toNat (x.toNat + 1) df0 0 = R at hR tk
        rcases R with ⟨ke, q0⟩ | D
        · have tk2 : ke = 1 ∨ ke = 2 ∨ ke = 3 ∨ ke = 5 := tk
          exact ⟨ke, hR.1, by omega, fun _ => ⟨q0, rfl, hR.2⟩, fun z => absurd z (by omega)⟩
        · exact ⟨0, hR.1, Or.inl rfl, fun z => absurd rfl z, fun _ => ⟨D, rfl, hR.2⟩⟩
      obtain ⟨v9, rfl, hv9, hbad, hok⟩ := rr
      refine zV_istore_n dX5_court_39 rfl (Nat.le_of_ble_eq_true rfl) rfl ?_
      refine zV_iload_n dX5_court_40 rfl rfl ?_
      refine zR_if_eq (tgt := 70) dX5_court_41 (by decide) (by clear hbad hok; omega) (fun h41 => ?_) (fun h41 => ?_)
      · obtain ⟨D, hR, hD⟩ := hok h41
        clear hbad hok
        refine zV_aload_nr dX5_court_70 rfl rfl ?_
        refine zV_aload_nr dX5_court_71 rfl rfl ?_
        refine gf5_27 rfl (rfl) dX5_court_72 ?_
        refine zV_teq (w := zrv E 14) rfl ?_
        refine zV_aload_nr dX5_court_75 rfl rfl ?_
        refine gf5_20 (t := t) (by rw [f1 0 (by decide) (by omega), zup_at, if_neg (by decide)]; exact k0) rfl (rfl) dX5_court_76 ?_
        refine zV_callV (As := [zrv E t]) lk5_94 (rfl) rfl rfl (c0_handOver (u := u) (v := t) 69 0 hu ht f2) ⟨by show _ + 1 ≤ 70; omega, by show _ ≤ 4; omega⟩ rfl (Nat.le_of_ble_eq_true rfl) dX5_court_79 (fun _ _ z => z.elim) (fun r h3 q => ?_)
        obtain ⟨rfl, rfl⟩ := q
        refine pf5_20 rfl (rfl) dX5_court_82 ?_
        refine zV_aload_nr dX5_court_85 rfl rfl ?_
        refine zV_iconst dX5_court_86 ?_
        refine pf5_13 rfl (rfl) dX5_court_87 ?_
        refine zV_aload_nr dX5_court_90 rfl rfl ?_
        refine zV_iconst dX5_court_91 ?_
        refine pf5_98 rfl (rfl) (Or.inl rfl) dX5_court_92 ?_
        refine zV_aload_nr dX5_court_95 rfl rfl ?_
        refine gf5_41 rfl (rfl) dX5_court_96 ?_
        refine zV_teq (w := zrv E 31) rfl ?_
        refine zV_aload_nr dX5_court_99 rfl rfl ?_
        refine gf5_20 (t := u) (by rw [zup_at, if_neg (by decide), zup_at, if_neg (by decide), zup_at, if_pos rfl]) rfl (rfl) dX5_court_100 ?_
        refine zV_callV (As := [zrv E u]) lk5_102 (rfl) rfl rfl (c3_opn (t := u) 69 0 (by decide) hu) ⟨by show _ + 1 ≤ 70; omega, by show _ ≤ 4; omega⟩ rfl (Nat.le_of_ble_eq_true rfl) dX5_court_103 (fun _ _ z => z.elim) (fun r h4 q => ?_)
        obtain ⟨rfl, h5, ho, hh⟩ := q
        refine zV_iconst dX5_court_106 ?_
        exact zV_ireturn dX5_court_107 rfl (Nat.zero_le _) (by
          refine ⟨⟨by omega, by omega⟩, ?_⟩
          rw [hR]
          have g0 : h2 0 = zup h 0 1 0 0 := f1 0 (by decide) (by omega)
          obtain ⟨c9, hc9, hd9⟩ := hD
          exact ⟨rfl, _, h5, fun c2 a b d => by rw [zup_fn a, zup_fn a, zup_fn a, zup_fn b, f1 c2 b d, zup_fn a], fun j a b c d => by rw [zup_at, if_neg d, zup_at, if_neg b, zup_at, if_neg c, zup_fn (by decide), g0, zup_at, if_neg a], by rw [zup_at, if_neg (by decide), zup_at, if_neg (by decide), zup_at, if_neg (by decide), zup_fn (by decide), g0, zup_at, if_pos rfl], by rw [zup_at, if_neg (by decide), zup_at, if_pos rfl], by rw [zup_at, if_neg (by decide), zup_at, if_neg (by decide), zup_at, if_pos rfl], by rw [zup_at, if_pos rfl], by rw [zup_fn (by decide), zup_fn (by decide), zup_fn (by decide), zup_at, if_pos rfl], ⟨c9, hc9, drf_cg (fun o ho => by rw [zup_fn (by omega), zup_fn (by omega), zup_fn (by omega), zup_fn (by omega)]) hd9⟩, ho, hh⟩)
      · obtain ⟨q0, hR, e4⟩ := hbad h41
        clear hbad hok
        refine zV_aload_nr dX5_court_44 rfl rfl ?_
        refine zV_aload_nr dX5_court_45 rfl rfl ?_
        refine gf5_27 rfl (rfl) dX5_court_46 ?_
        refine zV_teq (w := zrv E 14) rfl ?_
        refine gf5_88 rfl rfl dX5_court_49 ?_
        refine pf5_13 rfl (rfl) dX5_court_52 ?_
        refine zV_aload_nr dX5_court_55 rfl rfl ?_
        refine gf5_41 rfl (rfl) dX5_court_56 ?_
        refine zV_teq (w := zrv E 31) rfl ?_
        refine gf5_91 rfl (rfl) dX5_court_59 ?_
        refine zV_teq (w := zrv E 41) rfl ?_
        refine zV_iconst dX5_court_62 ?_
        refine zV_dup2 dX5_court_63 rfl rfl ?_
        refine zV_ialoadN (i := 0) (N := 3) (rfl) (by decide) (by decide) dX5_court_64 ?_
        refine zV_iconst dX5_court_65 ?_
        refine zV_iadd dX5_court_66 ?_
        refine zV_iastoreN (i := 0) (N := 3) (rfl) (by decide) (by decide) dX5_court_67 ?_
        refine zV_iload_n dX5_court_68 rfl rfl ?_
        exact zV_ireturn dX5_court_69 rfl (Nat.zero_le _) (by
          refine ⟨⟨by omega, by omega⟩, ?_⟩
          rw [hR]
          have g41 : h2 41 = h 41 := by rw [f1 41 (by decide) (by omega), zup_fn (by decide)]
          have g0 : h2 0 = zup h 0 1 0 0 := f1 0 (by decide) (by omega)
          refine ⟨rfl, fun c2 a b c d => by rw [zup_fn c, zup_fn a, f1 c2 b d, zup_fn a], fun j a b => by rw [zup_fn (by decide), zup_at, if_neg b, g0, zup_at, if_neg a], by rw [zup_fn (by decide), zup_at, if_neg (by decide), g0, zup_at, if_pos rfl], by rw [zup_fn (by decide), zup_at, if_pos rfl]; exact e4, by rw [zup_fn (by decide), zup_fn (by decide)]; exact f2, ?_, ?_⟩
          · rw [zup_at, if_pos rfl, zup_fn (by decide), g41]
          · intro j hj; rw [zup_at, if_neg hj, zup_fn (by decide), g41])
    · exact zV_iae (i := 0) rfl rfl ⟨Nat.le_of_ble_eq_true rfl, Nat.le_of_ble_eq_true rfl⟩ dX5_court_12 dX5_court_15 dX5_court_16 dX5_court_18 dX5_court_21 ⟨rfl, rfl, by omega⟩
