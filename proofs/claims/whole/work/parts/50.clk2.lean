/-! THE CLERK: rules -/
def pre (h : zH) (T : Nat → Int) (n u ru c p : Nat) : Prop := clk h T n u ∧ tokAt h T n p ∧ p ≤ n ∧ h u 11 = (c : Int) ∧ c ≤ p ∧ h 14 3 = (ru : Int) ∧ ru < 2
def emitd (h : zH) (T : Nat → Int) (n u ru c : Nat) (l : List Int) (b : Bool) (q : Nat) (h' : zH) : Prop :=
  (∀ c2 : Nat, c2 ≠ 14 → c2 ≠ u → c2 ≠ u + 7 → c2 ≠ u + 11 → h' c2 = h c2) ∧ (∀ j, j ≠ 4 → j ≠ 5 → j ≠ 6 → j ≠ 7 → h' 14 j = h 14 j) ∧ (∀ j, j ≠ 11 → h' u j = h u j) ∧ h' u 11 = ((c + l.length : Nat) : Int) ∧
  (∀ i, i < c → h' (u + 7) i = h (u + 7) i) ∧ (∀ i, i < l.length → h' (u + 7) (c + i) = l.getD i 0) ∧ h' (u + 11) ru = (if b = true then 1 else h (u + 11) ru) ∧ (∀ j, j ≠ ru → h' (u + 11) j = h (u + 11) j) ∧ tokAt h' T n q
def badd (h : zH) (T : Nat → Int) (n u : Nat) (k : Int) (q : Nat) (h' : zH) : Prop :=
  (∀ c2 : Nat, c2 ≠ 14 → c2 ≠ u → c2 ≠ u + 7 → c2 ≠ u + 11 → h' c2 = h c2) ∧ (∀ j, j < 4 → h' 14 j = h 14 j) ∧ h' 14 9 = k ∧ h' 14 4 = (tA T n q : Int)
def parQ (h : zH) (T : Nat → Int) (n u ru c : Nat) (R : zR) : Option Value → zH → Prop := fun r h' => match R with
  | .inl (k, q) => r = some (ziv 0) ∧ badd h T n u k q h'
  | .inr (l, b, q) => r = some (ziv 1) ∧ emitd h T n u ru c l b q h'
theorem parQ_v {h : zH} {T : Nat → Int} {n u ru c : Nat} {R : zR} {r : Option Value} {h' : zH} (hq : parQ h T n u ru c R r h') : ∃ v : Int, r = some (ziv v) ∧ (v = 0 ∨ v = 1) ∧ (v = 0 → ∃ k q, R = .inl (k, q) ∧ badd h T n u k q h') ∧ (v ≠ 0 → ∃ l b q, R = .inr (l, b, q) ∧ emitd h T n u ru c l b q h') := by
  rcases R with ⟨k, q⟩ | ⟨l, b, q⟩
  · exact ⟨0, hq.1, Or.inl rfl, fun _ => ⟨k, q, rfl, hq.2⟩, fun z => absurd rfl z⟩
  · exact ⟨1, hq.1, Or.inr rfl, fun z => absurd z (by decide), fun _ => ⟨l, b, q, rfl, hq.2⟩⟩
section ZP
variable {h h1 h2 : zH} {T : Nat → Int} {n u ru c p q : Nat} {l : List Int} {b : Bool}
theorem emit_0 (hp : pre h T n u ru c p) : emitd h T n u ru c [] false p h := ⟨fun _ _ _ _ _ => rfl, fun _ _ _ _ _ => rfl, fun _ _ => rfl, hp.2.2.2.1, fun _ _ => rfl, fun i hi => absurd hi (Nat.not_lt_zero i), rfl, fun _ _ => rfl, hp.2.1⟩
theorem pre_e (hp : pre h T n u ru c p) (he : emitd h T n u ru c l b q h1) (hq : c + l.length ≤ q) (hn : q ≤ n) : pre h1 T n u ru (c + l.length) q := by
  obtain ⟨⟨k0, k1, k2, k3, k4, k5, k6⟩, -, -, -, -, p5, p6⟩ := hp
  have hu9 : u = 2 ∨ u = 16 := k4
  obtain ⟨e0, e1, e2, e3, e4, e5, e6, e7, e8⟩ := he
  exact ⟨⟨by rw [e1 0 (by decide) (by decide) (by decide) (by decide)]; exact k0, by rw [e1 1 (by decide) (by decide) (by decide) (by decide)]; exact k1, k2, by rw [e1 2 (by decide) (by decide) (by decide) (by decide)]; exact k3, k4, by rw [e0 1 (by decide) (by omega) (by omega) (by omega)]; exact k5, k6⟩, e8, hn, e3, hq, by rw [e1 3 (by decide) (by decide) (by decide) (by decide)]; exact p5, p6⟩
theorem emit_adv {q' : Nat} (hu : isCourt u) (he : emitd h T n u ru c l b q h1) (hf : clkF h1 h2) (ht : tokAt h2 T n q') : emitd h T n u ru c l b q' h2 := by
  have hu9 : u = 2 ∨ u = 16 := hu
  obtain ⟨e0, e1, e2, e3, e4, e5, e6, e7, e8⟩ := he
  have eu : h2 u = h1 u := hf.1 u (by omega)
  have e77 : h2 (u + 7) = h1 (u + 7) := hf.1 _ (by omega)
  have e11 : h2 (u + 11) = h1 (u + 11) := hf.1 _ (by omega)
  exact ⟨fun c2 a b c d => by rw [hf.1 c2 a]; exact e0 c2 a b c d, fun j a b c d => by rw [hf.2 j a b c d]; exact e1 j a b c d, by rw [eu]; exact e2, by rw [eu]; exact e3, by rw [e77]; exact e4, by rw [e77]; exact e5, by rw [e11]; exact e6, by rw [e11]; exact e7, ht⟩
theorem emit_step {v : Int} (hu : isCourt u) (he : emitd h T n u ru c l b q h1) : emitd h T n u ru c (l ++ [v]) b q (zup (zup h1 (u + 7) (c + l.length) v) u 11 (((c + l.length : Nat) : Int) + 1)) := by
  have hu9 : u = 2 ∨ u = 16 := hu
  obtain ⟨e0, e1, e2, e3, e4, e5, e6, e7, e8⟩ := he
  have e14 : zup (zup h1 (u + 7) (c + l.length) v) u 11 (((c + l.length : Nat) : Int) + 1) 14 = h1 14 := by rw [zup_fn (by omega), zup_fn (by omega)]
  refine ⟨fun c2 a b c d => by rw [zup_fn b, zup_fn c]; exact e0 c2 a b c d, fun j a b c d => by rw [e14]; exact e1 j a b c d, fun j hj => by rw [zup_at, if_neg hj, zup_fn (by omega)]; exact e2 j hj, by rw [zup_at, if_pos rfl, List.length_append]; simp only [List.length_cons, List.length_nil]; omega, fun i hi => by rw [zup_fn (by omega), zup_at, if_neg (by omega)]; exact e4 i hi, fun i hi => ?_, by rw [zup_fn (by omega), zup_fn (by omega)]; exact e6, fun j hj => by rw [zup_fn (by omega), zup_fn (by omega)]; exact e7 j hj, ?_⟩
  · rw [zup_fn (by omega), zup_at]
    rw [List.length_append] at hi
    simp only [List.length_cons, List.length_nil] at hi
    by_cases e : i = l.length
    · rw [if_pos (by omega), e, List.getD_eq_getElem?_getD, List.getElem?_append_right (Nat.le_refl _)]; simp
    · rw [if_neg (by omega), e5 i (by omega), List.getD_eq_getElem?_getD, List.getD_eq_getElem?_getD, List.getElem?_append_left (by omega)]
  · unfold tokAt; rw [e14]; exact e8
theorem emit_cat {l2 : List Int} {b2 : Bool} {q2 : Nat} (he : emitd h T n u ru c l b q h1) (hf : emitd h1 T n u ru (c + l.length) l2 b2 q2 h2) : emitd h T n u ru c (l ++ l2) (b || b2) q2 h2 := by
  obtain ⟨e0, e1, e2, e3, e4, e5, e6, e7, e8⟩ := he
  obtain ⟨f0, f1, f2, f3, f4, f5, f6, f7, f8⟩ := hf
  refine ⟨fun c2 a b c d => (f0 c2 a b c d).trans (e0 c2 a b c d), fun j a b c d => (f1 j a b c d).trans (e1 j a b c d), fun j hj => (f2 j hj).trans (e2 j hj), by rw [f3, List.length_append]; omega, fun i hi => (f4 i (by omega)).trans (e4 i hi), fun i hi => ?_, ?_, fun j hj => (f7 j hj).trans (e7 j hj), f8⟩
  · rw [List.length_append] at hi
    by_cases h9 : i < l.length
    · rw [f4 (c + i) (by omega), e5 i h9, List.getD_eq_getElem?_getD, List.getD_eq_getElem?_getD, List.getElem?_append_left h9]
    · have := f5 (i - l.length) (by omega)
      rw [show c + l.length + (i - l.length) = c + i by omega] at this
      rw [this, List.getD_eq_getElem?_getD, List.getD_eq_getElem?_getD, List.getElem?_append_right (by omega)]
  · rw [f6, e6]
    cases b <;> cases b2 <;> simp
theorem bad_cat {k : Int} {q2 : Nat} (he : emitd h T n u ru c l b q h1) (hf : badd h1 T n u k q2 h2) : badd h T n u k q2 h2 := by
  obtain ⟨e0, e1, -⟩ := he
  obtain ⟨f0, f1, f2, f3⟩ := hf
  exact ⟨fun c2 a b c d => (f0 c2 a b c d).trans (e0 c2 a b c d), fun j hj => (f1 j hj).trans (e1 j (by omega) (by omega) (by omega) (by omega)), f2, f3⟩
theorem bad_0 {k : Int} (ht : tokAt h T n p) : badd h T n u k p (zup h 14 9 k) := ⟨fun c2 a _ _ _ => zup_fn a, fun j hj => by rw [zup_at, if_neg (by omega)], by rw [zup_at, if_pos rfl], by rw [zup_at, if_neg (by decide)]; exact ht.1⟩
theorem op_0 {T : Nat → Int} {n p : Nat} (h : tK T n p = 0) : opMul T n p = 0 ∧ opAdd T n p = 0 ∧ opAnd T n p = 0 ∧ opOr T n p = 0 ∧ opTst T n p = 0 := by
  obtain ⟨o1, o2, o3, o4, o5⟩ := op_k (T := T) (n := n)
  exact ⟨Decidable.byContradiction fun z => o1 p z h, Decidable.byContradiction fun z => o2 p z h, Decidable.byContradiction fun z => o3 p z h, Decidable.byContradiction fun z => o4 p z h, Decidable.byContradiction fun z => o5 p z h⟩
theorem opMul_2 {T : Nat → Int} {n p : Nat} (h : opMul T n p ≠ 0) (h1 : ¬ isS T n p 42 = true) : opMul T n p = -9 := by
  unfold opMul at h ⊢
  rw [if_neg h1] at h ⊢
  by_cases z : isS T n p 47 = true
  · rw [if_pos z]
  · rw [if_neg z] at h; exact absurd rfl h
theorem opAdd_2 {T : Nat → Int} {n p : Nat} (h : opAdd T n p ≠ 0) (h1 : ¬ isS T n p 43 = true) : opAdd T n p = -7 := by
  unfold opAdd at h ⊢
  rw [if_neg h1] at h ⊢
  by_cases z : isS T n p 45 = true
  · rw [if_pos z]
  · rw [if_neg z] at h; exact absurd rfl h
end ZP

set_option maxRecDepth 100000 in
theorem c0_takeProduct {E : zE} {h : zH} {T : Nat → Int} {n u ru c p : Nat} {ex : Nat → zR} {w : Int} {d k : Nat} (he : ∀ p, p ≤ n → good n p (ex p)) (hp : pre h T n u ru c p) (hd : 9 ≤ d) (HP : ∀ (h : zH) (c p : Nat), pre h T n u ru c p → zCal E mX0_takePart (d - 1) 0 [zrv E 14, ziv w] h (parQ h T n u ru c (partP T n (decide (ru = 0)) ex p)) (fun _ _ => False)) : zCal E mX0_takeProduct d k [zrv E 14, ziv w] h (parQ h T n u ru c (prodP T n (decide (ru = 0)) ex p)) (fun _ _ => False) := by
  refine zCal_of (by decide) (Nat.le_of_ble_eq_true rfl) (fun a => ?_)
  show zV _ 0 0 [zrv E 14, ziv w, .null, .null] [] _
  have hk := hp.1
  have hn7 := hk.2.2.1
  have hu := hk.2.2.2.2.1
  have hu9 : u = 2 ∨ u = 16 := hu
  have hpn := hp.2.2.1
  have hcp := hp.2.2.2.2.1
  have gs := good_part (T := T) (dr := (decide (ru = 0))) he
  refine zV_aload_nr dX0_takeProduct_0 rfl rfl ?_
  refine zV_iload_n dX0_takeProduct_1 rfl rfl ?_
  refine zV_callV (As := [ziv w]) lk0_205 (rfl) rfl rfl (HP h c p hp) ⟨by show _ + 1 ≤ d; omega, by show _ ≤ k; omega⟩ rfl (Nat.le_of_ble_eq_true rfl) dX0_takeProduct_2 (fun _ _ z => z.elim) (fun r h1 q => ?_)
  obtain ⟨v9, rfl, hv9, hbad, hok⟩ := parQ_v q
  refine zR_if_ne (tgt := 10) dX0_takeProduct_5 (by decide) (by omega) (fun h5 => ?_) (fun h5 => ?_)
  · obtain ⟨l0, b0, q0, hR0, hE0⟩ := hok h5
    have g0 := gs p hpn
    rw [hR0] at g0
    refine zV_iconst dX0_takeProduct_10 ?_
    refine zV_istore_n dX0_takeProduct_11 rfl (Nat.le_of_ble_eq_true rfl) rfl ?_
    have L12 : ∀ (m : Nat) (i : Nat) (l : List Int) (b : Bool) (q1 : Nat) (h1 : zH), (n + 1 ≤ i + m) → (emitd h T n u ru c l b q1 h1) → (i ≤ q1 ∧ q1 ≤ n) → (p + l.length ≤ q1 ∧ p < q1) → (prodP T n (decide (ru = 0)) ex p = loopP T n (opMul T n) (partP T n (decide (ru = 0)) ex) (n + 1 - i) l b q1) → zV (E, mX0_takeProduct, d, k, (parQ h T n u ru c (prodP T n (decide (ru = 0)) ex p)), (fun _ _ => False), a) 0 12 [zrv E 14, ziv w, ziv (i : Int), .null] [] h1 := by
      intro m
      induction m with
      | zero => intro i l b q1 h1 hm_ hE hi9 hl9 hR; exfalso; omega
      | succ m ih =>
        intro i l b q1 h1 hm_ hE hi9 hl9 hR
        have hp1 := pre_e hp hE (by omega) hi9.2
        have tl := tB_lo (T := T) hi9.2
        have ta := tA_lo (T := T) hi9.2
        have hR1 : opMul T n q1 = 0 → prodP T n (decide (ru = 0)) ex p = .inr (l, b, q1) := fun z => by rw [hR, show n + 1 - i = (n - i) + 1 by omega, loopP_s, if_pos z]
        refine zV_iload_n dX0_takeProduct_12 rfl rfl ?_
        refine zV_aload_nr dX0_takeProduct_13 rfl rfl ?_
        refine gf0_31 rfl rfl dX0_takeProduct_14 ?_
        rw [hp1.1.2.1]
        refine zR_icmp_ge (tgt := 83) dX0_takeProduct_17 (by decide) (by omega) (by omega) (fun h17 => ?_) (fun h17 => ?_)
        · refine zV_iconst dX0_takeProduct_83 ?_
          exact zV_zreturn dX0_takeProduct_84 rfl (Or.inr rfl) (Nat.zero_le _) (by rw [hR1 ((op_0 (tK_end (by omega))).1)]; exact ⟨rfl, hE⟩)
        · have J38 : (opMul T n q1 ≠ 0) → zV (E, mX0_takeProduct, d, k, (parQ h T n u ru c (prodP T n (decide (ru = 0)) ex p)), (fun _ _ => False), a) 0 38 [zrv E 14, ziv w, ziv (i : Int), .null] [] h1 := by
            intro  hop
            have tkn := op_k.1 q1 hop
            have tlt := tl.2.2 tkn
            have J54 : ∀ (ov : Int), (ov = opMul T n q1) → zV (E, mX0_takeProduct, d, k, (parQ h T n u ru c (prodP T n (decide (ru = 0)) ex p)), (fun _ _ => False), a) 0 54 [zrv E 14, ziv w, ziv (i : Int), .null] [ziv ov] h1 := by
              intro ov hov
              refine zV_istore_n dX0_takeProduct_54 rfl (Nat.le_of_ble_eq_true rfl) rfl ?_
              refine zV_aload_nr dX0_takeProduct_55 rfl rfl ?_
              refine zV_callV (As := []) lk0_44 (rfl) rfl rfl (c0_advance (p := tB T n q1) (d - 1) 0 (by omega) hp1.1 hp1.2.1.2.1 tl.2.1) ⟨by show _ + 1 ≤ d; omega, by show _ ≤ k; omega⟩ rfl (Nat.le_of_ble_eq_true rfl) dX0_takeProduct_56 (fun _ _ z => z.elim) (fun r h2 q => ?_)
              obtain ⟨rfl, fr, ht2⟩ := q
              have hE2 := emit_adv hu hE fr ht2
              have hp2 := pre_e hp hE2 (by omega) tl.2.1
              refine zV_aload_nr dX0_takeProduct_59 rfl rfl ?_
              refine zV_iload_n dX0_takeProduct_60 rfl rfl ?_
              refine zV_callV (As := [ziv w]) lk0_205 (rfl) rfl rfl (HP h2 (c + l.length) (tB T n q1) hp2) ⟨by show _ + 1 ≤ d; omega, by show _ ≤ k; omega⟩ rfl (Nat.le_of_ble_eq_true rfl) dX0_takeProduct_61 (fun _ _ z => z.elim) (fun r h3 q => ?_)
              obtain ⟨v9, rfl, hv9, hbad, hok⟩ := parQ_v q
              refine zR_if_ne (tgt := 69) dX0_takeProduct_64 (by decide) (by omega) (fun h64 => ?_) (fun h64 => ?_)
              · obtain ⟨l2, b2, q2, hR2, hE2b⟩ := hok h64
                have g2 := gs (tB T n q1) tl.2.1
                rw [hR2] at g2
                have hE3 := emit_cat hE2 hE2b
                have hp3 := pre_e hp hE3 (by have := g2.1; rw [List.length_append]; omega) g2.2.2
                have g21 : tB T n q1 + l2.length ≤ q2 := g2.1
                have g22 : q2 ≤ n := g2.2.2
                have g23 : tB T n q1 < q2 := g2.2.1
                have ll : (l ++ l2).length = l.length + l2.length := List.length_append
                refine zV_aload_nr dX0_takeProduct_69 rfl rfl ?_
                refine gf0_18 (t := u) (hp3.1.2.2.2.1) rfl (rfl) dX0_takeProduct_70 ?_
                refine zV_iload_n dX0_takeProduct_73 rfl rfl ?_
                refine zV_callV (As := [ziv ov]) lk0_185 (court_0 hu) rfl rfl (c1_addStep (d - 1) 0 hu hE3.2.2.2.1 (by omega)) ⟨by show _ + 1 ≤ d; omega, by show _ ≤ k; omega⟩ rfl (Nat.le_of_ble_eq_true rfl) dX0_takeProduct_74 (fun _ _ z => z.elim) (fun r h4 q => ?_)
                obtain ⟨rfl, hh⟩ := q
                rw [hh]
                refine zV_iinc dX0_takeProduct_77 rfl (Nat.le_of_ble_eq_true rfl) rfl ?_
                refine zV_goto (tgt := 12) dX0_takeProduct_80 (by decide) ?_
                refine zV_drop 3 ?_
                refine ih (i + 1) (l ++ (l2 ++ [ov])) (b || b2) q2 _ (by omega) ?_ ⟨by omega, g2.2.2⟩ ⟨by simp only [List.length_append, List.length_cons, List.length_nil]; omega, by omega⟩ (by rw [hR, show n + 1 - i = (n + 1 - (i + 1)) + 1 by omega, loopP_s, if_neg hop, hR2, hov]; rfl)
                have := emit_step (v := ov) hu hE3
                rw [List.append_assoc] at this
                rw [show c + (l ++ l2).length = c + l.length + l2.length by omega] at this ⊢
                exact this
              · obtain ⟨ke, q2, hR2, hB2⟩ := hbad h64
                refine zV_iconst dX0_takeProduct_67 ?_
                exact zV_zreturn dX0_takeProduct_68 rfl (Or.inl rfl) (Nat.zero_le _) (by rw [hR, show n + 1 - i = (n - i) + 1 by omega, loopP_s, if_neg hop, hR2]; exact ⟨rfl, bad_cat hE2 hB2⟩)
            refine zV_aload_nr dX0_takeProduct_38 rfl rfl ?_
            refine zV_bipush dX0_takeProduct_39 (by decide) ?_
            refine zV_callV (As := [ziv 42]) lk0_89 (rfl) rfl rfl (c0_isSign (p := q1) (d - 1) 0 hp1.1 hp1.2.1 (by decide)) ⟨by show _ + 1 ≤ d; omega, by show _ ≤ k; omega⟩ rfl (Nat.le_of_ble_eq_true rfl) dX0_takeProduct_41 (fun _ _ z => z.elim) (fun r h9 q => ?_)
            obtain ⟨rfl, hh⟩ := q
            rw [hh]
            refine zR_if_eq (tgt := 52) dX0_takeProduct_44 (by decide) (by split <;> omega) (fun h44 => ?_) (fun h44 => ?_)
            · have n44 : ¬ isS T n q1 42 = true := fun z => by
                have h46 : (if isS T n q1 42 = true then (1 : Int) else 0) = 0 := h44
                rw [if_pos z] at h46
                exact absurd h46 (by decide)
              refine zV_bipush dX0_takeProduct_52 (by decide) ?_
              exact J54 _ (opMul_2 hop n44).symm
            · have y44 : isS T n q1 42 = true := Decidable.byContradiction fun z => h44 (if_neg z)
              refine zV_bipush dX0_takeProduct_47 (by decide) ?_
              refine zV_goto (tgt := 54) dX0_takeProduct_49 (by decide) ?_
              exact J54 _ (by unfold opMul; rw [if_pos y44])
          refine zV_aload_nr dX0_takeProduct_20 rfl rfl ?_
          refine zV_bipush dX0_takeProduct_21 (by decide) ?_
          refine zV_callV (As := [ziv 42]) lk0_89 (rfl) rfl rfl (c0_isSign (p := q1) (d - 1) 0 hp1.1 hp1.2.1 (by decide)) ⟨by show _ + 1 ≤ d; omega, by show _ ≤ k; omega⟩ rfl (Nat.le_of_ble_eq_true rfl) dX0_takeProduct_23 (fun _ _ z => z.elim) (fun r h9 q => ?_)
          obtain ⟨rfl, hh⟩ := q
          rw [hh]
          refine zR_if_ne (tgt := 38) dX0_takeProduct_26 (by decide) (by split <;> omega) (fun h26 => ?_) (fun h26 => ?_)
          · have y26 : isS T n q1 42 = true := Decidable.byContradiction fun z => h26 (if_neg z)
            exact J38 (by unfold opMul; rw [if_pos y26]; decide)
          · have n26 : ¬ isS T n q1 42 = true := fun z => by
              have h46 : (if isS T n q1 42 = true then (1 : Int) else 0) = 0 := h26
              rw [if_pos z] at h46
              exact absurd h46 (by decide)
            refine zV_aload_nr dX0_takeProduct_29 rfl rfl ?_
            refine zV_bipush dX0_takeProduct_30 (by decide) ?_
            refine zV_callV (As := [ziv 47]) lk0_89 (rfl) rfl rfl (c0_isSign (p := q1) (d - 1) 0 hp1.1 hp1.2.1 (by decide)) ⟨by show _ + 1 ≤ d; omega, by show _ ≤ k; omega⟩ rfl (Nat.le_of_ble_eq_true rfl) dX0_takeProduct_32 (fun _ _ z => z.elim) (fun r h9 q => ?_)
            obtain ⟨rfl, hh⟩ := q
            rw [hh]
            refine zR_if_eq (tgt := 83) dX0_takeProduct_35 (by decide) (by split <;> omega) (fun h35 => ?_) (fun h35 => ?_)
            · have n35 : ¬ isS T n q1 47 = true := fun z => by
                have h46 : (if isS T n q1 47 = true then (1 : Int) else 0) = 0 := h35
                rw [if_pos z] at h46
                exact absurd h46 (by decide)
              refine zV_iconst dX0_takeProduct_83 ?_
              exact zV_zreturn dX0_takeProduct_84 rfl (Or.inr rfl) (Nat.zero_le _) (by rw [hR1 (by unfold opMul; rw [if_neg n26, if_neg n35])]; exact ⟨rfl, hE⟩)
            · have y35 : isS T n q1 47 = true := Decidable.byContradiction fun z => h35 (if_neg z)
              exact J38 (by unfold opMul; rw [if_neg n26, if_pos y35]; decide)
    exact L12 (n + 1) 0 l0 b0 q0 _ (by omega) hE0 ⟨by omega, g0.2.2⟩ ⟨g0.1, g0.2.1⟩ (by unfold prodP; rw [hR0]; rfl)
  · obtain ⟨ke, q0, hR0, hB0⟩ := hbad h5
    refine zV_iconst dX0_takeProduct_8 ?_
    exact zV_zreturn dX0_takeProduct_9 rfl (Or.inl rfl) (Nat.zero_le _) (by unfold prodP; rw [hR0]; exact ⟨rfl, hB0⟩)
set_option maxRecDepth 100000 in
theorem c0_takeSum {E : zE} {h : zH} {T : Nat → Int} {n u ru c p : Nat} {ex : Nat → zR} {w : Int} {d k : Nat} (he : ∀ p, p ≤ n → good n p (ex p)) (hp : pre h T n u ru c p) (hd : 9 ≤ d) (HP : ∀ (h : zH) (c p : Nat), pre h T n u ru c p → zCal E mX0_takeProduct (d - 1) 0 [zrv E 14, ziv w] h (parQ h T n u ru c (prodP T n (decide (ru = 0)) ex p)) (fun _ _ => False)) : zCal E mX0_takeSum d k [zrv E 14, ziv w] h (parQ h T n u ru c (sumP T n (decide (ru = 0)) ex p)) (fun _ _ => False) := by
  refine zCal_of (by decide) (Nat.le_of_ble_eq_true rfl) (fun a => ?_)
  show zV _ 0 0 [zrv E 14, ziv w, .null, .null] [] _
  have hk := hp.1
  have hn7 := hk.2.2.1
  have hu := hk.2.2.2.2.1
  have hu9 : u = 2 ∨ u = 16 := hu
  have hpn := hp.2.2.1
  have hcp := hp.2.2.2.2.1
  have gs := good_prod (T := T) (dr := (decide (ru = 0))) he
  refine zV_aload_nr dX0_takeSum_0 rfl rfl ?_
  refine zV_iload_n dX0_takeSum_1 rfl rfl ?_
  refine zV_callV (As := [ziv w]) lk0_202 (rfl) rfl rfl (HP h c p hp) ⟨by show _ + 1 ≤ d; omega, by show _ ≤ k; omega⟩ rfl (Nat.le_of_ble_eq_true rfl) dX0_takeSum_2 (fun _ _ z => z.elim) (fun r h1 q => ?_)
  obtain ⟨v9, rfl, hv9, hbad, hok⟩ := parQ_v q
  refine zR_if_ne (tgt := 10) dX0_takeSum_5 (by decide) (by omega) (fun h5 => ?_) (fun h5 => ?_)
  · obtain ⟨l0, b0, q0, hR0, hE0⟩ := hok h5
    have g0 := gs p hpn
    rw [hR0] at g0
    refine zV_iconst dX0_takeSum_10 ?_
    refine zV_istore_n dX0_takeSum_11 rfl (Nat.le_of_ble_eq_true rfl) rfl ?_
    have L12 : ∀ (m : Nat) (i : Nat) (l : List Int) (b : Bool) (q1 : Nat) (h1 : zH), (n + 1 ≤ i + m) → (emitd h T n u ru c l b q1 h1) → (i ≤ q1 ∧ q1 ≤ n) → (p + l.length ≤ q1 ∧ p < q1) → (sumP T n (decide (ru = 0)) ex p = loopP T n (opAdd T n) (prodP T n (decide (ru = 0)) ex) (n + 1 - i) l b q1) → zV (E, mX0_takeSum, d, k, (parQ h T n u ru c (sumP T n (decide (ru = 0)) ex p)), (fun _ _ => False), a) 0 12 [zrv E 14, ziv w, ziv (i : Int), .null] [] h1 := by
      intro m
      induction m with
      | zero => intro i l b q1 h1 hm_ hE hi9 hl9 hR; exfalso; omega
      | succ m ih =>
        intro i l b q1 h1 hm_ hE hi9 hl9 hR
        have hp1 := pre_e hp hE (by omega) hi9.2
        have tl := tB_lo (T := T) hi9.2
        have ta := tA_lo (T := T) hi9.2
        have hR1 : opAdd T n q1 = 0 → sumP T n (decide (ru = 0)) ex p = .inr (l, b, q1) := fun z => by rw [hR, show n + 1 - i = (n - i) + 1 by omega, loopP_s, if_pos z]
        refine zV_iload_n dX0_takeSum_12 rfl rfl ?_
        refine zV_aload_nr dX0_takeSum_13 rfl rfl ?_
        refine gf0_31 rfl rfl dX0_takeSum_14 ?_
        rw [hp1.1.2.1]
        refine zR_icmp_ge (tgt := 83) dX0_takeSum_17 (by decide) (by omega) (by omega) (fun h17 => ?_) (fun h17 => ?_)
        · refine zV_iconst dX0_takeSum_83 ?_
          exact zV_zreturn dX0_takeSum_84 rfl (Or.inr rfl) (Nat.zero_le _) (by rw [hR1 ((op_0 (tK_end (by omega))).2.1)]; exact ⟨rfl, hE⟩)
        · have J38 : (opAdd T n q1 ≠ 0) → zV (E, mX0_takeSum, d, k, (parQ h T n u ru c (sumP T n (decide (ru = 0)) ex p)), (fun _ _ => False), a) 0 38 [zrv E 14, ziv w, ziv (i : Int), .null] [] h1 := by
            intro  hop
            have tkn := op_k.2.1 q1 hop
            have tlt := tl.2.2 tkn
            have J54 : ∀ (ov : Int), (ov = opAdd T n q1) → zV (E, mX0_takeSum, d, k, (parQ h T n u ru c (sumP T n (decide (ru = 0)) ex p)), (fun _ _ => False), a) 0 54 [zrv E 14, ziv w, ziv (i : Int), .null] [ziv ov] h1 := by
              intro ov hov
              refine zV_istore_n dX0_takeSum_54 rfl (Nat.le_of_ble_eq_true rfl) rfl ?_
              refine zV_aload_nr dX0_takeSum_55 rfl rfl ?_
              refine zV_callV (As := []) lk0_44 (rfl) rfl rfl (c0_advance (p := tB T n q1) (d - 1) 0 (by omega) hp1.1 hp1.2.1.2.1 tl.2.1) ⟨by show _ + 1 ≤ d; omega, by show _ ≤ k; omega⟩ rfl (Nat.le_of_ble_eq_true rfl) dX0_takeSum_56 (fun _ _ z => z.elim) (fun r h2 q => ?_)
              obtain ⟨rfl, fr, ht2⟩ := q
              have hE2 := emit_adv hu hE fr ht2
              have hp2 := pre_e hp hE2 (by omega) tl.2.1
              refine zV_aload_nr dX0_takeSum_59 rfl rfl ?_
              refine zV_iload_n dX0_takeSum_60 rfl rfl ?_
              refine zV_callV (As := [ziv w]) lk0_202 (rfl) rfl rfl (HP h2 (c + l.length) (tB T n q1) hp2) ⟨by show _ + 1 ≤ d; omega, by show _ ≤ k; omega⟩ rfl (Nat.le_of_ble_eq_true rfl) dX0_takeSum_61 (fun _ _ z => z.elim) (fun r h3 q => ?_)
              obtain ⟨v9, rfl, hv9, hbad, hok⟩ := parQ_v q
              refine zR_if_ne (tgt := 69) dX0_takeSum_64 (by decide) (by omega) (fun h64 => ?_) (fun h64 => ?_)
              · obtain ⟨l2, b2, q2, hR2, hE2b⟩ := hok h64
                have g2 := gs (tB T n q1) tl.2.1
                rw [hR2] at g2
                have hE3 := emit_cat hE2 hE2b
                have hp3 := pre_e hp hE3 (by have := g2.1; rw [List.length_append]; omega) g2.2.2
                have g21 : tB T n q1 + l2.length ≤ q2 := g2.1
                have g22 : q2 ≤ n := g2.2.2
                have g23 : tB T n q1 < q2 := g2.2.1
                have ll : (l ++ l2).length = l.length + l2.length := List.length_append
                refine zV_aload_nr dX0_takeSum_69 rfl rfl ?_
                refine gf0_18 (t := u) (hp3.1.2.2.2.1) rfl (rfl) dX0_takeSum_70 ?_
                refine zV_iload_n dX0_takeSum_73 rfl rfl ?_
                refine zV_callV (As := [ziv ov]) lk0_185 (court_0 hu) rfl rfl (c1_addStep (d - 1) 0 hu hE3.2.2.2.1 (by omega)) ⟨by show _ + 1 ≤ d; omega, by show _ ≤ k; omega⟩ rfl (Nat.le_of_ble_eq_true rfl) dX0_takeSum_74 (fun _ _ z => z.elim) (fun r h4 q => ?_)
                obtain ⟨rfl, hh⟩ := q
                rw [hh]
                refine zV_iinc dX0_takeSum_77 rfl (Nat.le_of_ble_eq_true rfl) rfl ?_
                refine zV_goto (tgt := 12) dX0_takeSum_80 (by decide) ?_
                refine zV_drop 3 ?_
                refine ih (i + 1) (l ++ (l2 ++ [ov])) (b || b2) q2 _ (by omega) ?_ ⟨by omega, g2.2.2⟩ ⟨by simp only [List.length_append, List.length_cons, List.length_nil]; omega, by omega⟩ (by rw [hR, show n + 1 - i = (n + 1 - (i + 1)) + 1 by omega, loopP_s, if_neg hop, hR2, hov]; rfl)
                have := emit_step (v := ov) hu hE3
                rw [List.append_assoc] at this
                rw [show c + (l ++ l2).length = c + l.length + l2.length by omega] at this ⊢
                exact this
              · obtain ⟨ke, q2, hR2, hB2⟩ := hbad h64
                refine zV_iconst dX0_takeSum_67 ?_
                exact zV_zreturn dX0_takeSum_68 rfl (Or.inl rfl) (Nat.zero_le _) (by rw [hR, show n + 1 - i = (n - i) + 1 by omega, loopP_s, if_neg hop, hR2]; exact ⟨rfl, bad_cat hE2 hB2⟩)
            refine zV_aload_nr dX0_takeSum_38 rfl rfl ?_
            refine zV_bipush dX0_takeSum_39 (by decide) ?_
            refine zV_callV (As := [ziv 43]) lk0_89 (rfl) rfl rfl (c0_isSign (p := q1) (d - 1) 0 hp1.1 hp1.2.1 (by decide)) ⟨by show _ + 1 ≤ d; omega, by show _ ≤ k; omega⟩ rfl (Nat.le_of_ble_eq_true rfl) dX0_takeSum_41 (fun _ _ z => z.elim) (fun r h9 q => ?_)
            obtain ⟨rfl, hh⟩ := q
            rw [hh]
            refine zR_if_eq (tgt := 52) dX0_takeSum_44 (by decide) (by split <;> omega) (fun h44 => ?_) (fun h44 => ?_)
            · have n44 : ¬ isS T n q1 43 = true := fun z => by
                have h46 : (if isS T n q1 43 = true then (1 : Int) else 0) = 0 := h44
                rw [if_pos z] at h46
                exact absurd h46 (by decide)
              refine zV_bipush dX0_takeSum_52 (by decide) ?_
              exact J54 _ (opAdd_2 hop n44).symm
            · have y44 : isS T n q1 43 = true := Decidable.byContradiction fun z => h44 (if_neg z)
              refine zV_bipush dX0_takeSum_47 (by decide) ?_
              refine zV_goto (tgt := 54) dX0_takeSum_49 (by decide) ?_
              exact J54 _ (by unfold opAdd; rw [if_pos y44])
          refine zV_aload_nr dX0_takeSum_20 rfl rfl ?_
          refine zV_bipush dX0_takeSum_21 (by decide) ?_
          refine zV_callV (As := [ziv 43]) lk0_89 (rfl) rfl rfl (c0_isSign (p := q1) (d - 1) 0 hp1.1 hp1.2.1 (by decide)) ⟨by show _ + 1 ≤ d; omega, by show _ ≤ k; omega⟩ rfl (Nat.le_of_ble_eq_true rfl) dX0_takeSum_23 (fun _ _ z => z.elim) (fun r h9 q => ?_)
          obtain ⟨rfl, hh⟩ := q
          rw [hh]
          refine zR_if_ne (tgt := 38) dX0_takeSum_26 (by decide) (by split <;> omega) (fun h26 => ?_) (fun h26 => ?_)
          · have y26 : isS T n q1 43 = true := Decidable.byContradiction fun z => h26 (if_neg z)
            exact J38 (by unfold opAdd; rw [if_pos y26]; decide)
          · have n26 : ¬ isS T n q1 43 = true := fun z => by
              have h46 : (if isS T n q1 43 = true then (1 : Int) else 0) = 0 := h26
              rw [if_pos z] at h46
              exact absurd h46 (by decide)
            refine zV_aload_nr dX0_takeSum_29 rfl rfl ?_
            refine zV_bipush dX0_takeSum_30 (by decide) ?_
            refine zV_callV (As := [ziv 45]) lk0_89 (rfl) rfl rfl (c0_isSign (p := q1) (d - 1) 0 hp1.1 hp1.2.1 (by decide)) ⟨by show _ + 1 ≤ d; omega, by show _ ≤ k; omega⟩ rfl (Nat.le_of_ble_eq_true rfl) dX0_takeSum_32 (fun _ _ z => z.elim) (fun r h9 q => ?_)
            obtain ⟨rfl, hh⟩ := q
            rw [hh]
            refine zR_if_eq (tgt := 83) dX0_takeSum_35 (by decide) (by split <;> omega) (fun h35 => ?_) (fun h35 => ?_)
            · have n35 : ¬ isS T n q1 45 = true := fun z => by
                have h46 : (if isS T n q1 45 = true then (1 : Int) else 0) = 0 := h35
                rw [if_pos z] at h46
                exact absurd h46 (by decide)
              refine zV_iconst dX0_takeSum_83 ?_
              exact zV_zreturn dX0_takeSum_84 rfl (Or.inr rfl) (Nat.zero_le _) (by rw [hR1 (by unfold opAdd; rw [if_neg n26, if_neg n35])]; exact ⟨rfl, hE⟩)
            · have y35 : isS T n q1 45 = true := Decidable.byContradiction fun z => h35 (if_neg z)
              exact J38 (by unfold opAdd; rw [if_neg n26, if_pos y35]; decide)
    exact L12 (n + 1) 0 l0 b0 q0 _ (by omega) hE0 ⟨by omega, g0.2.2⟩ ⟨g0.1, g0.2.1⟩ (by unfold sumP; rw [hR0]; rfl)
  · obtain ⟨ke, q0, hR0, hB0⟩ := hbad h5
    refine zV_iconst dX0_takeSum_8 ?_
    exact zV_zreturn dX0_takeSum_9 rfl (Or.inl rfl) (Nat.zero_le _) (by unfold sumP; rw [hR0]; exact ⟨rfl, hB0⟩)
