/-! CLASS AND REFERENCE: change, read, forget, image, restore, feed -/
section ZAE
variable {hc hm h1 h2 : zH} {t n jn old ac rn : Nat} {B : Int}
theorem rel_change {x y : Int} (hx : 0 ≤ x ∧ x < jn) (hy : 0 ≤ y ∧ y < jn) (r : Rel hc hm t n jn old ac rn B) : Rel (zst hc 36 (swapP (hc 36) x y jn)) (zst hm 81 (swapP (hm 81) x y jn)) t n jn old ac rn B := by
  obtain ⟨ti, mi, pm, -, -⟩ := rel_inv r
  obtain ⟨p, p1, p2⟩ := pm.2 x.toNat (by omega)
  obtain ⟨q, q1, q2⟩ := pm.2 y.toNat (by omega)
  exact rel_one (Or.inr (Or.inr ⟨rfl, rfl⟩)) (fun z => absurd z (by decide)) (fun z => absurd z (by decide)) (fun _ => ⟨swapP_congr (rel_dyn r).2.2.2.1, swapP_lo mi.2.1.2.2.2.1 hx hy, swapP_perm pm p1 q1 (by rw [p2]; omega) (by rw [q2]; omega)⟩) r
/-- the code of the reference is nobody's -/
theorem rel_code (v : Int) (r : Rel hc hm t n jn old ac rn B) : Rel hc (zup hm 64 4 v) t n jn old ac rn B :=
  rel_qW ⟨fun c2 x => zup_fn (by omega), fun c2 x => by rw [zup_fn (by omega)]; exact agn_rfl _ _, fun j hj => by rw [zup_at, if_neg (by unfold stf at hj; omega)]⟩ r
theorem rel_read {x y : Int} (hx : 1 ≤ x ∧ x ≤ 20) (hy : 0 ≤ y ∧ y < 5) (h8 : rn < 8) (r : Rel hc hm t n jn old ac rn B) : Rel (zup (zup (zup hc 39 rn x) 40 rn y) 31 6 ((rn : Int) + 1)) (zup (zup (zup hm 92 rn x) 93 rn y) 64 36 ((rn : Int) + 1)) t n jn old ac (rn + 1) B := by
  have hn := rel_n r
  have rk : rkOK hc := r.1.1.2.2.2.1
  have e1 : ∀ c2 : Nat, c2 ≠ 31 → c2 ≠ 39 → c2 ≠ 40 → zup (zup (zup hc 39 rn x) 40 rn y) 31 6 ((rn : Int) + 1) c2 = hc c2 := fun c2 a b c => by rw [zup_fn a, zup_fn c, zup_fn b]
  have e2 : ∀ c2 : Nat, c2 ≠ 64 → c2 ≠ 92 → c2 ≠ 93 → zup (zup (zup hm 92 rn x) 93 rn y) 64 36 ((rn : Int) + 1) c2 = hm c2 := fun c2 a b c => by rw [zup_fn a, zup_fn c, zup_fn b]
  have e64 : ∀ j, j ≠ 36 → zup (zup (zup hm 92 rn x) 93 rn y) 64 36 ((rn : Int) + 1) 64 j = hm 64 j := fun j hj => by rw [zup_at, if_neg hj, zup_fn (by decide), zup_fn (by decide)]
  have e31 : ∀ j, j ≠ 6 → zup (zup (zup hc 39 rn x) 40 rn y) 31 6 ((rn : Int) + 1) 31 j = hc 31 j := fun j hj => by rw [zup_at, if_neg hj, zup_fn (by decide), zup_fn (by decide)]
  refine rel_new ⟨fun c2 a b => e1 c2 (by omega) (by omega) (by omega), fun j _ => by rw [e1 0 (by decide) (by decide) (by decide)], fun j a b => by rw [e1 28 (by decide) (by decide) (by decide)]; exact rk j a b⟩ ⟨fun c2 a b => e2 c2 (by omega) (by omega) (by omega), fun j hj => e64 j (by omega)⟩ ?_ r
  obtain ⟨x1, x2, x3, x4, x5, x6⟩ := r.2.2.2
  have er : ∀ i2, rowC (zup (zup (zup hc 39 rn x) 40 rn y) 31 6 ((rn : Int) + 1)) 31 i2 = rowC hc 31 i2 := fun i2 => by unfold rowC; rw [e1 33 (by decide) (by decide) (by decide), e1 35 (by decide) (by decide) (by decide), e1 36 (by decide) (by decide) (by decide), e1 32 (by decide) (by decide) (by decide)]
  have ef : ∀ i2, i2 < 27 → rowF (zup (zup (zup hm 92 rn x) 93 rn y) 64 36 ((rn : Int) + 1)) i2 = rowF hm i2 := rowF_cg (fun j a b => e64 j (by omega)) (fun c2 hh => by rw [e2 c2 (by omega) (by omega) (by omega)]; exact agn_rfl _ _)
  refine ⟨⟨by rw [e31 2 (by decide)]; exact x1.1, x1.2.1, by rw [e31 3 (by decide)]; exact x1.2.2.1, x1.2.2.2.1, by rw [zup_at, if_pos rfl]; omega, by omega⟩, ⟨by rw [e64 35 (by decide)]; exact x2.1, by rw [zup_at, if_pos rfl]; omega⟩, ⟨rwR_cg hn.1 hn.2 (fun i2 _ => er i2) ef x3.1, rwOK_cg hn.1 hn.2 ef x3.2⟩, by rw [e1 38 (by decide) (by decide) (by decide), e2 83 (by decide) (by decide) (by decide)]; exact x4, fun i hi => ?_, by rw [e1 41 (by decide) (by decide) (by decide), e2 77 (by decide) (by decide) (by decide)]; exact x6⟩
  have c39 : zup (zup (zup hc 39 rn x) 40 rn y) 31 6 ((rn : Int) + 1) 39 i = if i = rn then x else hc 39 i := by rw [zup_fn (by decide), zup_fn (by decide), zup_at]
  have c40 : zup (zup (zup hc 39 rn x) 40 rn y) 31 6 ((rn : Int) + 1) 40 i = if i = rn then y else hc 40 i := by rw [zup_fn (by decide), zup_at, zup_fn (by decide)]
  have c92 : zup (zup (zup hm 92 rn x) 93 rn y) 64 36 ((rn : Int) + 1) 92 i = if i = rn then x else hm 92 i := by rw [zup_fn (by decide), zup_fn (by decide), zup_at]
  have c93 : zup (zup (zup hm 92 rn x) 93 rn y) 64 36 ((rn : Int) + 1) 93 i = if i = rn then y else hm 93 i := by rw [zup_fn (by decide), zup_at, zup_fn (by decide)]
  show (zup (zup (zup hc 39 rn x) 40 rn y) 31 6 ((rn : Int) + 1) 39 i = _ ∧ zup (zup (zup hc 39 rn x) 40 rn y) 31 6 ((rn : Int) + 1) 40 i = _) ∧ _
  rw [c39, c40, c92, c93]
  by_cases z : i = rn
  · rw [if_pos z, if_pos z, if_pos z, if_pos z]; exact ⟨⟨rfl, rfl⟩, hx, by omega⟩
  · rw [if_neg z, if_neg z, if_neg z, if_neg z]; exact x5 i (by omega)
theorem rel_forget (r : Rel hc hm t n jn old ac rn B) : Rel (zup hc 31 6 0) (zup hm 64 36 0) t n jn old ac 0 B := by
  have hn := rel_n r
  have rk : rkOK hc := r.1.1.2.2.2.1
  have e64 : ∀ j, j ≠ 36 → zup hm 64 36 0 64 j = hm 64 j := fun j hj => by rw [zup_at, if_neg hj]
  refine rel_new ⟨fun c2 a b => zup_fn (by omega), fun j _ => by rw [zup_fn (by decide)], fun j a b => by rw [zup_fn (by decide)]; exact rk j a b⟩ ⟨fun c2 a b => zup_fn (by omega), fun j hj => e64 j (by omega)⟩ ?_ r
  obtain ⟨x1, x2, x3, x4, x5, x6⟩ := r.2.2.2
  have er : ∀ i2, rowC (zup hc 31 6 0) 31 i2 = rowC hc 31 i2 := fun i2 => by unfold rowC; rw [zup_fn (by decide), zup_fn (by decide), zup_fn (by decide), zup_fn (by decide)]
  have ef : ∀ i2, i2 < 27 → rowF (zup hm 64 36 0) i2 = rowF hm i2 := rowF_cg (fun j a b => e64 j (by omega)) (fun c2 hh => by rw [zup_fn (by omega)]; exact agn_rfl _ _)
  exact ⟨⟨by rw [zup_at, if_neg (by decide)]; exact x1.1, x1.2.1, by rw [zup_at, if_neg (by decide)]; exact x1.2.2.1, x1.2.2.2.1, by rw [zup_at, if_pos rfl]; rfl, by omega⟩, ⟨by rw [e64 35 (by decide)]; exact x2.1, by rw [zup_at, if_pos rfl]; rfl⟩, ⟨rwR_cg hn.1 hn.2 (fun i2 _ => er i2) ef x3.1, rwOK_cg hn.1 hn.2 ef x3.2⟩, by rw [zup_fn (by decide), zup_fn (by decide)]; exact x4, fun i hi => absurd hi (Nat.not_lt_zero i), by rw [zup_fn (by decide), zup_fn (by decide)]; exact x6⟩
/-- a docket copied -/
theorem dkR_cp {o d : Nat} {b P : Nat → Int} {A R : Int} {rc rv sm : Nat → Int} (hn : n ≤ 8) (hj : jn ≤ 8) (c : dkCp hc o d h1) (hd : dkR hc o n jn old ac rn B b P A R rc rv sm) : dkR h1 d n jn old ac rn B b P A R rc rv sm := by
  obtain ⟨-, ⟨c1, c2, c3, c4, c5, c6, c7⟩, c8, c9, c10, c11, c12, c13, c14⟩ := c
  obtain ⟨x1, x2, x3, x4, x5, x6⟩ := hd
  have er : ∀ i2, i2 < 27 → rowC h1 d i2 = rowC hc o i2 := fun i2 hi => by
    unfold rowC
    rw [c5, c6, c7]
    repeat' split
    all_goals first | rfl | exact c1 _ (by omega) | exact c3 _ (by omega) | exact c4 _ (by omega)
  refine ⟨by rw [c12, c13, c14]; exact x1, x2, ⟨rwR_cg hn hj er (fun _ _ => rfl) x3.1, x3.2⟩, fun a ha => ⟨rwR_cg hn hj (fun i2 hi => ?_) (fun _ _ => rfl) (x4 a ha).1, (x4 a ha).2⟩, fun i hi => ?_, fun i hi => ?_⟩
  · exact c8 _ (by omega)
  · have h8 := x1.2.2.2.2.2
    rw [c9 i (by omega), c10 i (by omega)]; exact x5 i hi
  · rw [c11 i hi]; exact x6 i hi
theorem rel_image (c : dkCp hc 31 42 h1) (m : mimg hm h2) (r : Rel hc hm t n jn old ac rn B) : Rel (zup h1 0 8 1) h2 t n jn old ac rn B := by
  have hn := rel_n r
  obtain ⟨⟨⟨a1, a2, a3, a4, a5⟩, ⟨u, u1, u2, u3⟩, ⟨b1, b2, b3⟩, c4, c5⟩, ⟨t1, t2, t3, t4⟩, -, nw⟩ := r
  obtain ⟨m1, m2, ⟨-, m4, m5, m6⟩, m7, m8, m9, m10, m11⟩ := m
  have ht : t = 2 ∨ t = 16 := a2.1
  have ec : ∀ c2 : Nat, c2 ≠ 0 → (c2 < 42 ∨ 52 < c2) → zup h1 0 8 1 c2 = hc c2 := fun c2 a b => by rw [zup_fn a]; exact c.1 c2 (by omega) (by omega) (by omega) (by omega) (by omega) (by omega) (by omega) (by omega) (by omega) (by omega)
  have e0 : ∀ j, j ≠ 8 → zup h1 0 8 1 0 j = hc 0 j := fun j hj => by rw [zup_at, if_neg hj, c.1 0 (by decide) (by decide) (by decide) (by decide) (by decide) (by decide) (by decide) (by decide) (by decide) (by decide)]
  have ek : ∀ k, zup h1 0 8 1 (42 + k) = h1 (42 + k) := fun k => zup_fn (by omega)
  have et : ∀ o, o ≤ 11 → zup h1 0 8 1 (t + o) = hc (t + o) := fun o ho => ec (t + o) (by omega) (by omega)
  have em : ∀ c2 : Nat, c2 ≠ 64 → c2 < 98 → h2 c2 = hm c2 := fun c2 a b => m1 c2 a (Or.inl b)
  have e64 : ∀ j, j ≠ 4 → j ≠ 58 → j ≠ 59 → j ≠ 60 → h2 64 j = hm 64 j := m2
  have s17 := e64 17 (by decide) (by decide) (by decide) (by decide)
  have s26 := e64 26 (by decide) (by decide) (by decide) (by decide)
  have e78 : h2 78 = hm 78 := em 78 (by decide) (by decide)
  refine ⟨⟨⟨by rw [e0 3 (by decide)]; exact a1, courtOK_congr et a2, mCt_congr (em 68 (by decide) (by decide)) (em 70 (by decide) (by decide)) (em 71 (by decide) (by decide)) (em 74 (by decide) (by decide)) (em 75 (by decide) (by decide)) (em 76 (by decide) (by decide)) a3, fun j a b => by rw [ec 28 (by decide) (by omega)]; exact a4 j a b, by rw [em 65 (by decide) (by decide)]; exact a5.1, by rw [em 66 (by decide) (by decide)]; exact a5.2.1, by rw [em 67 (by decide) (by decide)]; exact a5.2.2⟩, ⟨u, u1, u2, by rw [ec 14 (by decide) (by omega)]; exact u3⟩, ⟨by rw [et 2 (by omega), em 70 (by decide) (by decide)]; exact b1, by rw [et 6 (by omega), em 71 (by decide) (by decide)]; exact b2, by rw [et 5 (by omega), em 74 (by decide) (by decide)]; exact b3⟩, fun ru hru => by rw [et 10 (by omega), ruleV_congr (et 7 (by omega)) (et 8 (by omega)) (et 9 (by omega)), em 68 (by decide) (by decide), ruM_congr (em 68 (by decide) (by decide)) (em (75 + ru) (by omega) (by omega))]; exact c4 ru hru, by rw [ec 34 (by decide) (by omega), et 3 (by omega), e78]; exact c5⟩, ⟨by rw [e0 1 (by decide), s17]; exact t1, by rw [s17]; exact t2, by rw [ec 1 (by decide) (by omega), s17, em 79 (by decide) (by decide)]; exact t3, by rw [e0 2 (by decide), s26]; exact t4⟩, ⟨Or.inr (by rw [zup_at, if_pos rfl]), by rw [zup_at, if_pos rfl, m4], fun _ => ⟨⟨old, ac, rn, ?_⟩, fun j hj => ?_⟩⟩, ?_⟩
  · refine dkR_cgC hn.1 hn.2 (fun k hk => ek k) ?_
    exact dkR_cgM hn.1 hn.2 m7 m8 m5 m6 m9 m10 m11 (dkR_cp hn.1 hn.2 c nw)
  · show zup h1 0 8 1 45 j = h2 78 j
    rw [zup_fn (by decide), e78]
    have : h1 45 j = hc 34 j := c.2.1.2.1 j (by omega)
    rw [this]; exact (c5 j hj).1.1
  · refine dkR_cgC hn.1 hn.2 (fun k hk => ec (31 + k) (by omega) (by omega)) ?_
    exact dkR_cgM hn.1 hn.2 (rowF_cg (fun j a b => e64 j (by omega) (by omega) (by omega) (by omega)) (fun c2 hh => by rw [em c2 (by omega) (by omega)]; exact agn_rfl _ _)) (fun i _ => by rw [em 83 (by decide) (by decide)]) (e64 35 (by decide) (by decide) (by decide) (by decide)) (e64 36 (by decide) (by decide) (by decide) (by decide)) (fun i _ => by rw [em 92 (by decide) (by decide)]) (fun i _ => by rw [em 93 (by decide) (by decide)]) (fun i _ => by rw [em 77 (by decide) (by decide)]) nw
theorem rel_restore (hi : hc 0 8 = 1) (c : dkCp hc 42 31 h1) (m : mrest hm h2) (r : Rel hc hm t n jn old ac rn B) : ∃ old2 ac2 rn2 : Nat, Rel h1 h2 t n jn old2 ac2 rn2 B := by
  have hn := rel_n r
  obtain ⟨⟨⟨a1, a2, a3, a4, a5⟩, ⟨u, u1, u2, u3⟩, ⟨b1, b2, b3⟩, c4, c5⟩, ⟨t1, t2, t3, t4⟩, ⟨i1, i2, i3⟩, nw⟩ := r
  obtain ⟨⟨o2, ac2, rn2, d2⟩, d3⟩ := i3 hi
  obtain ⟨m1, m2, ⟨-, m4, m5⟩, ⟨m6, m7, m8⟩, m9, m10, m11, m12, m13⟩ := m
  have ht : t = 2 ∨ t = 16 := a2.1
  have ec : ∀ c2 : Nat, (c2 < 31 ∨ 41 < c2) → h1 c2 = hc c2 := fun c2 b => c.1 c2 (by omega) (by omega) (by omega) (by omega) (by omega) (by omega) (by omega) (by omega) (by omega) (by omega)
  have et : ∀ o, o ≤ 11 → h1 (t + o) = hc (t + o) := fun o ho => ec (t + o) (by omega)
  have em : ∀ c2 : Nat, c2 ≠ 64 → c2 ≠ 77 → (c2 < 80 ∨ 98 ≤ c2) → h2 c2 = hm c2 := fun c2 a b d => m1 c2 a b (by omega) (by omega) (by omega) (by omega) (by omega) (by omega)
  have e64 : ∀ j, j ≠ 4 → (j < 32 ∨ 36 < j) → h2 64 j = hm 64 j := m2
  have s17 := e64 17 (by decide) (by omega)
  have s26 := e64 26 (by decide) (by omega)
  have e78 : h2 78 = hm 78 := em 78 (by decide) (by decide) (by omega)
  have ea : ∀ c2 : Nat, 64 < c2 → c2 < 77 → h2 c2 = hm c2 := fun c2 x y => em c2 (by omega) (by omega) (by omega)
  have c34 : ∀ j, j < jn → h1 34 j = hm 78 j := fun j hj => by
    have : h1 34 j = hc 45 j := c.2.1.2.1 j (by omega)
    rw [this]; exact d3 j hj
  refine ⟨o2, ac2, rn2, ⟨⟨by rw [ec 0 (by omega)]; exact a1, courtOK_congr et a2, mCt_congr (ea 68 (by omega) (by omega)) (ea 70 (by omega) (by omega)) (ea 71 (by omega) (by omega)) (ea 74 (by omega) (by omega)) (ea 75 (by omega) (by omega)) (ea 76 (by omega) (by omega)) a3, fun j a b => by rw [ec 28 (by omega)]; exact a4 j a b, by rw [ea 65 (by omega) (by omega)]; exact a5.1, by rw [ea 66 (by omega) (by omega)]; exact a5.2.1, by rw [ea 67 (by omega) (by omega)]; exact a5.2.2⟩, ⟨u, u1, u2, by rw [ec 14 (by omega)]; exact u3⟩, ⟨by rw [et 2 (by omega), ea 70 (by omega) (by omega)]; exact b1, by rw [et 6 (by omega), ea 71 (by omega) (by omega)]; exact b2, by rw [et 5 (by omega), ea 74 (by omega) (by omega)]; exact b3⟩, fun ru hru => by rw [et 10 (by omega), ruleV_congr (et 7 (by omega)) (et 8 (by omega)) (et 9 (by omega)), ea 68 (by omega) (by omega), ruM_congr (ea 68 (by omega) (by omega)) (ea (75 + ru) (by omega) (by omega))]; exact c4 ru hru, fun j hj => by rw [c34 j hj, et 3 (by omega), e78]; exact ⟨⟨rfl, (c5 j hj).1.2⟩, (c5 j hj).2⟩⟩, ⟨by rw [ec 0 (by omega), s17]; exact t1, by rw [s17]; exact t2, by rw [ec 1 (by omega), s17, em 79 (by decide) (by decide) (by omega)]; exact t3, by rw [ec 0 (by omega), s26]; exact t4⟩, ⟨by rw [ec 0 (by omega)]; exact i1, by rw [ec 0 (by omega), e64 58 (by decide) (by omega)]; exact i2, fun _ => ⟨⟨o2, ac2, rn2, ?_⟩, fun j hj => by rw [ec 45 (by omega), e78]; exact d3 j hj⟩⟩, ?_⟩
  · rw [em 98 (by decide) (by decide) (by omega), em 99 (by decide) (by decide) (by omega), em 100 (by decide) (by decide) (by omega), em 101 (by decide) (by decide) (by omega), em 102 (by decide) (by decide) (by omega), e64 59 (by decide) (by omega), e64 60 (by decide) (by omega)]
    exact dkR_cgC hn.1 hn.2 (fun k hk => ec (42 + k) (by omega)) d2
  · have rf : ∀ i, i < 27 → rowF h2 i = hm 98 i := fun i hi => by
      have f0 := rowF_vals h2 (k := 0) (by decide)
      by_cases y0 : i < 3
      · rcases (show i = 0 ∨ i = 1 ∨ i = 2 by omega) with rfl | rfl | rfl
        · rw [f0.2.2.2.1]; exact m6
        · rw [f0.2.2.2.2.1]; exact m7
        · rw [f0.2.2.2.2.2]; exact m8
      · by_cases y1 : i < 11
        · have v := (rowF_vals h2 (k := i - 3) (by omega)).1; rw [show 3 + (i - 3) = i by omega] at v
          rw [v, (m9 (i - 3) (by omega)).1, show 3 + (i - 3) = i by omega]
        · by_cases y2 : i < 19
          · have v := (rowF_vals h2 (k := i - 11) (by omega)).2.1; rw [show 11 + (i - 11) = i by omega] at v
            rw [v, (m9 (i - 11) (by omega)).2.1, show 11 + (i - 11) = i by omega]
          · have v := (rowF_vals h2 (k := i - 19) (by omega)).2.2.1; rw [show 19 + (i - 19) = i by omega] at v
            rw [v, (m9 (i - 19) (by omega)).2.2, show 19 + (i - 19) = i by omega]
    exact dkR_cgM hn.1 hn.2 rf m10 m4 m5 m11 m12 m13 (dkR_cp hn.1 hn.2 c d2)
end ZAE

