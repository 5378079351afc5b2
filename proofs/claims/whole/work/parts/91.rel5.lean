/-! CLASS AND REFERENCE: acts -/
section ZAC
variable {hc hm h1 h2 : zH} {t n jn old ac rn : Nat} {B : Int}
theorem rel_B {B2 : Int} (hB : B ≤ B2) (r : Rel hc hm t n jn old ac rn B) : Rel hc hm t n jn old ac rn B2 := by
  obtain ⟨a, b, ⟨i1, i2, i3⟩, nw⟩ := r
  have up : ∀ {o old ac rn : Nat} {b P : Nat → Int} {A R : Int} {rc rv sm : Nat → Int}, dkR hc o n jn old ac rn B b P A R rc rv sm → dkR hc o n jn old ac rn B2 b P A R rc rv sm := fun d => ⟨d.1, d.2.1, d.2.2.1, d.2.2.2.1, d.2.2.2.2.1, fun i hi => ⟨(d.2.2.2.2.2 i hi).1, (d.2.2.2.2.2 i hi).2.1, Int.le_trans (d.2.2.2.2.2 i hi).2.2 hB⟩⟩
  refine ⟨a, b, ⟨i1, i2, fun z => ?_⟩, up nw⟩
  obtain ⟨⟨o2, ac2, rn2, d2⟩, d3⟩ := i3 z
  exact ⟨⟨o2, ac2, rn2, up d2⟩, d3⟩
/-- the reference's cells that tell no row -/
def mqR (h h' : zH) : Prop := (∀ c2 : Nat, ((64 < c2 ∧ c2 < 79) ∨ c2 = 79 ∨ 98 ≤ c2) → c2 ≠ 77 → h' c2 = h c2) ∧ ∀ j, (j = 17 ∨ j = 26 ∨ (58 ≤ j ∧ j ≤ 60)) → h' 64 j = h 64 j
/-- the class's cells that tell no row, no past and no reading -/
def cqR (h h' : zH) : Prop := (∀ c2 : Nat, c2 ≠ 0 → (c2 < 28 ∨ c2 = 34 ∨ (41 < c2 ∧ c2 < 53)) → h' c2 = h c2) ∧ (∀ j, j ≠ 15 → h' 0 j = h 0 j) ∧ rkOK h'
/-- what holds of court, tape and image stays; the docket is told anew -/
theorem rel_new {old2 ac2 rn2 : Nat} (cq : cqR hc h1) (mq' : mqR hm h2) (nw : nwR h1 h2 n jn old2 ac2 rn2 B) (r : Rel hc hm t n jn old ac rn B) : Rel h1 h2 t n jn old2 ac2 rn2 B := by
  have hn := rel_n r
  obtain ⟨⟨⟨a1, a2, a3, a4, a5⟩, ⟨u, u1, u2, u3⟩, ⟨b1, b2, b3⟩, c4, c5⟩, ⟨t1, t2, t3, t4⟩, ⟨i1, i2, i3⟩, -⟩ := r
  obtain ⟨e, e0, rk⟩ := cq
  have ht : t = 2 ∨ t = 16 := a2.1
  have et : ∀ o, o ≤ 11 → h1 (t + o) = hc (t + o) := fun o ho => e (t + o) (by omega) (by omega)
  have em : ∀ c2 : Nat, 64 < c2 → c2 < 77 → h2 c2 = hm c2 := fun c2 x y => mq'.1 c2 (by omega) (by omega)
  have e78 : h2 78 = hm 78 := mq'.1 78 (by omega) (by omega)
  have e79 : h2 79 = hm 79 := mq'.1 79 (by omega) (by omega)
  have eh : ∀ c2 : Nat, 98 ≤ c2 → h2 c2 = hm c2 := fun c2 x => mq'.1 c2 (by omega) (by omega)
  have s17 := mq'.2 17 (by omega)
  have s26 := mq'.2 26 (by omega)
  refine ⟨⟨⟨by rw [e0 3 (by decide)]; exact a1, courtOK_congr et a2, mCt_congr (em 68 (by omega) (by omega)) (em 70 (by omega) (by omega)) (em 71 (by omega) (by omega)) (em 74 (by omega) (by omega)) (em 75 (by omega) (by omega)) (em 76 (by omega) (by omega)) a3, rk, by rw [em 65 (by omega) (by omega)]; exact a5.1, by rw [em 66 (by omega) (by omega)]; exact a5.2.1, by rw [em 67 (by omega) (by omega)]; exact a5.2.2⟩, ⟨u, u1, u2, by rw [e 14 (by decide) (by omega)]; exact u3⟩, ⟨by rw [et 2 (by omega), em 70 (by omega) (by omega)]; exact b1, by rw [et 6 (by omega), em 71 (by omega) (by omega)]; exact b2, by rw [et 5 (by omega), em 74 (by omega) (by omega)]; exact b3⟩, fun ru hru => by rw [et 10 (by omega), ruleV_congr (et 7 (by omega)) (et 8 (by omega)) (et 9 (by omega)), em 68 (by omega) (by omega), ruM_congr (em 68 (by omega) (by omega)) (em (75 + ru) (by omega) (by omega))]; exact c4 ru hru, by rw [e 34 (by decide) (by omega), et 3 (by omega), e78]; exact c5⟩, ⟨by rw [e0 1 (by decide), s17]; exact t1, by rw [s17]; exact t2, by rw [e 1 (by decide) (by omega), s17, e79]; exact t3, by rw [e0 2 (by decide), s26]; exact t4⟩, ⟨by rw [e0 8 (by decide)]; exact i1, by rw [e0 8 (by decide), mq'.2 58 (by omega)]; exact i2, fun z => ?_⟩, nw⟩
  rw [e0 8 (by decide)] at z
  obtain ⟨⟨o2, ac2, rn2, d2⟩, d3⟩ := i3 z
  refine ⟨⟨o2, ac2, rn2, ?_⟩, by rw [e 45 (by decide) (by omega), e78]; exact d3⟩
  rw [eh 98 (by omega), eh 99 (by omega), eh 100 (by omega), eh 101 (by omega), eh 102 (by omega), mq'.2 59 (by omega), mq'.2 60 (by omega)]
  exact dkR_cgC hn.1 hn.2 (fun k hk => e (42 + k) (by omega) (by omega)) d2
/-- a refusal is counted on both sides -/
theorem rel_refuse {i : Nat} (hi : i < 3) (r : Rel hc hm t n jn old ac rn B) : Rel (zup hc 41 i (hc 41 i + 1)) (zup (zup hm 64 4 0) 77 i (hm 77 i + 1)) t n jn old ac rn (B + 1) := by
  have hn := rel_n r
  have rk : rkOK hc := r.1.1.2.2.2.1
  have e64 : ∀ j, j ≠ 4 → zup (zup hm 64 4 0) 77 i (hm 77 i + 1) 64 j = hm 64 j := fun j hj => by rw [zup_fn (by decide), zup_at, if_neg hj]
  have eo : ∀ c2 : Nat, c2 ≠ 64 → c2 ≠ 77 → zup (zup hm 64 4 0) 77 i (hm 77 i + 1) c2 = hm c2 := fun c2 a b => by rw [zup_fn b, zup_fn a]
  refine rel_new ⟨fun c2 a b => zup_fn (by omega), fun j _ => by rw [zup_fn (by decide)], fun j a b => by rw [zup_fn (by decide)]; exact rk j a b⟩ ⟨fun c2 a b => eo c2 (by omega) b, fun j hj => e64 j (by omega)⟩ ?_ (rel_B (show B ≤ B + 1 by omega) r)
  obtain ⟨x1, x2, x3, x4, x5, x6⟩ := r.2.2.2
  have ec : ∀ k, k ≤ 9 → zup hc 41 i (hc 41 i + 1) (31 + k) = hc (31 + k) := fun k hk => zup_fn (by omega)
  have e31 : zup hc 41 i (hc 41 i + 1) 31 = hc 31 := zup_fn (by decide)
  have er : ∀ i2, rowC (zup hc 41 i (hc 41 i + 1)) 31 i2 = rowC hc 31 i2 := fun i2 => by unfold rowC; rw [ec 2 (by omega), ec 4 (by omega), ec 5 (by omega), ec 1 (by omega)]
  have ef : ∀ i2, i2 < 27 → rowF (zup (zup hm 64 4 0) 77 i (hm 77 i + 1)) i2 = rowF hm i2 := rowF_cg (fun j a b => e64 j (by omega)) (fun c2 hh => by rw [eo c2 (by omega) (by omega)]; exact agn_rfl _ _)
  refine ⟨by rw [e31]; exact x1, by rw [e64 35 (by decide), e64 36 (by decide)]; exact x2, ⟨rwR_cg hn.1 hn.2 (fun i2 _ => er i2) ef x3.1, rwOK_cg hn.1 hn.2 ef x3.2⟩, by rw [ec 7 (by omega), eo 83 (by decide) (by decide)]; exact x4, by rw [ec 8 (by omega), ec 9 (by omega), eo 92 (by decide) (by decide), eo 93 (by decide) (by decide)]; exact x5, fun i2 h2 => ?_⟩
  have y := x6 i2 h2
  have y1 : hc 41 i2 = hm 77 i2 := y.1
  show zup hc 41 i (hc 41 i + 1) 41 i2 = _ ∧ _
  rw [zup_at, zup_at]
  by_cases q : i2 = i
  · rw [if_pos q, if_pos q, ← q]; omega
  · rw [if_neg q, if_neg q, zup_fn (by decide)]; exact ⟨y1, y.2.1, by omega⟩
/-- an act is kept on both sides -/
theorem rel_keep (k1 : kept1 hc h1) (k2 : mkept (zup hm 64 4 0) h2) (r : Rel hc hm t n jn old ac rn B) : ∃ old2 ac2 : Nat, Rel h1 h2 t n jn old2 ac2 rn B := by
  have hn := rel_n r
  have rk : rkOK hc := r.1.1.2.2.2.1
  obtain ⟨x1, x2, x3, x4, x5, x6⟩ := r.2.2.2
  obtain ⟨f, o9, a9, p1, p2, p3, p4, p5, p6, p7⟩ := k1
  obtain ⟨b9, c9, q1, q2, q3, q4, q5, q6, q7, q8⟩ := k2
  have eo : o9 = old := by have := x1.1; omega
  have ea : a9 = ac := by have := x1.2.2.1; omega
  have z4 : ∀ j, j ≠ 4 → zup hm 64 4 0 64 j = hm 64 j := fun j hj => by rw [zup_at, if_neg hj]
  have eb : b9 = ac := by rw [z4 35 (by decide)] at q1; have := x2.1; omega
  subst eo ea eb
  obtain ⟨s1, s2, s3, s4, s5, s6, s7, s8⟩ := p4
  have ht : ∀ c2 : Nat, c2 ≠ 31 → zst h1 31 (hc 31) c2 = h1 c2 := fun c2 hh => zst_ne hh
  rw [ht 38 (by decide)] at s2 s3 s4 s5 s6 s7 s8
  have e1 : ∀ c2 : Nat, c2 ≠ 31 → c2 ≠ 38 → h1 c2 = hc c2 := fun c2 a b => by rw [← ht c2 a]; exact s1 c2 b
  have z83 : ∀ c2 : Nat, c2 ≠ 64 → zup hm 64 4 0 c2 = hm c2 := fun c2 hh => zup_fn hh
  have e2 : ∀ c2 : Nat, c2 ≠ 64 → c2 ≠ 83 → h2 c2 = hm c2 := fun c2 a b => by rw [q4 c2 a b, z83 c2 a]
  have e64 : ∀ j, j ≠ 35 → j ≠ 4 → h2 64 j = hm 64 j := fun j a b => by rw [q5 j a, z4 j b]
  have ef : ∀ i2, i2 < 27 → rowF h2 i2 = rowF hm i2 := rowF_cg (fun j a b => e64 j (by omega) (by omega)) (fun c2 hh => by rw [e2 c2 (by omega) (by omega)]; exact agn_rfl _ _)
  have ef2 : ∀ i2, rowF (zup hm 64 4 0) i2 = rowF hm i2 := fun i2 => by unfold rowF; rw [z4 32 (by decide), z4 33 (by decide), z4 34 (by decide), z83 80 (by decide), z83 81 (by decide), z83 82 (by decide)]
  have er : ∀ i2, rowC h1 31 i2 = rowC hc 31 i2 := fun i2 => by unfold rowC; rw [e1 33 (by decide) (by decide), e1 35 (by decide) (by decide), e1 36 (by decide) (by decide), e1 32 (by decide) (by decide)]
  have hold : o9 < 40 := x1.2.1
  have hac : b9 ≤ 40 := x1.2.2.2.1
  rw [z83 83 (by decide)] at q7
  refine ⟨if b9 = 40 then (o9 + 1) % 40 else o9, c9 + 1, rel_new ⟨fun c2 a b => e1 c2 (by omega) (by omega), fun j _ => by rw [e1 0 (by decide) (by decide)], fun j a b => by rw [e1 28 (by decide) (by decide)]; exact rk j a b⟩ ⟨fun c2 a b => e2 c2 (by omega) (by omega), fun j hj => e64 j (by omega) (by omega)⟩ ?_ r⟩
  have ec9 : c9 + 1 ≤ 40 ∧ ((c9 + 1 : Nat) : Int) = if b9 = 40 then 40 else ((b9 + 1 : Nat) : Int) := by
    rw [q3]
    by_cases z : b9 = 40
    · rw [if_pos z, if_pos z]; omega
    · rw [if_neg z, if_neg z]; omega
  have row27 : ∀ i2, i2 < 27 → h1 38 (f + i2) = rowC hc 31 i2 := fun i2 hi => by
    by_cases y1 : i2 < 8
    · rw [s2 i2 y1, rowC_l y1]
    · by_cases y2 : i2 < 16
      · have := s3 (i2 - 8) (by omega); rw [show f + 8 + (i2 - 8) = f + i2 by omega] at this
        rw [this]; have w := rowC_h (h := hc) (o := 31) (j := i2 - 8) (by omega); rw [show 8 + (i2 - 8) = i2 by omega] at w; rw [w]
      · by_cases y3 : i2 < 24
        · have := s4 (i2 - 16) (by omega); rw [show f + 16 + (i2 - 16) = f + i2 by omega] at this
          rw [this]; have w := rowC_s (h := hc) (o := 31) (j := i2 - 16) (by omega); rw [show 16 + (i2 - 16) = i2 by omega] at w; rw [w]
        · rcases (show i2 = 24 ∨ i2 = 25 ∨ i2 = 26 by omega) with rfl | rfl | rfl
          · exact s5
          · exact s6
          · exact s7
  refine ⟨⟨?_, ?_, by rw [ec9.2]; exact p6, ec9.1, by rw [p7]; exact x1.2.2.2.2.1, x1.2.2.2.2.2⟩, ⟨by rw [q6]; omega, by rw [e64 36 (by decide) (by decide)]; exact x2.2⟩, ⟨rwR_cg hn.1 hn.2 (fun i2 _ => er i2) ef x3.1, rwOK_cg hn.1 hn.2 ef x3.2⟩, fun a ha => ?_, by rw [e1 39 (by decide) (by decide), e1 40 (by decide) (by decide), e2 92 (by decide) (by decide), e2 93 (by decide) (by decide)]; exact x5, by rw [e1 41 (by decide) (by decide), e2 77 (by decide) (by decide)]; exact x6⟩
  · rw [p5]
    by_cases z : b9 = 40
    · rw [if_pos z, if_pos z]
    · rw [if_neg z, if_neg z]
  · by_cases z : b9 = 40
    · rw [if_pos z]; omega
    · rw [if_neg z]; exact hold
  · by_cases y : a = c9
    · have es : ((if b9 = 40 then (o9 + 1) % 40 else o9) + a) % 40 * 27 = f := by
        rw [p3, y, q3]
        by_cases z : b9 = 40
        · rw [if_pos z, if_pos z, if_pos z]; omega
        · rw [if_neg z, if_neg z, if_neg z]
      rw [es, y]
      have q9 : ∀ i2, i2 < 27 → h2 83 (27 * c9 + i2) = rowF hm i2 := fun i2 hi => by rw [q8 i2 hi, ef2 i2]
      exact ⟨rwR_cg hn.1 hn.2 row27 q9 x3.1, rwOK_cg hn.1 hn.2 q9 x3.2⟩
    · by_cases z : b9 = 40
      · rw [if_pos z]
        rw [if_pos z] at q3 p3
        have es : ((o9 + 1) % 40 + a) % 40 = (o9 + (a + 1)) % 40 := by omega
        have w := x4 (a + 1) (by omega)
        rw [es]
        refine ⟨rwR_cg hn.1 hn.2 (fun i2 hi => s8 _ (by omega)) (fun i2 hi => ?_) w.1, rwOK_cg hn.1 hn.2 (fun i2 hi => ?_) w.2⟩ <;>
        · show h2 83 (27 * a + i2) = hm 83 (27 * (a + 1) + i2)
          rw [q7 _ (by omega), if_pos z, show 27 * a + i2 + 27 = 27 * (a + 1) + i2 by omega]
      · rw [if_neg z]
        rw [if_neg z] at q3 p3
        have w := x4 a (by omega)
        refine ⟨rwR_cg hn.1 hn.2 (fun i2 hi => s8 _ (by omega)) (fun i2 hi => ?_) w.1, rwOK_cg hn.1 hn.2 (fun i2 hi => ?_) w.2⟩ <;>
        · show h2 83 (27 * a + i2) = hm 83 (27 * a + i2)
          rw [q7 _ (by omega), if_neg z]
end ZAC

