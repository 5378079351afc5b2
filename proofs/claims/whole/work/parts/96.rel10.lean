/-! CLASS AND REFERENCE: a court -/
section ZCT
variable {hc hm h1 h2 : zH} {t n jn old ac rn : Nat} {B : Int}
theorem mRu_half {ru : Nat} (e68 : h2 68 (3 + ru) = hm 68 (3 + ru)) (e75 : ∀ i, i < 700 → h2 (75 + ru) i = hm (75 + ru) i) (hr : mRu hm ru) : mRu h2 ru ∧ ruM h2 ru = ruM hm ru := by
  constructor
  · rcases hr with h | ⟨l, b, p1, p2, p3, p4, p5, p6⟩
    · exact Or.inl (e68.trans h)
    · exact Or.inr ⟨l, b, p1, p2, e68.trans p3, p4, p5, fun i hi => by rw [e75 i (by omega)]; exact p6 i hi⟩
  · funext env
    unfold ruM
    rw [e68]
    congr 1
    refine evN_sh _ (fun i hi => ?_)
    show dec (h2 (75 + ru) (0 + i)) = dec (hm (75 + ru) (0 + i))
    rw [e75 (0 + i) ?_]
    rcases hr with h | ⟨l, b, p1, p2, p3, p4, p5, p6⟩
    · rw [h] at hi; exact absurd hi (Nat.not_lt_zero i)
    · rw [p3] at hi; omega
theorem mCt_half (e68 : ∀ j, j < 5 → h2 68 j = hm 68 j) (e8 : ∀ c2 : Nat, 69 ≤ c2 → c2 ≤ 74 → ∀ i, i < 8 → h2 c2 i = hm c2 i) (e75 : ∀ c2 : Nat, 75 ≤ c2 → c2 ≤ 76 → ∀ i, i < 700 → h2 c2 i = hm c2 i) (hct : mCt hm n jn) : mCt h2 n jn ∧ ∀ ru, ru < 2 → ruM h2 ru = ruM hm ru := by
  obtain ⟨⟨a1, a2, a3, a4⟩, b1, b2, b3, r0, r1⟩ := hct
  have x0 := mRu_half (e68 3 (by decide)) (e75 75 (by decide) (by decide)) r0
  have x1 := mRu_half (e68 4 (by decide)) (e75 76 (by decide) (by decide)) r1
  refine ⟨⟨⟨a1, a2, by rw [e68 0 (by decide)]; exact a3, by rw [e68 1 (by decide)]; exact a4⟩, fun l hl => by rw [e8 70 (by decide) (by decide) l (by omega)]; exact b1 l hl, fun j hj => by rw [e8 71 (by decide) (by decide) j (by omega)]; exact b2 j hj, fun j hj => by rw [e8 74 (by decide) (by decide) j (by omega)]; exact b3 j hj, x0.1, x1.1⟩, fun ru hru => ?_⟩
  rcases (show ru = 0 ∨ ru = 1 by omega) with rfl | rfl
  · exact x0.2
  · exact x1.2
/-- a text that is refused -/
theorem rel_courtB {u : Nat} {v : Int} (hu : hc 14 2 = (u : Int)) (c1 : ∀ c2 : Nat, c2 ≠ 0 → c2 ≠ 14 → c2 ≠ 41 → (c2 < u ∨ u + 11 < c2) → h1 c2 = hc c2) (c2 : ∀ j, j ≠ 1 → j ≠ 2 → h1 0 j = hc 0 j) (c3 : h1 0 1 = 0) (c4 : h1 0 2 = v) (c5 : h1 14 2 = (u : Int)) (c6 : h1 41 0 = hc 41 0 + 1) (c7 : ∀ j, j ≠ 0 → h1 41 j = hc 41 j)
    (m1 : frC hm h2) (m2 : h2 64 17 = 0) (m3 : h2 64 26 = v) (m4 : h2 77 0 = hm 77 0 + 1) (m5 : ∀ j, j ≠ 0 → h2 77 j = hm 77 j) (r : Rel hc hm t n jn old ac rn B) : Rel h1 h2 t n jn old ac rn (B + 1) := by
  have hn := rel_n r
  obtain ⟨⟨⟨a1, a2, a3, a4, a5⟩, ⟨u9, u1, u2, u3⟩, ⟨b1, b2, b3⟩, d4, d5⟩, -, ⟨i1, i2, i3⟩, nw⟩ := rel_B (show B ≤ B + 1 by omega) r
  have nwB := r.2.2.2
  have eu : u9 = u := by omega
  subst eu
  have ht : t = 2 ∨ t = 16 := a2.1
  have hu9 : u9 = 2 ∨ u9 = 16 := u1
  obtain ⟨f1, f2, f3, f4, f5⟩ := m1
  have et : ∀ o, o ≤ 11 → h1 (t + o) = hc (t + o) := fun o ho => c1 (t + o) (by omega) (by omega) (by omega) (by omega)
  have eh : ∀ c2 : Nat, 28 ≤ c2 → c2 ≠ 41 → h1 c2 = hc c2 := fun c2 a b => c1 c2 (by omega) (by omega) b (by omega)
  have em : ∀ c2 : Nat, ((64 < c2 ∧ c2 < 68) ∨ 77 < c2) → h2 c2 = hm c2 := fun c2 a => f1 c2 (by omega)
  have e64 : ∀ j, 27 < j → h2 64 j = hm 64 j := fun j hj => f2 j (by omega) (by omega) (by omega) (Or.inr hj)
  have mh := mCt_half f3 f4 f5 a3
  have e8 : h1 0 8 = hc 0 8 := c2 8 (by decide) (by decide)
  refine ⟨⟨⟨by rw [c2 3 (by decide) (by decide)]; exact a1, courtOK_congr et a2, mh.1, fun j a b => by rw [eh 28 (by decide) (by decide)]; exact a4 j a b, by rw [em 65 (by omega)]; exact a5.1, by rw [em 66 (by omega)]; exact a5.2.1, by rw [em 67 (by omega)]; exact a5.2.2⟩, ⟨u9, u1, u2, c5⟩, ⟨fun l hl => by rw [et 2 (by omega), f4 70 (by decide) (by decide) l (by omega)]; exact b1 l hl, fun j hj => by rw [et 6 (by omega), f4 71 (by decide) (by decide) j (by omega)]; exact b2 j hj, fun j hj => by rw [et 5 (by omega), f4 74 (by decide) (by decide) j (by omega)]; exact b3 j hj⟩, fun ru hru => by rw [et 10 (by omega), ruleV_congr (et 7 (by omega)) (et 8 (by omega)) (et 9 (by omega)), f3 (3 + ru) (by omega), mh.2 ru hru]; exact d4 ru hru, by rw [eh 34 (by decide) (by decide), et 3 (by omega), em 78 (by omega)]; exact d5⟩, ⟨by rw [c3, m2], by rw [m2]; decide, fun i hi => by rw [m2] at hi; omega, by rw [c4, m3]⟩, ⟨by rw [e8]; exact i1, by rw [e8, e64 58 (by decide)]; exact i2, fun z => ?_⟩, ?_⟩
  · rw [e8] at z
    obtain ⟨⟨o2, ac2, rn2, d2⟩, d3⟩ := i3 z
    refine ⟨⟨o2, ac2, rn2, ?_⟩, by rw [eh 45 (by decide) (by decide), em 78 (by omega)]; exact d3⟩
    rw [em 98 (by omega), em 99 (by omega), em 100 (by omega), em 101 (by omega), em 102 (by omega), e64 59 (by decide), e64 60 (by decide)]
    exact dkR_cgC hn.1 hn.2 (fun k hk => eh (42 + k) (by omega) (by omega)) d2
  · obtain ⟨x1, x2, x3, x4, x5, x6⟩ := nwB
    have er : ∀ i2, rowC h1 31 i2 = rowC hc 31 i2 := fun i2 => by unfold rowC; rw [eh 33 (by decide) (by decide), eh 35 (by decide) (by decide), eh 36 (by decide) (by decide), eh 32 (by decide) (by decide)]
    have ef : ∀ i2, i2 < 27 → rowF h2 i2 = rowF hm i2 := rowF_cg (fun j a b => e64 j (by omega)) (fun c2 hh => by rw [em c2 (by omega)]; exact agn_rfl _ _)
    refine ⟨by rw [eh 31 (by decide) (by decide)]; exact x1, by rw [e64 35 (by decide), e64 36 (by decide)]; exact x2, ⟨rwR_cg hn.1 hn.2 (fun i2 _ => er i2) ef x3.1, rwOK_cg hn.1 hn.2 ef x3.2⟩, by rw [eh 38 (by decide) (by decide), em 83 (by omega)]; exact x4, by rw [eh 39 (by decide) (by decide), eh 40 (by decide) (by decide), em 92 (by omega), em 93 (by omega)]; exact x5, fun i hi => ?_⟩
    have y := x6 i hi
    have y1 : hc 41 i = hm 77 i := y.1
    show h1 41 i = h2 77 i ∧ _
    by_cases z : i = 0
    · subst z; rw [c6, m4]; omega
    · rw [c7 i z, m5 i z]; exact ⟨y1, y.2.1, by omega⟩
theorem getD_mem {α : Type} {l : List α} {d : α} {i : Nat} (hi : i < l.length) : l.getD i d ∈ l := by
  rw [List.getD_eq_getElem?_getD, List.getElem?_eq_getElem hi]; exact List.getElem_mem hi
/-- a text that is heard: the draft is the court -/
theorem rel_courtO {u : Nat} {D : zDf} {hx hy g : zH} {c : Nat} (hu : hc 14 2 = (u : Int)) (c1 : ∀ c2 : Nat, c2 ≠ 0 → c2 ≠ 14 → (c2 < u ∨ u + 11 < c2) → hx c2 = hc c2) (c3 : hx 0 1 = 0) (c4 : hx 0 2 = -1) (c5 : hx 0 3 = (u : Int)) (c6 : hx 0 8 = 0) (c7 : hx 14 2 = (t : Int)) (hcc : c ≤ 700) (c8 : drf hx u c D) (c9 : opened hx 32 u hy)
    (m1 : frC hm g) (m2 : g 77 = hm 77) (m4 : g 64 17 = 0) (m5 : g 64 26 = -1) (m6 : drM g D) (m7 : dfOK D) (m8 : tkQ g h2) (r : Rel hc hm t n jn old ac rn B) : Rel (zup (zup hy 31 3 0) 31 6 0) h2 u D.1.length D.2.1.length old 0 0 B := by
  obtain ⟨⟨⟨a1, a2, a3, a4, a5⟩, ⟨u9, u1, u2, u3⟩, -⟩, -, -, nw⟩ := r
  have eu : u9 = u := by omega
  subst eu
  have ht : t = 2 ∨ t = 16 := a2.1
  have hu9 : u9 = 2 ∨ u9 = 16 := u1
  have hco := court_of u1 hcc c8 m7
  obtain ⟨o1, o2, o3, o4, o5, o6⟩ := m7
  obtain ⟨⟨p1, p2⟩, ⟨p3, p4⟩, p5, p6, p7, p8⟩ := c8
  obtain ⟨⟨q1, q2⟩, ⟨q3, q4⟩, q5, q8⟩ := m6
  obtain ⟨w1, w2, w3, w4, w5, w6, w7, w8, w9⟩ := c9
  obtain ⟨k1, k2, k3, k4, k5, ⟨k6, k7, k8, k9, k10, k11⟩, k12⟩ := m8
  obtain ⟨f1, f2, f3, f4, f5⟩ := m1
  have eF : ∀ c2 : Nat, c2 ≠ 31 → zup (zup hy 31 3 0) 31 6 0 c2 = hy c2 := fun c2 a => by rw [zup_fn a, zup_fn a]
  have ey : ∀ c2 : Nat, c2 ≠ 31 → (c2 < 32 ∨ 36 < c2) → zup (zup hy 31 3 0) 31 6 0 c2 = hx c2 := fun c2 a b => by rw [eF c2 a]; exact w1 c2 (by omega) (by omega) (by omega) (by omega) (by omega)
  have et : ∀ o, o ≤ 11 → zup (zup hy 31 3 0) 31 6 0 (u9 + o) = hx (u9 + o) := fun o ho => ey (u9 + o) (by omega) (by omega)
  have e31 : ∀ j, j ≠ 3 → j ≠ 6 → zup (zup hy 31 3 0) 31 6 0 31 j = hc 31 j := fun j a b => by rw [zup_at, if_neg b, zup_at, if_neg a, w1 31 (by decide) (by decide) (by decide) (by decide) (by decide), c1 31 (by decide) (by decide) (by omega)]
  have g8 : ∀ c2 : Nat, 69 ≤ c2 → c2 ≤ 74 → ∀ i, i < 8 → h2 c2 i = g c2 (8 + i) := fun c2 a b i hi => by rw [k1 c2 (by omega) (by omega) (by omega) (by omega) (by omega)]; exact thv_8 g ⟨a, b⟩ hi
  have g68 : ∀ i, i < 5 → h2 68 i = g 68 (5 + i) := fun i hi => by rw [k1 68 (by decide) (by decide) (by decide) (by decide) (by decide)]; exact thv_68 g hi
  have gr : ∀ ru, ru < 2 → ∀ i, i < 700 → h2 (75 + ru) i = g (75 + ru) (700 + i) := fun ru hru i hi => by rw [k1 (75 + ru) (by omega) (by omega) (by omega) (by omega) (by omega)]; exact thv_r g hru hi
  have go : ∀ c2 : Nat, (c2 < 64 ∨ (64 < c2 ∧ c2 < 68)) → h2 c2 = hm c2 := fun c2 a => by rw [k1 c2 (by omega) (by omega) (by omega) (by omega) (by omega), thv_o g (by omega)]; exact f1 c2 (by omega)
  have t80 : ∀ i, i < D.1.length → h2 80 i = (D.1.getD i (0, 0)).1 := fun i hi => by rw [k2 i (by omega)]; unfold tkV; rw [q1, if_pos (by omega)]; exact (q2 i hi).1
  have t78 : ∀ j, j < D.2.1.length → h2 78 j = (D.2.1.getD j (0, 0, 0, 0)).1 := fun j hj => by rw [k3 j (by omega)]; unfold tkV; rw [q3, if_pos (by omega)]; exact (q4 j hj).1
  have t82 : ∀ j, j < D.2.1.length → h2 82 j = (D.2.1.getD j (0, 0, 0, 0)).2.1 := fun j hj => by rw [k4 j (by omega)]; unfold tkV; rw [q3, if_pos (by omega)]; exact (q4 j hj).2.1
  have rul : ∀ ru, ru < 2 → mRu h2 ru ∧ hx (u9 + 10) ru = t01 (h2 68 (3 + ru)) ∧ (hx (u9 + 10) ru ≠ 0 → ruleV hx u9 ru = ruM h2 ru) := by
    intro ru hru
    have x8 := p8 ru hru
    have y8 := q8 ru hru
    have z8 := o6 ru hru
    have e68 : h2 68 (3 + ru) = g 68 (8 + ru) := by rw [g68 (3 + ru) (by omega), show 5 + (3 + ru) = 8 + ru by omega]
    cases e : ruO D ru with
    | none =>
      rw [e] at x8 y8
      have y0 : h2 68 (3 + ru) = 0 := by rw [e68]; exact y8.1
      exact ⟨Or.inl y0, by rw [y0, x8.1]; rfl, fun z => absurd x8.1 z⟩
    | some x =>
      obtain ⟨l, b⟩ := x
      rw [e] at x8 y8
      have z9 := z8 (l, b) e
      obtain ⟨v1, v2, fr, v3, v4, v5, v6⟩ := x8
      have yl : h2 68 (3 + ru) = (l.length : Int) := by rw [e68]; exact y8.1
      have ys : ∀ i, i < l.length → h2 (75 + ru) i = enc (l.getD i 0) := fun i hi => by rw [gr ru hru i (by omega)]; exact y8.2 i hi
      have l0 : l.length ≠ 0 := fun z => z9.1 (List.eq_nil_of_length_eq_zero z)
      refine ⟨Or.inr ⟨l, b, z9.1, by omega, yl, z9.2.1, z9.2.2, ys⟩, by rw [v1, yl]; unfold t01; rw [if_neg (by omega)], fun _ => ?_⟩
      funext env
      rw [← ruM_of (e1 := env) yl z9.2.2 ys (fun _ _ _ => rfl)]
      unfold ruleV
      rw [v3, v4, Int.toNat_natCast, Int.toNat_natCast, show fr + l.length - fr = l.length by omega]
      congr 1
      exact evN_sh _ (fun i hi => by rw [v6 i hi, Nat.zero_add])
  have mct : mCt h2 D.1.length D.2.1.length := by
    refine ⟨⟨o1, o3, by rw [g68 0 (by decide)]; exact q1, by rw [g68 1 (by decide)]; exact q3⟩, fun l hl => ?_, fun j hj => ?_, fun j hj => ?_, (rul 0 (by decide)).1, (rul 1 (by decide)).1⟩
    · rw [g8 70 (by decide) (by decide) l (by omega), (q2 l hl).2]; exact (o2 _ (getD_mem hl)).2
    · rw [g8 71 (by decide) (by decide) j (by omega), (q4 j hj).2.2.2]; exact (o4 _ (getD_mem hj)).2.2.2
    · rw [g8 74 (by decide) (by decide) j (by omega), (q4 j hj).2.2.1]; exact (o4 _ (getD_mem hj)).2.2.1
  refine ⟨⟨⟨by rw [ey 0 (by decide) (by omega)]; exact c5, courtOK_congr et hco, mct, fun j a b => by rw [ey 28 (by decide) (by omega), c1 28 (by decide) (by decide) (by omega)]; exact a4 j a b, by rw [go 65 (by omega)]; exact a5.1, by rw [go 66 (by omega)]; exact a5.2.1, by rw [go 67 (by omega)]; exact a5.2.2⟩, ⟨t, a2.1, fun z => u2 z.symm, by rw [ey 14 (by decide) (by omega)]; exact c7⟩, ⟨fun l hl => by rw [et 2 (by omega), (p2 l hl).2, g8 70 (by decide) (by decide) l (by omega), (q2 l hl).2], fun j hj => by rw [et 6 (by omega), (p4 j hj).2.2.2, g8 71 (by decide) (by decide) j (by omega), (q4 j hj).2.2.2], fun j hj => by rw [et 5 (by omega), (p4 j hj).2.2.1, g8 74 (by decide) (by decide) j (by omega), (q4 j hj).2.2.1]⟩, fun ru hru => by rw [et 10 (by omega), ruleV_congr (et 7 (by omega)) (et 8 (by omega)) (et 9 (by omega))]; exact (rul ru hru).2, fun j hj => ?_⟩, ⟨by rw [ey 0 (by decide) (by omega), c3, k12 17 (by decide) (by decide) (by decide) (by decide) (by decide) (by decide), m4], by rw [k12 17 (by decide) (by decide) (by decide) (by decide) (by decide) (by decide), m4]; decide, fun i hi => by rw [k12 17 (by decide) (by decide) (by decide) (by decide) (by decide) (by decide), m4] at hi; omega, by rw [ey 0 (by decide) (by omega), c4, k12 26 (by decide) (by decide) (by decide) (by decide) (by decide) (by decide), m5]⟩, ⟨Or.inl (by rw [ey 0 (by decide) (by omega)]; exact c6), by rw [ey 0 (by decide) (by omega), c6, k11], fun z => by rw [ey 0 (by decide) (by omega), c6] at z; exact absurd z (by decide)⟩, ?_⟩
  · have ed : hy 34 j = hx (u9 + 3) j := w3 j (by omega)
    rw [eF 34 (by decide), ed, et 3 (by omega), (p4 j hj).1, t78 j hj]
    exact ⟨⟨rfl, rfl⟩, (o4 _ (getD_mem hj)).1⟩
  · obtain ⟨x1, x2, x3, x4, x5, x6⟩ := nw
    have e33 : ∀ i, i < 8 → hy 33 i = hx (u9 + 1) i := w2
    have e35 : ∀ i, i < 8 → hy 35 i = hx (u9 + 4) i := w4
    have e36 : ∀ i : Nat, i < 8 → hy 36 i = (i : Int) := w5
    have s7 : hx u9 8 = D.2.2.1 := p5
    refine ⟨⟨by rw [e31 2 (by decide) (by decide)]; exact x1.1, x1.2.1, by rw [zup_at, if_neg (by decide), zup_at, if_pos rfl]; rfl, by omega, by rw [zup_at, if_pos rfl]; rfl, by omega⟩, ⟨by rw [k9]; rfl, by rw [k10]; rfl⟩, ⟨row_mk o1 o3 (fun i hi => ?_) (fun j hj => ?_) (fun j hj => ?_) ?_ ?_ ?_, ok_mk o1 o3 (fun l hl => ?_) (fun j hj => ?_) (fun s hs => ?_) ?_ ?_ ?_⟩, fun a ha => absurd ha (Nat.not_lt_zero a), fun i hi => absurd hi (Nat.not_lt_zero i), fun i hi => ?_⟩
    · rw [eF 33 (by decide), e33 i (by omega), (p2 i hi).1, t80 i hi]
    · rw [eF 35 (by decide), e35 j (by omega), (p4 j hj).2.1, t82 j hj]
    · rw [eF 36 (by decide), e36 j (by omega), k5 j (by omega)]
    · rw [eF 32 (by decide), w6, s7, k7, q5]
    · rw [eF 32 (by decide), w7, k6]
    · rw [eF 32 (by decide), w8, k8]
    · rw [t80 l hl]; have := (o2 _ (getD_mem (d := (0, 0)) hl)).1; omega
    · rw [t82 j hj]; exact (o4 _ (getD_mem hj)).2.1
    · rw [k5 s (by omega)]; omega
    · exact ⟨fun a b ha hb e => by rw [k5 a (by omega), k5 b (by omega)] at e; omega, fun j hj => ⟨j, hj, k5 j (by omega)⟩⟩
    · rw [k7, q5]; exact o5
    · rw [k6]; decide
    · show zup (zup hy 31 3 0) 31 6 0 41 i = h2 77 i ∧ _
      rw [ey 41 (by decide) (by omega), c1 41 (by decide) (by decide) (by omega), k1 77 (by decide) (by decide) (by decide) (by decide) (by decide), thv_o g (by omega), m2]
      exact x6 i hi
end ZCT

