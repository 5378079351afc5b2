/-! CLASS AND REFERENCE: what asking leaves -/
section ZRM
variable {hc hm h1 : zH} {t n jn old ac rn : Nat} {B : Int}
theorem rel_cgC (e : ∀ c2 : Nat, c2 ≠ 0 → (c2 < 28 ∨ (30 < c2 ∧ c2 < 53)) → h1 c2 = hc c2) (e0 : ∀ j, j ≠ 15 → h1 0 j = hc 0 j) (rk : rkOK h1) (r : Rel hc hm t n jn old ac rn B) : Rel h1 hm t n jn old ac rn B := by
  have hn := rel_n r
  obtain ⟨⟨⟨a1, a2, a3, a4, a5⟩, ⟨u, u1, u2, u3⟩, ⟨b1, b2, b3⟩, c4, c5⟩, ⟨t1, t2, t3, t4⟩, ⟨i1, i2, i3⟩, nw⟩ := r
  have ht : t = 2 ∨ t = 16 := a2.1
  have et : ∀ o, o ≤ 11 → h1 (t + o) = hc (t + o) := fun o ho => e (t + o) (by omega) (by omega)
  refine ⟨⟨⟨by rw [e0 3 (by decide)]; exact a1, courtOK_congr et a2, a3, rk, a5⟩, ⟨u, u1, u2, by rw [e 14 (by decide) (by omega)]; exact u3⟩, ⟨by rw [et 2 (by omega)]; exact b1, by rw [et 6 (by omega)]; exact b2, by rw [et 5 (by omega)]; exact b3⟩, fun ru hru => by rw [et 10 (by omega), ruleV_congr (et 7 (by omega)) (et 8 (by omega)) (et 9 (by omega))]; exact c4 ru hru, by rw [e 34 (by decide) (by omega), et 3 (by omega)]; exact c5⟩, ⟨by rw [e0 1 (by decide)]; exact t1, t2, by rw [e 1 (by decide) (by omega)]; exact t3, by rw [e0 2 (by decide)]; exact t4⟩, ⟨by rw [e0 8 (by decide)]; exact i1, by rw [e0 8 (by decide)]; exact i2, fun z => ?_⟩, dkR_cgC hn.1 hn.2 (fun k hk => e (31 + k) (by omega) (by omega)) nw⟩
  rw [e0 8 (by decide)] at z
  obtain ⟨⟨o2, ac2, rn2, d2⟩, d3⟩ := i3 z
  exact ⟨⟨o2, ac2, rn2, dkR_cgC hn.1 hn.2 (fun k hk => e (42 + k) (by omega) (by omega)) d2⟩, by rw [e 45 (by decide) (by omega)]; exact d3⟩
theorem rel_qC (q : qry hc h1) (r : Rel hc hm t n jn old ac rn B) : Rel h1 hm t n jn old ac rn B :=
  rel_cgC (fun c2 a b => q.1 c2 a (by omega)) q.2.1 q.2.2 r
/-- what the reference's cells must keep -/
def mqW (h h' : zH) : Prop := (∀ c2 : Nat, ((64 < c2 ∧ c2 < 78) ∨ c2 = 79 ∨ c2 = 83 ∨ c2 = 92 ∨ c2 = 93 ∨ 98 ≤ c2) → h' c2 = h c2) ∧ (∀ c2 : Nat, (c2 = 78 ∨ c2 = 80 ∨ c2 = 81 ∨ c2 = 82) → agn 8 (h' c2) (h c2)) ∧ ∀ j, stf j → h' 64 j = h 64 j
theorem mqW_of (q : mq hm h1) : mqW hm h1 := ⟨fun c2 x => q.1 c2 (by omega), q.2.1, q.2.2⟩
theorem mqW_cg (e : ∀ c2 : Nat, 64 ≤ c2 → h1 c2 = hm c2) : mqW hm h1 := ⟨fun c2 x => e c2 (by omega), fun c2 x => by rw [e c2 (by omega)]; exact agn_rfl _ _, fun j _ => by rw [e 64 (by omega)]⟩
theorem rowF_cg (h64 : ∀ j, 32 ≤ j → j ≤ 34 → h1 64 j = hm 64 j) (e : ∀ c2 : Nat, (c2 = 80 ∨ c2 = 81 ∨ c2 = 82) → agn 8 (h1 c2) (hm c2)) : ∀ i, i < 27 → rowF h1 i = rowF hm i := by
  intro i hi
  unfold rowF
  rw [h64 32 (by omega) (by omega), h64 33 (by omega) (by omega), h64 34 (by omega) (by omega)]
  repeat' split
  all_goals first | rfl | exact e _ (by omega) _ (by omega)
theorem rel_qW (q : mqW hm h1) (r : Rel hc hm t n jn old ac rn B) : Rel hc h1 t n jn old ac rn B := by
  have hn := rel_n r
  obtain ⟨⟨⟨a1, a2, a3, a4, a5⟩, a6, ⟨b1, b2, b3⟩, c4, c5⟩, ⟨t1, t2, t3, t4⟩, ⟨i1, i2, i3⟩, nw⟩ := r
  have e : ∀ c2 : Nat, 64 < c2 → c2 < 78 → h1 c2 = hm c2 := fun c2 x y => q.1 c2 (by omega)
  have e78 := q.2.1 78 (by omega)
  have e64 : ∀ j, stf j → h1 64 j = hm 64 j := q.2.2
  have s17 := e64 17 (by unfold stf; omega)
  have s26 := e64 26 (by unfold stf; omega)
  have e79 := q.1 79 (by omega)
  refine ⟨⟨⟨a1, a2, mCt_congr (e 68 (by omega) (by omega)) (e 70 (by omega) (by omega)) (e 71 (by omega) (by omega)) (e 74 (by omega) (by omega)) (e 75 (by omega) (by omega)) (e 76 (by omega) (by omega)) a3, a4, by rw [e 65 (by omega) (by omega)]; exact a5.1, by rw [e 66 (by omega) (by omega)]; exact a5.2.1, by rw [e 67 (by omega) (by omega)]; exact a5.2.2⟩, a6, ⟨by rw [e 70 (by omega) (by omega)]; exact b1, by rw [e 71 (by omega) (by omega)]; exact b2, by rw [e 74 (by omega) (by omega)]; exact b3⟩, fun ru hru => by rw [e 68 (by omega) (by omega), ruM_congr (e 68 (by omega) (by omega)) (e (75 + ru) (by omega) (by omega))]; exact c4 ru hru, fun j hj => by rw [e78 j (by omega)]; exact c5 j hj⟩, ⟨by rw [s17]; exact t1, by rw [s17]; exact t2, by rw [s17, e79]; exact t3, by rw [s26]; exact t4⟩, ⟨i1, by rw [e64 58 (by unfold stf; omega)]; exact i2, fun z => ?_⟩, ?_⟩
  · obtain ⟨⟨o2, ac2, rn2, d2⟩, d3⟩ := i3 z
    refine ⟨⟨o2, ac2, rn2, ?_⟩, fun j hj => by rw [e78 j (by omega)]; exact d3 j hj⟩
    rw [q.1 98 (by omega), q.1 99 (by omega), q.1 100 (by omega), q.1 101 (by omega), q.1 102 (by omega), e64 59 (by unfold stf; omega), e64 60 (by unfold stf; omega)]
    exact d2
  · exact dkR_cgM hn.1 hn.2 (rowF_cg (fun j x y => e64 j (by unfold stf; omega)) (fun c2 x => q.2.1 c2 (by omega))) (fun i _ => by rw [q.1 83 (by omega)]) (e64 35 (by unfold stf; omega)) (e64 36 (by unfold stf; omega)) (fun i _ => by rw [q.1 92 (by omega)]) (fun i _ => by rw [q.1 93 (by omega)]) (fun i _ => by rw [e 77 (by omega) (by omega)]) nw
/-- behind an asking of both -/
theorem rel_ask {h h1 h2 : zH} (q1 : qry h h1) (q2 : mq h1 h2) (r : Rel h h t n jn old ac rn B) : Rel h1 h1 t n jn old ac rn B ∧ Rel h2 h2 t n jn old ac rn B := by
  have r1 : Rel h1 h t n jn old ac rn B := rel_qC q1 r
  have r2 : Rel h1 h1 t n jn old ac rn B := rel_qW (mqW_cg (fun c2 hc => q1.1 c2 (by omega) (by omega))) r1
  have r3 : Rel h1 h2 t n jn old ac rn B := rel_qW (mqW_of q2) r2
  have rk : rkOK h1 := q1.2.2
  have e : ∀ c2 : Nat, c2 < 64 → h2 c2 = h1 c2 := fun c2 hc => q2.1 c2 (by omega)
  exact ⟨r2, rel_cgC (fun c2 a b => e c2 (by omega)) (fun j _ => by rw [e 0 (by omega)]) (fun j a b => by rw [e 28 (by omega)]; exact rk j a b) r3⟩
/-- an asking of the class that left all as it was -/
theorem rel_ask0 {h h2 : zH} (q2 : mq h h2) (r : Rel h h t n jn old ac rn B) : Rel h2 h2 t n jn old ac rn B := by
  have r3 : Rel h h2 t n jn old ac rn B := rel_qW (mqW_of q2) r
  have e : ∀ c2 : Nat, c2 < 64 → h2 c2 = h c2 := fun c2 hc => q2.1 c2 (by omega)
  exact rel_cgC (fun c2 a b => e c2 (by omega)) (fun j _ => by rw [e 0 (by omega)]) (fun j a b => by rw [e 28 (by omega)]; exact r.1.1.2.2.2.1 j a b) r3
/-- k cases from now on, on both sides -/
theorem rel_run (r : Rel hc hm t n jn old ac rn B) : ∀ k, agn n (nowR hc t n jn k).1 (RM hm n jn k).1 ∧ (1 ≤ k → (nowR hc t n jn k).2.1 = (RM hm n jn k).2.1 ∧ (nowR hc t n jn k).2.2.1 = (RM hm n jn k).2.2.1 ∧ ∀ j, j < jn → (nowR hc t n jn k).2.2.2 j = (RM hm n jn k).2.2.2 j) := by
  intro k
  obtain ⟨d1, d2, d3, d4, d5, d6, d7⟩ := rel_dyn r
  obtain ⟨ti, mi, pm, -, -⟩ := rel_inv r
  have g := rel_g r
  have hs : ∀ s, s < jn → 0 ≤ (gOf hc 32 t).1 s ∧ (gOf hc 32 t).1 s < jn := ti.2.2.1.2.2.2.2.1
  have := runG_0 g hs (ca := hc 32 6) (x := xOf hc 32) (y := (hm 80, 0, 0, fun _ => 0)) d1 k
  have e1 : nowR hc t n jn k = runG n jn (gOf hc 32 t) (hc 32 6) (xOf hc 32) k := rfl
  have e2 : RM hm n jn k = runG n jn (gM hm) (hc 32 6) (hm 80, 0, 0, fun _ => 0) k := by rw [d6]; rfl
  rw [e1, e2]
  refine ⟨this.1, fun hk => ⟨(this.2 hk).1, (this.2 hk).2.1, fun j hj => (this.2 hk).2.2 j ?_⟩⟩
  obtain ⟨s, s1, s2⟩ := pm.2 j hj
  exact ⟨s, s1, (d4 s s1).trans s2⟩
end ZRM

