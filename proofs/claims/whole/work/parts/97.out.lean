/-! CLASS AND REFERENCE: the place of the answer -/
section ZRO
variable {hc hm h1 : zH} {t n jn old ac rn : Nat} {B : Int}
def mqX (h h' : zH) : Prop := (∀ c2 : Nat, ((64 < c2 ∧ c2 < 78) ∨ c2 = 79 ∨ c2 = 83 ∨ c2 = 92 ∨ c2 = 93 ∨ (98 ≤ c2 ∧ c2 ≤ 102)) → h' c2 = h c2) ∧ (∀ c2 : Nat, (c2 = 78 ∨ c2 = 80 ∨ c2 = 81 ∨ c2 = 82) → agn 8 (h' c2) (h c2)) ∧ ∀ j, stf j → h' 64 j = h 64 j
theorem rel_qX (q : mqX hm h1) (r : Rel hc hm t n jn old ac rn B) : Rel hc h1 t n jn old ac rn B := by
  have hn := rel_n r
  obtain ⟨⟨⟨a1, a2, a3, a4, a5⟩, a6, ⟨b1, b2, b3⟩, c4, c5⟩, ⟨t1, t2, t3, t4⟩, ⟨i1, i2, i3⟩, nw⟩ := r
  have e : ∀ c2 : Nat, 64 < c2 → c2 < 78 → h1 c2 = hm c2 := fun c2 x y => q.1 c2 (by omega)
  have e78 := q.2.1 78 (by omega)
  have e64 : ∀ j, stf j → h1 64 j = hm 64 j := q.2.2
  have s17 := e64 17 (by unfold stf; omega)
  have s26 := e64 26 (by unfold stf; omega)
  have e79 := q.1 79 (by omega)
  refine ⟨⟨⟨a1, a2, mCt_congr (e 68 (by omega) (by omega)) (e 70 (by omega) (by omega)) (e 71 (by omega) (by omega)) (e 74 (by omega) (by omega)) (e 75 (by omega) (by omega)) (e 76 (by omega) (by omega)) a3, a4, by rw [e 65 (by omega) (by omega)]; exact a5.1, by rw [e 66 (by omega) (by omega)]; exact a5.2.1, by rw [e 67 (by omega) (by omega)]; exact a5.2.2⟩, a6, ⟨by rw [e 70 (by omega) (by omega)]; exact b1, by rw [e 71 (by omega) (by omega)]; exact b2, by rw [e 74 (by omega) (by omega)]; exact b3⟩, fun ru hru => by rw [e 68 (by omega) (by omega), ruM_congr (e 68 (by omega) (by omega)) (e (75 + ru) (by omega) (by omega))]; exact c4 ru hru, fun j hj => by rw [e78 j (by omega)]; exact c5 j hj⟩, ⟨by rw [s17]; exact t1, by rw [s17]; exact t2, by rw [s17, e79]; exact t3, by rw [s26]; exact t4⟩, ⟨i1, by rw [e64 58 (by unfold stf; omega)]; exact i2, fun z => ?_⟩, ?_⟩
  · obtain ⟨⟨o2, ac2, rn2, d2⟩, d3⟩ := i3 z
    refine ⟨⟨o2, ac2, rn2, ?_⟩, fun j hj => by rw [e78 j (by omega)]; exact d3 j hj⟩
    rw [q.1 98 (by omega), q.1 99 (by omega), q.1 100 (by omega), q.1 101 (by omega), q.1 102 (by omega), e64 59 (by unfold stf; omega), e64 60 (by unfold stf; omega)]
    exact d2
  · exact dkR_cgM hn.1 hn.2 (rowF_cg (fun j x y => e64 j (by unfold stf; omega)) (fun c2 x => q.2.1 c2 (by omega))) (fun i _ => by rw [q.1 83 (by omega)]) (e64 35 (by unfold stf; omega)) (e64 36 (by unfold stf; omega)) (fun i _ => by rw [q.1 92 (by omega)]) (fun i _ => by rw [q.1 93 (by omega)]) (fun i _ => by rw [e 77 (by omega) (by omega)]) nw
theorem rel_out (w : Int) (i : Nat) (r : Rel hc hm t n jn old ac rn B) : Rel (zup hc 103 i w) (zup hm 103 i w) t n jn old ac rn B := by
  have r1 : Rel hc (zup hm 103 i w) t n jn old ac rn B := rel_qX ⟨fun c2 x => zup_fn (by omega), fun c2 x => by rw [zup_fn (by omega)]; exact agn_rfl _ _, fun j _ => by rw [zup_fn (by decide)]⟩ r
  exact rel_cgC (fun c2 a b => zup_fn (by omega)) (fun j _ => by rw [zup_fn (by decide)]) (fun j a b => by rw [zup_fn (by decide)]; exact r.1.1.2.2.2.1 j a b) r1
/-- the class moved to h1 and answered, the reference is asked: where both stand -/
theorem rel_C {h h1 : zH} (e : ∀ c2 : Nat, 64 ≤ c2 → h1 c2 = h c2) (r : Rel h1 h t n jn old ac rn B) : Rel h1 h1 t n jn old ac rn B := rel_qW (mqW_cg e) r
theorem rel_M {h1 h2 : zH} (e : ∀ c2 : Nat, c2 < 64 → h2 c2 = h1 c2) (r : Rel h1 h2 t n jn old ac rn B) : Rel h2 h2 t n jn old ac rn B :=
  rel_cgC (fun c2 a b => e c2 (by omega)) (fun j _ => by rw [e 0 (by omega)]) (fun j a b => by rw [e 28 (by omega)]; exact r.1.1.2.2.2.1 j a b) r
theorem rel_askW {h h1 h2 : zH} {w : Int} (q1 : qry h h1) (q2 : mq (zup h1 103 0 w) h2) (r : Rel h h t n jn old ac rn B) : Rel (zup h1 103 0 w) (zup h1 103 0 w) t n jn old ac rn B ∧ Rel h2 h2 t n jn old ac rn B := by
  have r2 : Rel h1 h1 t n jn old ac rn B := (rel_ask q1 (mq_rfl h1) r).1
  have r3 := rel_out w 0 r2
  exact ⟨r3, rel_ask0 q2 r3⟩
end ZRO

