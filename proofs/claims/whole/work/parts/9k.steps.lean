/-! A STEP OF THE LAW, by its contracts: the class's wrapper, then the reference -/
theorem zCalH_mono {E : zE} {M : zM} {hh : List (Nat × Nat × Nat × Nat)} {d k : Nat} {av : List Value} {h : zH} {Q Q2 : Option Value → zH → Prop} {X X2 : String → zH → Prop} (hc : zCalH E M hh d k av h Q X) (hQ : ∀ r h', Q r h' → Q2 r h') (hX : ∀ e h', X e h' → X2 e h') : zCalH E M hh d k av h Q2 X2 := by
  intro p e he f1 f2 s m args below a1 a2 a3 a4
  obtain ⟨n, o, b1, b2, b3, b4⟩ := hc p e he f1 f2 s m args below a1 a2 a3 a4
  refine ⟨n, o, b1, b2, b3, ?_⟩
  rcases b4 with ⟨⟨⟨r, h', c1, c2, c3⟩, c4⟩, c5⟩ | ⟨q, c1, Ex, ce, L, ⟨h', c2, c3⟩, c4⟩
  · exact Or.inl ⟨⟨⟨r, h', c1, hQ r h' c2, c3⟩, c4⟩, c5⟩
  · exact Or.inr ⟨q, c1, Ex, ce, L, ⟨h', hX Ex h' c2, c3⟩, c4⟩
/-- how a wrapper ends: its code k, and what stands behind it -/
def stQ (P : Int → zH → Prop) : Option Value → zH → Prop := fun r1 h' => ∃ k : Int, r1 = some (ziv k) ∧ (0 ≤ k ∧ k ≤ 2) ∧ P k h'
theorem askd0 {h h1 : zH} {V v : Int} (q : qry h h1) (b : (some (ziv v) : Option Value) = some (ziv V)) : askd h 0 V (zup h1 103 0 (zn v)) := Or.inl ⟨rfl, h1, q, by rw [ziv_inj b]⟩
theorem askd1 {h h' : zH} {k : Int} (hk : k ≠ 0) (e : h' = h) : askd h k 0 h' := Or.inr ⟨hk, e⟩
section ZSP
variable {E : zE} {h : zH} {t n jn old ac rn : Nat} {B : Int}
theorem rel_wi (r : Rel h h t n jn old ac rn B) : ∀ j, j < jn → 0 ≤ h (t + 5) j ∧ h (t + 5) j ≤ 4 := fun j hj => by rw [r.1.2.2.1.2.2 j hj]; exact r.1.1.2.2.1.2.2.2.1 j hj
theorem rel_se (r : Rel h h t n jn old ac rn B) : ∀ j, j < jn → seated (h 36) jn j := (permM_cg (fun j hj => (rel_dyn r).2.2.2.1 j hj) (rel_inv r).2.2.1).2
theorem rel_sm (r : Rel h h t n jn old ac rn B) : ∀ j, j < jn → seated (h 81) jn j := (rel_inv r).2.2.1.2
theorem st_count {x : Int} (hx : -2147483648 ≤ x ∧ x ≤ 2147483647) (r : Rel h h t n jn old ac rn B) : zCalH E mL_count hL_count 13 4 [zrv E 0, ziv x, zrv E 103] h (stQ (fun k h' => zCal E mX6_count 12 4 [zrv E 64, ziv x] h' (stp B k) (fun _ _ => False))) (fun _ _ => False) := by
  obtain ⟨i1, i2, i3, i4, i5⟩ := rel_inv r
  refine zCalH_mono (cw_count (c5_count hx  i1) (fun r1 h1 q => ⟨_, q.2.1⟩) (fun e h1 q => q.2.1)) (fun r1 h' q => ?_) (fun _ _ z => z)
  rcases q with ⟨v9, h1, rfl, ⟨a, b, c⟩, rfl⟩ | ⟨e, rfl, q1, q2, q3⟩
  · have ka := askd0 (h := h) (h1 := h1) c b
    refine ⟨0, rfl, by decide, ?_⟩
    have r' := rel_pre (askd_e ka) r
    exact zCal_mono (c6_count hx  (rel_inv r').2.1) (fun r2 h2 m => ask_fin ka (if_pos a) m (fun _ => a_count r' x) r) (fun _ _ z => z)
  · have ka := askd1 (k := 1) (by decide) q1
    refine ⟨1, rfl, by decide, ?_⟩
    have r' := rel_pre (askd_e ka) r
    exact zCal_mono (c6_count hx  (rel_inv r').2.1) (fun r2 h2 m => ask_fin ka (if_neg q3) m (fun z => absurd z (by decide)) r) (fun _ _ z => z)
theorem st_leaf {x w : Int} (hx : -2147483648 ≤ x ∧ x ≤ 2147483647) (hw : -2147483648 ≤ w ∧ w ≤ 2147483647) (r : Rel h h t n jn old ac rn B) : zCalH E mL_leaf hL_leaf 13 4 [zrv E 0, ziv x, ziv w, zrv E 103] h (stQ (fun k h' => zCal E mX6_leaf 12 4 [zrv E 64, ziv x, ziv w] h' (stp B k) (fun _ _ => False))) (fun _ _ => False) := by
  obtain ⟨i1, i2, i3, i4, i5⟩ := rel_inv r
  refine zCalH_mono (cw_leaf (c5_leaf hx hw  i1) (fun r1 h1 q => ⟨_, q.2.1⟩) (fun e h1 q => q.2.1)) (fun r1 h' q => ?_) (fun _ _ z => z)
  rcases q with ⟨v9, h1, rfl, ⟨a, b, c⟩, rfl⟩ | ⟨e, rfl, q1, q2, q3⟩
  · have ka := askd0 (h := h) (h1 := h1) (by rw [c]; exact qry_rfl i1.2.2.2.1) b
    refine ⟨0, rfl, by decide, ?_⟩
    have r' := rel_pre (askd_e ka) r
    exact zCal_mono (c6_leaf hx hw  (rel_inv r').2.1) (fun r2 h2 m => ask_fin ka (if_pos a) m (fun _ => a_leaf r' (by omega) w) r) (fun _ _ z => z)
  · have ka := askd1 (k := 1) (by decide) q1
    refine ⟨1, rfl, by decide, ?_⟩
    have r' := rel_pre (askd_e ka) r
    exact zCal_mono (c6_leaf hx hw  (rel_inv r').2.1) (fun r2 h2 m => ask_fin ka (if_neg q3) m (fun z => absurd z (by decide)) r) (fun _ _ z => z)
theorem st_judge {x w : Int} (hx : -2147483648 ≤ x ∧ x ≤ 2147483647) (hw : -2147483648 ≤ w ∧ w ≤ 2147483647) (r : Rel h h t n jn old ac rn B) : zCalH E mL_judge hL_judge 13 4 [zrv E 0, ziv x, ziv w, zrv E 103] h (stQ (fun k h' => zCal E mX6_judge 12 4 [zrv E 64, ziv x, ziv w] h' (stp B k) (fun _ _ => False))) (fun _ _ => False) := by
  obtain ⟨i1, i2, i3, i4, i5⟩ := rel_inv r
  refine zCalH_mono (cw_judge (c5_judge hx hw (rel_wi r) i1) (fun r1 h1 q => ⟨_, q.2.1⟩) (fun e h1 q => q.2.1)) (fun r1 h' q => ?_) (fun _ _ z => z)
  rcases q with ⟨v9, h1, rfl, ⟨a, b, c⟩, rfl⟩ | ⟨e, rfl, q1, q2, q3⟩
  · have ka := askd0 (h := h) (h1 := h1) (by rw [c]; exact qry_rfl i1.2.2.2.1) b
    refine ⟨0, rfl, by decide, ?_⟩
    have r' := rel_pre (askd_e ka) r
    exact zCal_mono (c6_judge hx hw  (rel_inv r').2.1) (fun r2 h2 m => ask_fin ka (if_pos a) m (fun _ => a_judge r' a.1 w) r) (fun _ _ z => z)
  · have ka := askd1 (k := 1) (by decide) q1
    refine ⟨1, rfl, by decide, ?_⟩
    have r' := rel_pre (askd_e ka) r
    exact zCal_mono (c6_judge hx hw  (rel_inv r').2.1) (fun r2 h2 m => ask_fin ka (if_neg q3) m (fun z => absurd z (by decide)) r) (fun _ _ z => z)
theorem st_seat {x : Int} (hx : -2147483648 ≤ x ∧ x ≤ 2147483647) (r : Rel h h t n jn old ac rn B) : zCalH E mL_seat hL_seat 13 4 [zrv E 0, ziv x, zrv E 103] h (stQ (fun k h' => zCal E mX6_seat 12 4 [zrv E 64, ziv x] h' (stp B k) (fun _ _ => False))) (fun _ _ => False) := by
  obtain ⟨i1, i2, i3, i4, i5⟩ := rel_inv r
  refine zCalH_mono (cw_seat (c5_seat hx  i1) (fun r1 h1 q => ⟨_, q.2.1⟩) (fun e h1 q => q.2.1)) (fun r1 h' q => ?_) (fun _ _ z => z)
  rcases q with ⟨v9, h1, rfl, ⟨a, b, c⟩, rfl⟩ | ⟨e, rfl, q1, q2, q3⟩
  · have ka := askd0 (h := h) (h1 := h1) (by rw [c]; exact qry_rfl i1.2.2.2.1) b
    refine ⟨0, rfl, by decide, ?_⟩
    have r' := rel_pre (askd_e ka) r
    exact zCal_mono (c6_seat hx  (rel_inv r').2.1) (fun r2 h2 m => ask_fin ka (if_pos a) m (fun _ => a_seat r' (by omega)) r) (fun _ _ z => z)
  · have ka := askd1 (k := 1) (by decide) q1
    refine ⟨1, rfl, by decide, ?_⟩
    have r' := rel_pre (askd_e ka) r
    exact zCal_mono (c6_seat hx  (rel_inv r').2.1) (fun r2 h2 m => ask_fin ka (if_neg q3) m (fun z => absurd z (by decide)) r) (fun _ _ z => z)
theorem st_heap {x : Int} (hx : -2147483648 ≤ x ∧ x ≤ 2147483647) (r : Rel h h t n jn old ac rn B) : zCalH E mL_heap hL_heap 13 4 [zrv E 0, ziv x, zrv E 103] h (stQ (fun k h' => zCal E mX6_heap 12 4 [zrv E 64, ziv x] h' (stp B k) (fun _ _ => False))) (fun _ _ => False) := by
  obtain ⟨i1, i2, i3, i4, i5⟩ := rel_inv r
  refine zCalH_mono (cw_heap (c5_heap hx  i1) (fun r1 h1 q => ⟨_, q.2.1⟩) (fun e h1 q => q.2.1)) (fun r1 h' q => ?_) (fun _ _ z => z)
  rcases q with ⟨v9, h1, rfl, ⟨a, b, c⟩, rfl⟩ | ⟨e, rfl, q1, q2, q3⟩
  · have ka := askd0 (h := h) (h1 := h1) (by rw [c]; exact qry_rfl i1.2.2.2.1) b
    refine ⟨0, rfl, by decide, ?_⟩
    have r' := rel_pre (askd_e ka) r
    exact zCal_mono (c6_heap hx  (rel_inv r').2.1) (fun r2 h2 m => ask_fin ka (if_pos a) m (fun _ => a_heap r' x) r) (fun _ _ z => z)
  · have ka := askd1 (k := 1) (by decide) q1
    refine ⟨1, rfl, by decide, ?_⟩
    have r' := rel_pre (askd_e ka) r
    exact zCal_mono (c6_heap hx  (rel_inv r').2.1) (fun r2 h2 m => ask_fin ka (if_neg q3) m (fun z => absurd z (by decide)) r) (fun _ _ z => z)
theorem st_verdict {x w : Int} (hx : -2147483648 ≤ x ∧ x ≤ 2147483647) (hw : -2147483648 ≤ w ∧ w ≤ 2147483647) (r : Rel h h t n jn old ac rn B) : zCalH E mL_verdict hL_verdict 13 4 [zrv E 0, ziv x, ziv w, zrv E 103] h (stQ (fun k h' => zCal E mX6_verdict 12 4 [zrv E 64, ziv x, ziv w] h' (stp B k) (fun _ _ => False))) (fun _ _ => False) := by
  obtain ⟨i1, i2, i3, i4, i5⟩ := rel_inv r
  refine zCalH_mono (cw_verdict (c5_verdict hx hw  i1) (fun r1 h1 q => ⟨_, q.2.2.1⟩) (fun e h1 q => q.2.elim (fun z => Or.inl z.1) (fun z => Or.inr z.1))) (fun r1 h' q => ?_) (fun _ _ z => z)
  rcases q with ⟨v9, h1, rfl, ⟨a, a9, b, c⟩, rfl⟩ | ⟨e, rfl, q1, ⟨rfl, q3⟩ | ⟨rfl, q3⟩⟩
  · have ka := askd0 (h := h) (h1 := h1) c b
    refine ⟨0, rfl, by decide, ?_⟩
    have r' := rel_pre (askd_e ka) r
    exact zCal_mono (c6_verdict hx hw  (rel_inv r').2.1) (fun r2 h2 m => ask_fin ka ((if_pos a).trans (if_pos a9)) m (fun _ => a_verdict r' (by omega)) r) (fun _ _ z => z)
  · have ka := askd1 (k := 1) (by decide) q1
    refine ⟨1, by rw [if_pos rfl], by decide, ?_⟩
    have r' := rel_pre (askd_e ka) r
    exact zCal_mono (c6_verdict hx hw  (rel_inv r').2.1) (fun r2 h2 m => ask_fin ka (if_neg q3) m (fun z => absurd z (by decide)) r) (fun _ _ z => z)
  · have ka := askd1 (k := 2) (by decide) q1
    refine ⟨2, by rw [if_neg (by decide)], by decide, ?_⟩
    have r' := rel_pre (askd_e ka) r
    exact zCal_mono (c6_verdict hx hw  (rel_inv r').2.1) (fun r2 h2 m => ask_fin ka ((if_pos q3.1).trans (if_neg q3.2)) m (fun z => absurd z (by decide)) r) (fun _ _ z => z)
theorem st_lies {x y : Int} (hx : -2147483648 ≤ x ∧ x ≤ 2147483647) (hy : -2147483648 ≤ y ∧ y ≤ 2147483647) (r : Rel h h t n jn old ac rn B) : zCalH E mL_lies hL_lies 13 4 [zrv E 0, ziv x, ziv y, zrv E 103] h (stQ (fun k h' => zCal E mX6_lies 12 4 [zrv E 64, ziv x, ziv y] h' (stp B k) (fun _ _ => False))) (fun _ _ => False) := by
  obtain ⟨i1, i2, i3, i4, i5⟩ := rel_inv r
  refine zCalH_mono (cw_lies (c5_lies hx hy  i1) (fun r1 h1 q => ⟨_, q.2.2.1⟩) (fun e h1 q => q.2.elim (fun z => Or.inl z.1) (fun z => Or.inr z.1))) (fun r1 h' q => ?_) (fun _ _ z => z)
  rcases q with ⟨v9, h1, rfl, ⟨a, a9, b, c⟩, rfl⟩ | ⟨e, rfl, q1, ⟨rfl, q3⟩ | ⟨rfl, q3⟩⟩
  · have ka := askd0 (h := h) (h1 := h1) c b
    refine ⟨0, rfl, by decide, ?_⟩
    have r' := rel_pre (askd_e ka) r
    exact zCal_mono (c6_lies hx hy  (rel_inv r').2.1) (fun r2 h2 m => ask_fin ka ((if_pos a).trans (if_pos a9)) m (fun _ => a_lies r' (by omega)) r) (fun _ _ z => z)
  · have ka := askd1 (k := 1) (by decide) q1
    refine ⟨1, by rw [if_pos rfl], by decide, ?_⟩
    have r' := rel_pre (askd_e ka) r
    exact zCal_mono (c6_lies hx hy  (rel_inv r').2.1) (fun r2 h2 m => ask_fin ka (if_neg q3) m (fun z => absurd z (by decide)) r) (fun _ _ z => z)
  · have ka := askd1 (k := 2) (by decide) q1
    refine ⟨2, by rw [if_neg (by decide)], by decide, ?_⟩
    have r' := rel_pre (askd_e ka) r
    exact zCal_mono (c6_lies hx hy  (rel_inv r').2.1) (fun r2 h2 m => ask_fin ka ((if_pos q3.1).trans (if_neg q3.2)) m (fun z => absurd z (by decide)) r) (fun _ _ z => z)
theorem st_often {x y : Int} (hx : -2147483648 ≤ x ∧ x ≤ 2147483647) (hy : -2147483648 ≤ y ∧ y ≤ 2147483647) (r : Rel h h t n jn old ac rn B) : zCalH E mL_often hL_often 13 4 [zrv E 0, ziv x, ziv y, zrv E 103] h (stQ (fun k h' => zCal E mX6_often 12 4 [zrv E 64, ziv x, ziv y] h' (stp B k) (fun _ _ => False))) (fun _ _ => False) := by
  obtain ⟨i1, i2, i3, i4, i5⟩ := rel_inv r
  refine zCalH_mono (cw_often (c5_often hx hy  i1) (fun r1 h1 q => ⟨_, q.2.2.1⟩) (fun e h1 q => q.2.elim (fun z => Or.inl z.1) (fun z => Or.inr z.1))) (fun r1 h' q => ?_) (fun _ _ z => z)
  rcases q with ⟨v9, h1, rfl, ⟨a, a9, b, c⟩, rfl⟩ | ⟨e, rfl, q1, ⟨rfl, q3⟩ | ⟨rfl, q3⟩⟩
  · have ka := askd0 (h := h) (h1 := h1) c b
    refine ⟨0, rfl, by decide, ?_⟩
    have r' := rel_pre (askd_e ka) r
    exact zCal_mono (c6_often hx hy  (rel_inv r').2.1) (fun r2 h2 m => ask_fin ka ((if_pos a).trans (if_pos a9)) m (fun _ => a_often r' x y.toNat) r) (fun _ _ z => z)
  · have ka := askd1 (k := 1) (by decide) q1
    refine ⟨1, by rw [if_pos rfl], by decide, ?_⟩
    have r' := rel_pre (askd_e ka) r
    exact zCal_mono (c6_often hx hy  (rel_inv r').2.1) (fun r2 h2 m => ask_fin ka (if_neg q3) m (fun z => absurd z (by decide)) r) (fun _ _ z => z)
  · have ka := askd1 (k := 2) (by decide) q1
    refine ⟨2, by rw [if_neg (by decide)], by decide, ?_⟩
    have r' := rel_pre (askd_e ka) r
    exact zCal_mono (c6_often hx hy  (rel_inv r').2.1) (fun r2 h2 m => ask_fin ka ((if_pos q3.1).trans (if_neg q3.2)) m (fun z => absurd z (by decide)) r) (fun _ _ z => z)
theorem st_first {x : Int} (hx : -2147483648 ≤ x ∧ x ≤ 2147483647) (r : Rel h h t n jn old ac rn B) : zCalH E mL_first hL_first 13 4 [zrv E 0, ziv x, zrv E 103] h (stQ (fun k h' => zCal E mX6_first 12 4 [zrv E 64, ziv x] h' (stp B k) (fun _ _ => False))) (fun _ _ => False) := by
  obtain ⟨i1, i2, i3, i4, i5⟩ := rel_inv r
  refine zCalH_mono (cw_first (c5_first hx  i1) (fun r1 h1 q => ⟨_, q.2.1⟩) (fun e h1 q => q.2.1)) (fun r1 h' q => ?_) (fun _ _ z => z)
  rcases q with ⟨v9, h1, rfl, ⟨a, b, c⟩, rfl⟩ | ⟨e, rfl, q1, q2, q3⟩
  · have ka := askd0 (h := h) (h1 := h1) c b
    refine ⟨0, rfl, by decide, ?_⟩
    have r' := rel_pre (askd_e ka) r
    exact zCal_mono (c6_first hx  (rel_inv r').2.1) (fun r2 h2 m => ask_fin ka (if_pos a) m (fun _ => a_first r' x) r) (fun _ _ z => z)
  · have ka := askd1 (k := 1) (by decide) q1
    refine ⟨1, rfl, by decide, ?_⟩
    have r' := rel_pre (askd_e ka) r
    exact zCal_mono (c6_first hx  (rel_inv r').2.1) (fun r2 h2 m => ask_fin ka (if_neg q3) m (fun z => absurd z (by decide)) r) (fun _ _ z => z)
theorem st_pleased {y : Int} (hy : -2147483648 ≤ y ∧ y ≤ 2147483647) (r : Rel h h t n jn old ac rn B) : zCalH E mL_pleased hL_pleased 13 4 [zrv E 0, ziv y, zrv E 103] h (stQ (fun k h' => zCal E mX6_pleased 12 4 [zrv E 64, ziv y] h' (stp B k) (fun _ _ => False))) (fun _ _ => False) := by
  obtain ⟨i1, i2, i3, i4, i5⟩ := rel_inv r
  refine zCalH_mono (cw_pleased (c5_pleased hy (rel_wi r) i1) (fun r1 h1 q => ⟨_, q.2.1⟩) (fun e h1 q => q.2.1)) (fun r1 h' q => ?_) (fun _ _ z => z)
  rcases q with ⟨v9, h1, rfl, ⟨a, b, c⟩, rfl⟩ | ⟨e, rfl, q1, q2, q3⟩
  · have ka := askd0 (h := h) (h1 := h1) c b
    refine ⟨0, rfl, by decide, ?_⟩
    have r' := rel_pre (askd_e ka) r
    exact zCal_mono (c6_pleased hy  (rel_inv r').2.1) (fun r2 h2 m => ask_fin ka (if_pos a) m (fun _ => a_pleased r' y.toNat) r) (fun _ _ z => z)
  · have ka := askd1 (k := 1) (by decide) q1
    refine ⟨1, rfl, by decide, ?_⟩
    have r' := rel_pre (askd_e ka) r
    exact zCal_mono (c6_pleased hy  (rel_inv r').2.1) (fun r2 h2 m => ask_fin ka (if_neg q3) m (fun z => absurd z (by decide)) r) (fun _ _ z => z)
theorem st_swept {y : Int} (hy : -2147483648 ≤ y ∧ y ≤ 2147483647) (r : Rel h h t n jn old ac rn B) : zCalH E mL_swept hL_swept 13 4 [zrv E 0, ziv y, zrv E 103] h (stQ (fun k h' => zCal E mX6_swept 12 4 [zrv E 64, ziv y] h' (stp B k) (fun _ _ => False))) (fun _ _ => False) := by
  obtain ⟨i1, i2, i3, i4, i5⟩ := rel_inv r
  refine zCalH_mono (cw_swept (c5_swept hy  i1) (fun r1 h1 q => ⟨_, q.2.1⟩) (fun e h1 q => q.2.1)) (fun r1 h' q => ?_) (fun _ _ z => z)
  rcases q with ⟨v9, h1, rfl, ⟨a, b, c⟩, rfl⟩ | ⟨e, rfl, q1, q2, q3⟩
  · have ka := askd0 (h := h) (h1 := h1) c b
    refine ⟨0, rfl, by decide, ?_⟩
    have r' := rel_pre (askd_e ka) r
    exact zCal_mono (c6_swept hy  (rel_inv r').2.1) (fun r2 h2 m => ask_fin ka (if_pos a) m (fun _ => a_swept r' y.toNat) r) (fun _ _ z => z)
  · have ka := askd1 (k := 1) (by decide) q1
    refine ⟨1, rfl, by decide, ?_⟩
    have r' := rel_pre (askd_e ka) r
    exact zCal_mono (c6_swept hy  (rel_inv r').2.1) (fun r2 h2 m => ask_fin ka (if_neg q3) m (fun z => absurd z (by decide)) r) (fun _ _ z => z)
theorem st_orders {v i : Int} (hv : -2147483648 ≤ v ∧ v ≤ 2147483647) (hi : -2147483648 ≤ i ∧ i ≤ 2147483647) (r : Rel h h t n jn old ac rn B) : zCalH E mL_orders hL_orders 13 4 [zrv E 0, ziv v, ziv i, zrv E 103] h (stQ (fun k h' => zCal E mX6_orders 20 4 [zrv E 64, ziv v, ziv i] h' (stp B k) (fun _ _ => False))) (fun _ _ => False) := by
  obtain ⟨i1, i2, i3, i4, i5⟩ := rel_inv r
  refine zCalH_mono (cw_orders (c5_orders hv hi  i1) (fun r1 h1 q => ⟨_, q.2.1⟩) (fun e h1 q => q.2.1)) (fun r1 h' q => ?_) (fun _ _ z => z)
  rcases q with ⟨v9, h1, rfl, ⟨a, b, c⟩, rfl⟩ | ⟨e, rfl, q1, q2, q3⟩
  · have ka := askd0 (h := h) (h1 := h1) c b
    refine ⟨0, rfl, by decide, ?_⟩
    have r' := rel_pre (askd_e ka) r
    exact zCal_mono (c6_orders hv hi  (rel_inv r').2.1) (fun r2 h2 m => ask_fin ka (if_pos a) m (fun _ => a_orders r' v i) r) (fun _ _ z => z)
  · have ka := askd1 (k := 1) (by decide) q1
    refine ⟨1, rfl, by decide, ?_⟩
    have r' := rel_pre (askd_e ka) r
    exact zCal_mono (c6_orders hv hi  (rel_inv r').2.1) (fun r2 h2 m => ask_fin ka (if_neg q3) m (fun z => absurd z (by decide)) r) (fun _ _ z => z)
theorem st_toTurn {x : Int} (hx : -2147483648 ≤ x ∧ x ≤ 2147483647) (r : Rel h h t n jn old ac rn B) : zCalH E mL_toTurn hL_toTurn 13 4 [zrv E 0, ziv x, zrv E 103] h (stQ (fun k h' => zCal E mX6_toTurn 12 4 [zrv E 64, ziv x] h' (stp B k) (fun _ _ => False))) (fun _ _ => False) := by
  obtain ⟨i1, i2, i3, i4, i5⟩ := rel_inv r
  refine zCalH_mono (cw_toTurn (c5_toTurn hx  i1) (fun r1 h1 q => ⟨_, q.2.1⟩) (fun e h1 q => q.2.1)) (fun r1 h' q => ?_) (fun _ _ z => z)
  rcases q with ⟨v9, h1, rfl, ⟨a, b, c⟩, rfl⟩ | ⟨e, rfl, q1, q2, q3⟩
  · have ka := askd0 (h := h) (h1 := h1) c b
    refine ⟨0, rfl, by decide, ?_⟩
    have r' := rel_pre (askd_e ka) r
    exact zCal_mono (c6_toTurn hx  (rel_inv r').2.1) (fun r2 h2 m => ask_fin ka (if_pos a) m (fun _ => by rw [a_turn r']) r) (fun _ _ z => z)
  · have ka := askd1 (k := 1) (by decide) q1
    refine ⟨1, rfl, by decide, ?_⟩
    have r' := rel_pre (askd_e ka) r
    exact zCal_mono (c6_toTurn hx  (rel_inv r').2.1) (fun r2 h2 m => ask_fin ka (if_neg q3) m (fun z => absurd z (by decide)) r) (fun _ _ z => z)
theorem st_toDrink {x y : Int} (hx : -2147483648 ≤ x ∧ x ≤ 2147483647) (hy : -2147483648 ≤ y ∧ y ≤ 2147483647) (r : Rel h h t n jn old ac rn B) : zCalH E mL_toDrink hL_toDrink 13 4 [zrv E 0, ziv x, ziv y, zrv E 103] h (stQ (fun k h' => zCal E mX6_toDrink 12 4 [zrv E 64, ziv x, ziv y] h' (stp B k) (fun _ _ => False))) (fun _ _ => False) := by
  obtain ⟨i1, i2, i3, i4, i5⟩ := rel_inv r
  refine zCalH_mono (cw_toDrink (c5_toDrink hx hy  i1) (fun r1 h1 q => ⟨_, q.2.2.1⟩) (fun e h1 q => q.2.1)) (fun r1 h' q => ?_) (fun _ _ z => z)
  rcases q with ⟨v9, h1, rfl, ⟨a, a9, b, c⟩, rfl⟩ | ⟨e, rfl, q1, q2, q3⟩
  · have ka := askd0 (h := h) (h1 := h1) c b
    refine ⟨0, rfl, by decide, ?_⟩
    have r' := rel_pre (askd_e ka) r
    exact zCal_mono (c6_toDrink hx hy  (rel_inv r').2.1) (fun r2 h2 m => ask_fin ka (if_pos ⟨a, a9⟩) m (fun _ => a_toDrink r' x.toNat y) r) (fun _ _ z => z)
  · have ka := askd1 (k := 1) (by decide) q1
    refine ⟨1, rfl, by decide, ?_⟩
    have r' := rel_pre (askd_e ka) r
    exact zCal_mono (c6_toDrink hx hy  (rel_inv r').2.1) (fun r2 h2 m => ask_fin ka (if_neg q3) m (fun z => absurd z (by decide)) r) (fun _ _ z => z)
theorem st_toPour {y : Int} (hy : -2147483648 ≤ y ∧ y ≤ 2147483647) (r : Rel h h t n jn old ac rn B) : zCalH E mL_toPour hL_toPour 13 4 [zrv E 0, ziv y, zrv E 103] h (stQ (fun k h' => zCal E mX6_toPour 12 4 [zrv E 64, ziv y] h' (stp B k) (fun _ _ => False))) (fun _ _ => False) := by
  obtain ⟨i1, i2, i3, i4, i5⟩ := rel_inv r
  refine zCalH_mono (cw_toPour (c5_toPour hy  i1) (fun r1 h1 q => ⟨_, q.2.1⟩) (fun e h1 q => q.2.1)) (fun r1 h' q => ?_) (fun _ _ z => z)
  rcases q with ⟨v9, h1, rfl, ⟨a, b, c⟩, rfl⟩ | ⟨e, rfl, q1, q2, q3⟩
  · have ka := askd0 (h := h) (h1 := h1) c b
    refine ⟨0, rfl, by decide, ?_⟩
    have r' := rel_pre (askd_e ka) r
    exact zCal_mono (c6_toPour hy  (rel_inv r').2.1) (fun r2 h2 m => ask_fin ka (if_pos a) m (fun _ => a_toPour r' y) r) (fun _ _ z => z)
  · have ka := askd1 (k := 1) (by decide) q1
    refine ⟨1, rfl, by decide, ?_⟩
    have r' := rel_pre (askd_e ka) r
    exact zCal_mono (c6_toPour hy  (rel_inv r').2.1) (fun r2 h2 m => ask_fin ka (if_neg q3) m (fun z => absurd z (by decide)) r) (fun _ _ z => z)
theorem st_toLay {x y : Int} (hx : -2147483648 ≤ x ∧ x ≤ 2147483647) (hy : -2147483648 ≤ y ∧ y ≤ 2147483647) (r : Rel h h t n jn old ac rn B) : zCalH E mL_toLay hL_toLay 13 4 [zrv E 0, ziv x, ziv y, zrv E 103] h (stQ (fun k h' => zCal E mX6_toLay 12 4 [zrv E 64, ziv x, ziv y] h' (stp B k) (fun _ _ => False))) (fun _ _ => False) := by
  obtain ⟨i1, i2, i3, i4, i5⟩ := rel_inv r
  refine zCalH_mono (cw_toLay (c5_toLay hx hy  i1) (fun r1 h1 q => ⟨_, q.2.2.1⟩) (fun e h1 q => q.2.1)) (fun r1 h' q => ?_) (fun _ _ z => z)
  rcases q with ⟨v9, h1, rfl, ⟨a, a9, b, c⟩, rfl⟩ | ⟨e, rfl, q1, q2, q3⟩
  · have ka := askd0 (h := h) (h1 := h1) c b
    refine ⟨0, rfl, by decide, ?_⟩
    have r' := rel_pre (askd_e ka) r
    exact zCal_mono (c6_toLay hx hy  (rel_inv r').2.1) (fun r2 h2 m => ask_fin ka (if_pos ⟨a, a9⟩) m (fun _ => a_toLay r' x.toNat y) r) (fun _ _ z => z)
  · have ka := askd1 (k := 1) (by decide) q1
    refine ⟨1, rfl, by decide, ?_⟩
    have r' := rel_pre (askd_e ka) r
    exact zCal_mono (c6_toLay hx hy  (rel_inv r').2.1) (fun r2 h2 m => ask_fin ka (if_neg q3) m (fun z => absurd z (by decide)) r) (fun _ _ z => z)
theorem st_better {x : Int} (hx : -2147483648 ≤ x ∧ x ≤ 2147483647) (r : Rel h h t n jn old ac rn B) : zCalH E mL_better hL_better 13 4 [zrv E 0, ziv x, zrv E 103] h (stQ (fun k h' => zCal E mX6_better 12 4 [zrv E 64, ziv x] h' (stp B k) (fun _ _ => False))) (fun _ _ => False) := by
  obtain ⟨i1, i2, i3, i4, i5⟩ := rel_inv r
  refine zCalH_mono (cw_better (c5_better hx (rel_wi r) i1) (fun r1 h1 q => ⟨_, q.2.1⟩) (fun e h1 q => q.2.1)) (fun r1 h' q => ?_) (fun _ _ z => z)
  rcases q with ⟨v9, h1, rfl, ⟨a, b, c⟩, rfl⟩ | ⟨e, rfl, q1, q2, q3⟩
  · have ka := askd0 (h := h) (h1 := h1) c b
    refine ⟨0, rfl, by decide, ?_⟩
    have r' := rel_pre (askd_e ka) r
    exact zCal_mono (c6_better hx (rel_inv r').2.2.1 (rel_inv r').2.1) (fun r2 h2 m => ask_fin ka (if_pos a) m (fun _ => a_better r' a) r) (fun _ _ z => z)
  · have ka := askd1 (k := 1) (by decide) q1
    refine ⟨1, rfl, by decide, ?_⟩
    have r' := rel_pre (askd_e ka) r
    exact zCal_mono (c6_better hx (rel_inv r').2.2.1 (rel_inv r').2.1) (fun r2 h2 m => ask_fin ka (if_neg q3) m (fun z => absurd z (by decide)) r) (fun _ _ z => z)
theorem st_stir {x y z : Int} (hx : -2147483648 ≤ x ∧ x ≤ 2147483647) (hy : -2147483648 ≤ y ∧ y ≤ 2147483647) (hz : -2147483648 ≤ z ∧ z ≤ 2147483647) (r : Rel h h t n jn old ac rn B) : zCalH E mL_stir hL_stir 13 4 [zrv E 0, ziv x, ziv y, ziv z, zrv E 103] h (stQ (fun k h' => zCal E mX6_stir 12 4 [zrv E 64, ziv x, ziv y, ziv z] h' (stp B k) (fun _ _ => False))) (fun _ _ => False) := by
  obtain ⟨i1, i2, i3, i4, i5⟩ := rel_inv r
  refine zCalH_mono (cw_stir (c5_stir hx hy hz  i1) (fun r1 h1 q => ⟨_, q.2.2.1⟩) (fun e h1 q => q.2.elim (fun z => Or.inl z.1) (fun z => Or.inr z.1))) (fun r1 h' q => ?_) (fun _ _ z => z)
  rcases q with ⟨v9, h1, rfl, ⟨a, a9, b, c⟩, rfl⟩ | ⟨e, rfl, q1, ⟨rfl, q3⟩ | ⟨rfl, q3⟩⟩
  · have ka := askd0 (h := h) (h1 := h1) (by rw [c]; exact qry_rfl i1.2.2.2.1) b
    refine ⟨0, rfl, by decide, ?_⟩
    have r' := rel_pre (askd_e ka) r
    exact zCal_mono (c6_stir hx hy hz  (rel_inv r').2.1) (fun r2 h2 m => ask_fin ka ((if_pos a).trans (if_pos a9)) m (fun _ => a_stir r' (by omega) (by omega) z) r) (fun _ _ z => z)
  · have ka := askd1 (k := 1) (by decide) q1
    refine ⟨1, by rw [if_pos rfl], by decide, ?_⟩
    have r' := rel_pre (askd_e ka) r
    exact zCal_mono (c6_stir hx hy hz  (rel_inv r').2.1) (fun r2 h2 m => ask_fin ka (if_neg q3) m (fun z => absurd z (by decide)) r) (fun _ _ z => z)
  · have ka := askd1 (k := 2) (by decide) q1
    refine ⟨2, by rw [if_neg (by decide)], by decide, ?_⟩
    have r' := rel_pre (askd_e ka) r
    exact zCal_mono (c6_stir hx hy hz  (rel_inv r').2.1) (fun r2 h2 m => ask_fin ka ((if_pos q3.1).trans (if_neg q3.2)) m (fun z => absurd z (by decide)) r) (fun _ _ z => z)
theorem st_apart {x y : Int} (hx : -2147483648 ≤ x ∧ x ≤ 2147483647) (hy : -2147483648 ≤ y ∧ y ≤ 2147483647) (r : Rel h h t n jn old ac rn B) : zCalH E mL_apart hL_apart 13 4 [zrv E 0, ziv x, ziv y, zrv E 103] h (stQ (fun k h' => zCal E mX6_apart 12 4 [zrv E 64, ziv x, ziv y] h' (stp B k) (fun _ _ => False))) (fun _ _ => False) := by
  obtain ⟨i1, i2, i3, i4, i5⟩ := rel_inv r
  refine zCalH_mono (cw_apart (c5_apart hx hy  i1) (fun r1 h1 q => ⟨_, q.2.1⟩) (fun e h1 q => q.2.1)) (fun r1 h' q => ?_) (fun _ _ z => z)
  rcases q with ⟨v9, h1, rfl, ⟨a, b, c⟩, rfl⟩ | ⟨e, rfl, q1, q2, q3⟩
  · have ka := askd0 (h := h) (h1 := h1) (by rw [c]; exact qry_rfl i1.2.2.2.1) b
    refine ⟨0, rfl, by decide, ?_⟩
    have r' := rel_pre (askd_e ka) r
    exact zCal_mono (c6_apart hx hy  (rel_inv r').2.1) (fun r2 h2 m => ask_fin ka (if_pos a) m (fun _ => by rw [(rel_dyn r').1 x.toNat (by omega), (rel_dyn r').1 y.toNat (by omega)]) r) (fun _ _ z => z)
  · have ka := askd1 (k := 1) (by decide) q1
    refine ⟨1, rfl, by decide, ?_⟩
    have r' := rel_pre (askd_e ka) r
    exact zCal_mono (c6_apart hx hy  (rel_inv r').2.1) (fun r2 h2 m => ask_fin ka (if_neg q3) m (fun z => absurd z (by decide)) r) (fun _ _ z => z)
theorem st_drunk {x y : Int} (hx : -2147483648 ≤ x ∧ x ≤ 2147483647) (hy : -2147483648 ≤ y ∧ y ≤ 2147483647) (r : Rel h h t n jn old ac rn B) : zCalH E mL_drunk hL_drunk 13 4 [zrv E 0, ziv x, ziv y, zrv E 103] h (stQ (fun k h' => zCal E mX6_drunk 12 4 [zrv E 64, ziv x, ziv y] h' (stp B k) (fun _ _ => False))) (fun _ _ => False) := by
  obtain ⟨i1, i2, i3, i4, i5⟩ := rel_inv r
  refine zCalH_mono (cw_drunk (c5_drunk hx hy (rel_se r) i1) (fun r1 h1 q => ⟨_, q.2.2.1⟩) (fun e h1 q => q.2.elim (fun z => Or.inl z.1) (fun z => Or.inr z.1))) (fun r1 h' q => ?_) (fun _ _ z => z)
  rcases q with ⟨v9, h1, rfl, ⟨a, a9, b, c⟩, rfl⟩ | ⟨e, rfl, q1, ⟨rfl, q3⟩ | ⟨rfl, q3⟩⟩
  · have ka := askd0 (h := h) (h1 := h1) c b
    refine ⟨0, rfl, by decide, ?_⟩
    have r' := rel_pre (askd_e ka) r
    exact zCal_mono (c6_drunk hx hy (rel_inv r').2.2.1 (rel_inv r').2.1) (fun r2 h2 m => ask_fin ka ((if_pos a).trans (if_pos a9)) m (fun _ => a_drunk r' (by omega) (by omega)) r) (fun _ _ z => z)
  · have ka := askd1 (k := 1) (by decide) q1
    refine ⟨1, by rw [if_pos rfl], by decide, ?_⟩
    have r' := rel_pre (askd_e ka) r
    exact zCal_mono (c6_drunk hx hy (rel_inv r').2.2.1 (rel_inv r').2.1) (fun r2 h2 m => ask_fin ka (if_neg q3) m (fun z => absurd z (by decide)) r) (fun _ _ z => z)
  · have ka := askd1 (k := 2) (by decide) q1
    refine ⟨2, by rw [if_neg (by decide)], by decide, ?_⟩
    have r' := rel_pre (askd_e ka) r
    exact zCal_mono (c6_drunk hx hy (rel_inv r').2.2.1 (rel_inv r').2.1) (fun r2 h2 m => ask_fin ka ((if_pos q3.1).trans (if_neg q3.2)) m (fun z => absurd z (by decide)) r) (fun _ _ z => z)
theorem st_thirstiest {y : Int} (hy : -2147483648 ≤ y ∧ y ≤ 2147483647) (r : Rel h h t n jn old ac rn B) : zCalH E mL_thirstiest hL_thirstiest 13 4 [zrv E 0, ziv y, zrv E 103] h (stQ (fun k h' => zCal E mX6_thirstiest 12 4 [zrv E 64, ziv y] h' (stp B k) (fun _ _ => False))) (fun _ _ => False) := by
  obtain ⟨i1, i2, i3, i4, i5⟩ := rel_inv r
  refine zCalH_mono (cw_thirstiest (c5_thirstiest hy (rel_se r) i1) (fun r1 h1 q => ⟨_, q.2.1⟩) (fun e h1 q => q.2.1)) (fun r1 h' q => ?_) (fun _ _ z => z)
  rcases q with ⟨v9, h1, rfl, ⟨a, b, c⟩, rfl⟩ | ⟨e, rfl, q1, q2, q3⟩
  · have ka := askd0 (h := h) (h1 := h1) c b
    refine ⟨0, rfl, by decide, ?_⟩
    have r' := rel_pre (askd_e ka) r
    exact zCal_mono (c6_thirstiest hy (rel_inv r').2.2.1 (rel_inv r').2.1) (fun r2 h2 m => ask_fin ka (if_pos a) m (fun _ => a_thirstiest r' y.toNat) r) (fun _ _ z => z)
  · have ka := askd1 (k := 1) (by decide) q1
    refine ⟨1, rfl, by decide, ?_⟩
    have r' := rel_pre (askd_e ka) r
    exact zCal_mono (c6_thirstiest hy (rel_inv r').2.2.1 (rel_inv r').2.1) (fun r2 h2 m => ask_fin ka (if_neg q3) m (fun z => absurd z (by decide)) r) (fun _ _ z => z)
theorem st_streak {y : Int} (hy : -2147483648 ≤ y ∧ y ≤ 2147483647) (r : Rel h h t n jn old ac rn B) : zCalH E mL_streak hL_streak 13 4 [zrv E 0, ziv y, zrv E 103] h (stQ (fun k h' => zCal E mX6_streak 12 4 [zrv E 64, ziv y] h' (stp B k) (fun _ _ => False))) (fun _ _ => False) := by
  obtain ⟨i1, i2, i3, i4, i5⟩ := rel_inv r
  refine zCalH_mono (cw_streak (c5_streak hy  i1) (fun r1 h1 q => ⟨_, q.2.1⟩) (fun e h1 q => q.2.1)) (fun r1 h' q => ?_) (fun _ _ z => z)
  rcases q with ⟨v9, h1, rfl, ⟨a, b, c⟩, rfl⟩ | ⟨e, rfl, q1, q2, q3⟩
  · have ka := askd0 (h := h) (h1 := h1) c b
    refine ⟨0, rfl, by decide, ?_⟩
    have r' := rel_pre (askd_e ka) r
    exact zCal_mono (c6_streak hy  (rel_inv r').2.1) (fun r2 h2 m => ask_fin ka (if_pos a) m (fun _ => by rw [a_streak r' y.toNat]) r) (fun _ _ z => z)
  · have ka := askd1 (k := 1) (by decide) q1
    refine ⟨1, rfl, by decide, ?_⟩
    have r' := rel_pre (askd_e ka) r
    exact zCal_mono (c6_streak hy  (rel_inv r').2.1) (fun r2 h2 m => ask_fin ka (if_neg q3) m (fun z => absurd z (by decide)) r) (fun _ _ z => z)
theorem st_come {y : Int} (hy : -2147483648 ≤ y ∧ y ≤ 2147483647) (r : Rel h h t n jn old ac rn B) : zCalH E mL_come hL_come 13 4 [zrv E 0, ziv y, zrv E 103] h (stQ (fun k h' => zCal E mX6_come 12 4 [zrv E 64, ziv y] h' (stp B k) (fun _ _ => False))) (fun _ _ => False) := by
  obtain ⟨i1, i2, i3, i4, i5⟩ := rel_inv r
  refine zCalH_mono (cw_come (c5_come hy  i1) (fun r1 h1 q => ⟨_, q.2.1⟩) (fun e h1 q => q.2.1)) (fun r1 h' q => ?_) (fun _ _ z => z)
  rcases q with ⟨v9, h1, rfl, ⟨a, b, c⟩, rfl⟩ | ⟨e, rfl, q1, q2, q3⟩
  · have ka := askd0 (h := h) (h1 := h1) c b
    refine ⟨0, rfl, by decide, ?_⟩
    have r' := rel_pre (askd_e ka) r
    exact zCal_mono (c6_come hy  (rel_inv r').2.1) (fun r2 h2 m => ask_fin ka (if_pos a) m (fun _ => a_come r' y.toNat) r) (fun _ _ z => z)
  · have ka := askd1 (k := 1) (by decide) q1
    refine ⟨1, rfl, by decide, ?_⟩
    have r' := rel_pre (askd_e ka) r
    exact zCal_mono (c6_come hy  (rel_inv r').2.1) (fun r2 h2 m => ask_fin ka (if_neg q3) m (fun z => absurd z (by decide)) r) (fun _ _ z => z)
theorem st_weight {x : Int} (hx : -2147483648 ≤ x ∧ x ≤ 2147483647) (r : Rel h h t n jn old ac rn B) : zCalH E mL_weight hL_weight 13 4 [zrv E 0, ziv x, zrv E 103] h (stQ (fun k h' => zCal E mX6_weight 12 4 [zrv E 64, ziv x] h' (stp B k) (fun _ _ => False))) (fun _ _ => False) := by
  obtain ⟨i1, i2, i3, i4, i5⟩ := rel_inv r
  refine zCalH_mono (cw_weight (c5_weight hx  i1) (fun r1 h1 q => ⟨_, q.2.1⟩) (fun e h1 q => q.2.1)) (fun r1 h' q => ?_) (fun _ _ z => z)
  rcases q with ⟨v9, h1, rfl, ⟨a, b, c⟩, rfl⟩ | ⟨e, rfl, q1, q2, q3⟩
  · have ka := askd0 (h := h) (h1 := h1) (by rw [c]; exact qry_rfl i1.2.2.2.1) b
    refine ⟨0, rfl, by decide, ?_⟩
    have r' := rel_pre (askd_e ka) r
    exact zCal_mono (c6_weight hx  (rel_inv r').2.1) (fun r2 h2 m => ask_fin ka (if_pos a) m (fun _ => a_weight r' x) r) (fun _ _ z => z)
  · have ka := askd1 (k := 1) (by decide) q1
    refine ⟨1, rfl, by decide, ?_⟩
    have r' := rel_pre (askd_e ka) r
    exact zCal_mono (c6_weight hx  (rel_inv r').2.1) (fun r2 h2 m => ask_fin ka (if_neg q3) m (fun z => absurd z (by decide)) r) (fun _ _ z => z)
theorem st_handed {w : Int} (hw : -2147483648 ≤ w ∧ w ≤ 2147483647) (r : Rel h h t n jn old ac rn B) : zCalH E mL_handed hL_handed 13 4 [zrv E 0, ziv w, zrv E 103] h (stQ (fun k h' => zCal E mX6_handed 12 4 [zrv E 64, ziv w] h' (stp B k) (fun _ _ => False))) (fun _ _ => False) := by
  obtain ⟨i1, i2, i3, i4, i5⟩ := rel_inv r
  refine zCalH_mono (cw_handed (c5_handed hw i4 i5 i1) (fun r1 h1 q => ⟨_, q.2.1⟩) (fun e h1 q => q.2.1)) (fun r1 h' q => ?_) (fun _ _ z => z)
  rcases q with ⟨v9, h1, rfl, ⟨a, b, c⟩, rfl⟩ | ⟨e, rfl, q1, q2, q3⟩
  · have ka := askd0 (h := h) (h1 := h1) c b
    refine ⟨0, rfl, by decide, ?_⟩
    have r' := rel_pre (askd_e ka) r
    exact zCal_mono (c6_handed hw (rel_rd r').1 (rel_inv r').2.1) (fun r2 h2 m => ask_fin ka (if_pos a) m (fun _ => a_handed r' w) r) (fun _ _ z => z)
  · have ka := askd1 (k := 1) (by decide) q1
    refine ⟨1, rfl, by decide, ?_⟩
    have r' := rel_pre (askd_e ka) r
    exact zCal_mono (c6_handed hw (rel_rd r').1 (rel_inv r').2.1) (fun r2 h2 m => ask_fin ka (if_neg q3) m (fun z => absurd z (by decide)) r) (fun _ _ z => z)
theorem st_look {w : Int} (hw : -2147483648 ≤ w ∧ w ≤ 2147483647) (r : Rel h h t n jn old ac rn B) : zCalH E mL_look hL_look 13 4 [zrv E 0, ziv w, zrv E 103] h (stQ (fun k h' => zCal E mX6_look 12 4 [zrv E 64, ziv w] h' (stp B k) (fun _ _ => False))) (fun _ _ => False) := by
  obtain ⟨i1, i2, i3, i4, i5⟩ := rel_inv r
  refine zCalH_mono (cw_look (c5_look hw i4 i5 i1) (fun r1 h1 q => ⟨_, q.2.1⟩) (fun e h1 q => q.2.1)) (fun r1 h' q => ?_) (fun _ _ z => z)
  rcases q with ⟨v9, h1, rfl, ⟨a, b, c⟩, rfl⟩ | ⟨e, rfl, q1, q2, q3⟩
  · have ka := askd0 (h := h) (h1 := h1) c b
    refine ⟨0, rfl, by decide, ?_⟩
    have r' := rel_pre (askd_e ka) r
    exact zCal_mono (c6_look hw (rel_rd r').1 (rel_inv r').2.1) (fun r2 h2 m => ask_fin ka (if_pos a) m (fun _ => a_look r' w) r) (fun _ _ z => z)
  · have ka := askd1 (k := 1) (by decide) q1
    refine ⟨1, rfl, by decide, ?_⟩
    have r' := rel_pre (askd_e ka) r
    exact zCal_mono (c6_look hw (rel_rd r').1 (rel_inv r').2.1) (fun r2 h2 m => ask_fin ka (if_neg q3) m (fun z => absurd z (by decide)) r) (fun _ _ z => z)
theorem st_game {x y w : Int} (hx : -2147483648 ≤ x ∧ x ≤ 2147483647) (hy : -2147483648 ≤ y ∧ y ≤ 2147483647) (hw : -2147483648 ≤ w ∧ w ≤ 2147483647) (r : Rel h h t n jn old ac rn B) : zCalH E mL_game hL_game 13 4 [zrv E 0, ziv x, ziv y, ziv w, zrv E 103] h (stQ (fun k h' => zCal E mX6_game 12 4 [zrv E 64, ziv x, ziv y, ziv w] h' (stp B k) (fun _ _ => False))) (fun _ _ => False) := by
  obtain ⟨i1, i2, i3, i4, i5⟩ := rel_inv r
  refine zCalH_mono (cw_game (c5_game hx hy hw (rel_wi r) i1) (fun r1 h1 q => ⟨_, q.2.2.1⟩) (fun e h1 q => q.2.elim (fun z => Or.inl z.1) (fun z => Or.inr z.1))) (fun r1 h' q => ?_) (fun _ _ z => z)
  rcases q with ⟨v9, h1, rfl, ⟨a, a9, b, c⟩, rfl⟩ | ⟨e, rfl, q1, ⟨rfl, q3⟩ | ⟨rfl, q3⟩⟩
  · have ka := askd0 (h := h) (h1 := h1) c b
    refine ⟨0, rfl, by decide, ?_⟩
    have r' := rel_pre (askd_e ka) r
    exact zCal_mono (c6_game hx hy hw  (rel_inv r').2.1) (fun r2 h2 m => ask_fin ka ((if_pos a).trans (if_neg a9)) m (fun _ => a_game r' a.1 a.2.1 w) r) (fun _ _ z => z)
  · have ka := askd1 (k := 1) (by decide) q1
    refine ⟨1, by rw [if_pos rfl], by decide, ?_⟩
    have r' := rel_pre (askd_e ka) r
    exact zCal_mono (c6_game hx hy hw  (rel_inv r').2.1) (fun r2 h2 m => ask_fin ka (if_neg q3) m (fun z => absurd z (by decide)) r) (fun _ _ z => z)
  · have ka := askd1 (k := 2) (by decide) q1
    refine ⟨2, by rw [if_neg (by decide)], by decide, ?_⟩
    have r' := rel_pre (askd_e ka) r
    exact zCal_mono (c6_game hx hy hw  (rel_inv r').2.1) (fun r2 h2 m => ask_fin ka ((if_pos q3.1).trans (if_pos q3.2)) m (fun z => absurd z (by decide)) r) (fun _ _ z => z)
theorem st_years {sd y w : Int} (hsd : -2147483648 ≤ sd ∧ sd ≤ 2147483647) (hy : -2147483648 ≤ y ∧ y ≤ 2147483647) (hw : -2147483648 ≤ w ∧ w ≤ 2147483647) (r : Rel h h t n jn old ac rn B) : zCalH E mL_years hL_years 13 4 [zrv E 0, ziv sd, ziv y, ziv w, zrv E 103] h (stQ (fun k h' => zCal E mX6_years 12 4 [zrv E 64, ziv sd, ziv y, ziv w] h' (stp B k) (fun _ _ => False))) (fun _ _ => False) := by
  obtain ⟨i1, i2, i3, i4, i5⟩ := rel_inv r
  refine zCalH_mono (cw_years (c5_years hsd hy hw (rel_wi r) i1) (fun r1 h1 q => ⟨_, q.2.2.1⟩) (fun e h1 q => q.2.elim (fun z => Or.inl z.1) (fun z => Or.inr z.1))) (fun r1 h' q => ?_) (fun _ _ z => z)
  rcases q with ⟨v9, h1, rfl, ⟨a, a9, b, c⟩, rfl⟩ | ⟨e, rfl, q1, ⟨rfl, q3⟩ | ⟨rfl, q3⟩⟩
  · have ka := askd0 (h := h) (h1 := h1) c b
    refine ⟨0, rfl, by decide, ?_⟩
    have r' := rel_pre (askd_e ka) r
    exact zCal_mono (c6_years hy hw  (rel_inv r').2.1) (fun r2 h2 m => ask_fin ka ((if_pos a).trans (if_pos a9)) m (fun _ => a_years r' sd y w) r) (fun _ _ z => z)
  · have ka := askd1 (k := 1) (by decide) q1
    refine ⟨1, by rw [if_pos rfl], by decide, ?_⟩
    have r' := rel_pre (askd_e ka) r
    exact zCal_mono (c6_years hy hw  (rel_inv r').2.1) (fun r2 h2 m => ask_fin ka (if_neg q3) m (fun z => absurd z (by decide)) r) (fun _ _ z => z)
  · have ka := askd1 (k := 2) (by decide) q1
    refine ⟨2, by rw [if_neg (by decide)], by decide, ?_⟩
    have r' := rel_pre (askd_e ka) r
    exact zCal_mono (c6_years hy hw  (rel_inv r').2.1) (fun r2 h2 m => ask_fin ka ((if_pos q3.1).trans (if_neg q3.2)) m (fun z => absurd z (by decide)) r) (fun _ _ z => z)
end ZSP
