/-! CLASS AND REFERENCE: acts, and what is read and imaged -/
section ZAD
variable {hc hm h1 h2 : zH} {t n jn old ac rn : Nat} {B : Int}
theorem row_mk (hn : n ≤ 8) (hj : jn ≤ 8) (e1 : agn n (h1 33) (h2 80)) (e2 : agn jn (h1 35) (h2 82)) (e3 : agn jn (h1 36) (h2 81)) (e4 : h1 32 5 = h2 64 33) (e5 : h1 32 6 = h2 64 32) (e6 : h1 32 7 = h2 64 34) : rwR n jn (rowC h1 31) (rowF h2) := by
  have c0 := rowC_24 h1 31
  have f0 := rowF_vals h2 (k := 0) (by decide)
  exact ⟨fun i hi => by rw [rowC_l (by omega), (rowF_vals h2 (k := i) (by omega)).1]; exact e1 i hi, fun j hj => by rw [rowC_h (by omega), (rowF_vals h2 (k := j) (by omega)).2.2.1]; exact e2 j hj, fun j hj => by rw [rowC_s (by omega), (rowF_vals h2 (k := j) (by omega)).2.1]; exact e3 j hj, by rw [c0.1, f0.2.2.2.2.1]; exact e4, by rw [c0.2.1, f0.2.2.2.1]; exact e5, by rw [c0.2.2, f0.2.2.2.2.2]; exact e6⟩
theorem ok_mk (hn : n ≤ 8) (hj : jn ≤ 8) (e1 : ∀ l, l < n → 0 ≤ h2 80 l ∧ h2 80 l < 12) (e2 : ∀ j, j < jn → 0 ≤ h2 82 j ∧ h2 82 j ≤ 12) (e3 : ∀ s, s < jn → 0 ≤ h2 81 s ∧ h2 81 s < jn) (e4 : permM (h2 81) jn) (e5 : 0 ≤ h2 64 33 ∧ h2 64 33 ≤ 99) (e6 : 0 ≤ h2 64 32 ∧ h2 64 32 ≤ 999) : rwOK n jn (rowF h2) := by
  have f0 := rowF_vals h2 (k := 0) (by decide)
  exact ⟨fun l hl => by rw [(rowF_vals h2 (k := l) (by omega)).1]; exact e1 l hl, fun j hj => by rw [(rowF_vals h2 (k := j) (by omega)).2.2.1]; exact e2 j hj, fun j hj => by rw [(rowF_vals h2 (k := j) (by omega)).2.1]; exact e3 j hj, permM_cg (fun j hj => (rowF_vals h2 (k := j) (by omega)).2.1) e4, by rw [f0.2.2.2.2.1]; exact e5, by rw [f0.2.2.2.1]; exact e6⟩
/-- only the row changes -/
theorem rel_row (cq : cqR hc h1) (ec : ∀ c2 : Nat, (c2 = 31 ∨ (38 ≤ c2 ∧ c2 ≤ 41)) → h1 c2 = hc c2) (mq' : mqR hm h2) (em : ∀ c2 : Nat, (c2 = 77 ∨ c2 = 83 ∨ c2 = 92 ∨ c2 = 93) → h2 c2 = hm c2) (e35 : h2 64 35 = hm 64 35) (e36 : h2 64 36 = hm 64 36) (w : rwR n jn (rowC h1 31) (rowF h2)) (o : rwOK n jn (rowF h2)) (r : Rel hc hm t n jn old ac rn B) : Rel h1 h2 t n jn old ac rn B := by
  refine rel_new cq mq' ?_ r
  obtain ⟨x1, x2, x3, x4, x5, x6⟩ := r.2.2.2
  exact ⟨by rw [ec 31 (by omega)]; exact x1, by rw [e35, e36]; exact x2, ⟨w, o⟩, by rw [ec 38 (by omega), em 83 (by omega)]; exact x4, by rw [ec 39 (by omega), ec 40 (by omega), em 92 (by omega), em 93 (by omega)]; exact x5, by rw [ec 41 (by omega), em 77 (by omega)]; exact x6⟩
theorem rel_pot {y : Int} (hy : 0 ≤ y ∧ y ≤ 99) (r : Rel hc hm t n jn old ac rn B) : Rel (zup hc 32 5 y) (zup hm 64 33 y) t n jn old ac rn B := by
  have hn := rel_n r
  obtain ⟨d1, d2, d3, d4, d5, d6, d7⟩ := rel_dyn r
  obtain ⟨ti, ⟨mc, ⟨m1, m2, m3, m4, m5, m6⟩, m7⟩, pm, -, -⟩ := rel_inv r
  have rk : rkOK hc := r.1.1.2.2.2.1
  refine rel_row ⟨fun c2 a b => zup_fn (by omega), fun j _ => by rw [zup_fn (by decide)], fun j a b => by rw [zup_fn (by decide)]; exact rk j a b⟩ (fun c2 a => zup_fn (by omega)) ⟨fun c2 a b => zup_fn (by omega), fun j hj => by rw [zup_at, if_neg (by omega)]⟩ (fun c2 a => zup_fn (by omega)) (by rw [zup_at, if_neg (by decide)]) (by rw [zup_at, if_neg (by decide)]) ?_ ?_ r
  · refine row_mk hn.1 hn.2 ?_ ?_ ?_ ?_ ?_ ?_
    · rw [zup_fn (by decide), zup_fn (by decide)]; exact d1
    · rw [zup_fn (by decide), zup_fn (by decide)]; exact d3
    · rw [zup_fn (by decide), zup_fn (by decide)]; exact d4
    · rw [zup_at, if_pos rfl, zup_at, if_pos rfl]
    · rw [zup_at, if_neg (by decide), zup_at, if_neg (by decide)]; exact d6
    · rw [zup_at, if_neg (by decide), zup_at, if_neg (by decide)]; exact d7
  · refine ok_mk hn.1 hn.2 ?_ ?_ ?_ ?_ ?_ ?_
    · rw [zup_fn (by decide)]; exact m1
    · rw [zup_fn (by decide)]; exact m3
    · rw [zup_fn (by decide)]; exact m4
    · rw [zup_fn (by decide)]; exact pm
    · rw [zup_at, if_pos rfl]; exact hy
    · rw [zup_at, if_neg (by decide)]; exact ⟨m6.1, m7⟩
/-- one place of a row of both: the class's cell c, the reference's e -/
theorem rel_one {c e : Nat} {f g : Nat → Int} (hce : (c = 33 ∧ e = 80) ∨ (c = 35 ∧ e = 82) ∨ (c = 36 ∧ e = 81)) (h33 : c = 33 → agn n f g ∧ ∀ l, l < n → 0 ≤ g l ∧ g l < 12) (h35 : c = 35 → agn jn f g ∧ ∀ j, j < jn → 0 ≤ g j ∧ g j ≤ 12) (h36 : c = 36 → agn jn f g ∧ (∀ s, s < jn → 0 ≤ g s ∧ g s < jn) ∧ permM g jn) (r : Rel hc hm t n jn old ac rn B) : Rel (zst hc c f) (zst hm e g) t n jn old ac rn B := by
  have hn := rel_n r
  obtain ⟨d1, d2, d3, d4, d5, d6, d7⟩ := rel_dyn r
  obtain ⟨ti, ⟨mc, ⟨m1, m2, m3, m4, m5, m6⟩, m7⟩, pm, -, -⟩ := rel_inv r
  have rk : rkOK hc := r.1.1.2.2.2.1
  have s64 : zst hm e g 64 = hm 64 := zst_ne (by omega)
  have s32 : zst hc c f 32 = hc 32 := zst_ne (by omega)
  refine rel_row ⟨fun c2 a b => zst_ne (by omega), fun j _ => by rw [zst_ne (by omega)], fun j a b => by rw [zst_ne (by omega)]; exact rk j a b⟩ (fun c2 a => zst_ne (by omega)) ⟨fun c2 a b => zst_ne (by omega), fun j hj => by rw [s64]⟩ (fun c2 a => zst_ne (by omega)) (by rw [s64]) (by rw [s64]) ?_ ?_ r
  · refine row_mk hn.1 hn.2 ?_ ?_ ?_ (by rw [s32, s64]; exact d5) (by rw [s32, s64]; exact d6) (by rw [s32, s64]; exact d7)
    · by_cases z : c = 33
      · have ze : e = 80 := by omega
        subst z ze; rw [zst_same, zst_same]; exact (h33 rfl).1
      · rw [zst_ne (by omega), zst_ne (by omega)]; exact d1
    · by_cases z : c = 35
      · have ze : e = 82 := by omega
        subst z ze; rw [zst_same, zst_same]; exact (h35 rfl).1
      · rw [zst_ne (by omega), zst_ne (by omega)]; exact d3
    · by_cases z : c = 36
      · have ze : e = 81 := by omega
        subst z ze; rw [zst_same, zst_same]; exact (h36 rfl).1
      · rw [zst_ne (by omega), zst_ne (by omega)]; exact d4
  · refine ok_mk hn.1 hn.2 ?_ ?_ ?_ ?_ (by rw [s64]; exact m5) (by rw [s64]; exact ⟨m6.1, m7⟩)
    · by_cases z : e = 80
      · have zc : c = 33 := by omega
        subst z; rw [zst_same]; exact (h33 zc).2
      · rw [zst_ne (by omega)]; exact m1
    · by_cases z : e = 82
      · have zc : c = 35 := by omega
        subst z; rw [zst_same]; exact (h35 zc).2
      · rw [zst_ne (by omega)]; exact m3
    · by_cases z : e = 81
      · have zc : c = 36 := by omega
        subst z; rw [zst_same]; exact (h36 zc).2.1
      · rw [zst_ne (by omega)]; exact m4
    · by_cases z : e = 81
      · have zc : c = 36 := by omega
        subst z; rw [zst_same]; exact (h36 zc).2.2
      · rw [zst_ne (by omega)]; exact pm
theorem zup_zs (h : zH) (c i : Nat) (v : Int) : zup h c i v = zst h c (setF (h c) i v) := by
  funext c2
  by_cases e : c2 = c
  · rw [e, zst_same, zup_set]
  · rw [zst_ne e, zup_fn e]
theorem rel_hand {x : Nat} {y : Int} (hy : 0 ≤ y ∧ y ≤ 12) (r : Rel hc hm t n jn old ac rn B) : Rel (zup hc 35 x y) (zup hm 82 x y) t n jn old ac rn B := by
  rw [zup_zs, zup_zs]
  refine rel_one (Or.inr (Or.inl ⟨rfl, rfl⟩)) (fun z => absurd z (by decide)) (fun _ => ⟨agn_set (rel_dyn r).2.2.1, fun j hj => ?_⟩) (fun z => absurd z (by decide)) r
  unfold setF; split
  · exact hy
  · exact (rel_inv r).2.1.2.1.2.2.1 j hj
theorem rel_put {x : Nat} {y : Int} (hy : 0 ≤ y ∧ y < 12) (r : Rel hc hm t n jn old ac rn B) : Rel (zup hc 33 x y) (zup hm 80 x y) t n jn old ac rn B := by
  rw [zup_zs, zup_zs]
  refine rel_one (Or.inl ⟨rfl, rfl⟩) (fun _ => ⟨agn_set (rel_dyn r).1, fun j hj => ?_⟩) (fun z => absurd z (by decide)) (fun z => absurd z (by decide)) r
  unfold setF; split
  · exact hy
  · exact (rel_inv r).2.1.2.1.1 j hj
/-- cases go by -/
theorem rel_cases {k : Nat} (hk : 1 ≤ k) (h999 : hm 64 32 + k ≤ 999) (c1 : ran hc 32 t n jn k h1) (c2 : mrun hm n jn k h2) (r : Rel hc hm t n jn old ac rn B) : Rel h1 h2 t n jn old ac rn B := by
  have hn := rel_n r
  obtain ⟨d1, d2, d3, d4, d5, d6, d7⟩ := rel_dyn r
  obtain ⟨ti, ⟨mc, ⟨m1, m2, m3, m4, m5, m6⟩, m7⟩, pm, -, -⟩ := rel_inv r
  obtain ⟨p1, p2, p3, p4, p5, p6, p7, p8⟩ := c1
  obtain ⟨⟨q1, q2⟩, q3, q4, q5, q6, q7⟩ := c2
  have rr := rel_run r k
  have e81 : h2 81 = hm 81 := q1 81 (by unfold kpc; omega)
  have e82 : h2 82 = hm 82 := q1 82 (by unfold kpc; omega)
  have s33 : h2 64 33 = hm 64 33 := q2 33 (Or.inr ⟨by unfold stf; omega, by decide, by decide⟩)
  refine rel_row ⟨fun c2 a b => p1 c2 (by omega) (by omega) (by omega) (by omega) (by omega) (by omega), fun j _ => by rw [p1 0 (by decide) (by decide) (by decide) (by decide) (by decide) (by decide)], p8⟩ (fun c2 a => p1 c2 (by omega) (by omega) (by omega) (by omega) (by omega) (by omega)) ⟨fun c2 a b => q1 c2 (by unfold kpc; omega), fun j hj => q2 j (Or.inr ⟨by unfold stf; omega, by omega, by omega⟩)⟩ (fun c2 a => q1 c2 (by unfold kpc; omega)) (q2 35 (Or.inr ⟨by unfold stf; omega, by decide, by decide⟩)) (q2 36 (Or.inr ⟨by unfold stf; omega, by decide, by decide⟩)) ?_ ?_ r
  · refine row_mk hn.1 hn.2 ?_ ?_ ?_ ?_ ?_ ?_
    · intro i hi
      rw [p2, q3 i hi]; exact rr.1 i hi
    · rw [p1 35 (by decide) (by decide) (by decide) (by decide) (by decide) (by decide), e82]; exact d3
    · rw [p1 36 (by decide) (by decide) (by decide) (by decide) (by decide) (by decide), e81]; exact d4
    · rw [p6, s33]; exact d5
    · rw [p7, q5, d6]
    · rw [p3, (q4 hk).1]; exact (rr.2 hk).1
  · refine ok_mk hn.1 hn.2 q6.1 q6.2.2.1 q6.2.2.2.1 (by rw [e81]; exact pm) (by rw [s33]; exact m5) (by rw [q5]; omega)
/-- the last act is undone -/
theorem rel_undo {a : Nat} (u1 : undone1 hc h1) (ha : ac = a + 1) (u2 : munp (zup (zup hm 64 4 0) 64 35 ((ac : Int) - 1)) 83 (27 * (ac - 1)) h2) (r : Rel hc hm t n jn old ac rn B) : Rel h1 h2 t n jn old a rn B := by
  have hn := rel_n r
  have rk : rkOK hc := r.1.1.2.2.2.1
  obtain ⟨x1, x2, x3, x4, x5, x6⟩ := r.2.2.2
  obtain ⟨f, o9, a9, p1, p2, p3, p4, p5, p6, p7⟩ := u1
  have eo : o9 = old := by have := x1.1; omega
  have ea : a9 = a := by have := x1.2.2.1; omega
  subst ha
  rw [eo] at p3 p5
  rw [ea] at p3 p6
  rw [show a + 1 - 1 = a by omega] at u2
  obtain ⟨q1, q2, ⟨q3, q4, q5⟩, q6⟩ := u2
  obtain ⟨s1, s2, s3, s4, s5, s6, s7, s8⟩ := p4
  have ht : ∀ c2 : Nat, c2 ≠ 31 → zst h1 31 (hc 31) c2 = h1 c2 := fun c2 hh => zst_ne hh
  rw [ht 33 (by decide)] at s2
  rw [ht 35 (by decide)] at s3
  rw [ht 36 (by decide)] at s4
  rw [ht 32 (by decide)] at s5 s6 s7 s8
  have e1 : ∀ c2 : Nat, c2 ≠ 31 → c2 ≠ 32 → c2 ≠ 33 → c2 ≠ 35 → c2 ≠ 36 → h1 c2 = hc c2 := fun c2 z a b c d => by rw [← ht c2 z]; exact s1 c2 a b c d
  have z83 : zup (zup hm 64 4 0) 64 35 (((a + 1 : Nat) : Int) - 1) 83 = hm 83 := by rw [zup_fn (by decide), zup_fn (by decide)]
  rw [z83] at q3 q4 q5 q6
  have e2 : ∀ c2 : Nat, c2 ≠ 64 → c2 ≠ 80 → c2 ≠ 81 → c2 ≠ 82 → h2 c2 = hm c2 := fun c2 a b c d => by rw [q1 c2 a b c d, zup_fn a, zup_fn a]
  have e64 : ∀ j, j ≠ 32 → j ≠ 33 → j ≠ 34 → j ≠ 35 → j ≠ 4 → h2 64 j = hm 64 j := fun j a b c d e => by rw [q2 j a b c, zup_at, if_neg d, zup_at, if_neg e]
  have w := x4 a (by omega)
  have rc : ∀ i, i < 27 → rowC h1 31 i = hc 38 ((old + a) % 40 * 27 + i) := fun i hi => by
    rw [← p3]
    by_cases y1 : i < 8
    · rw [rowC_l y1]; exact s2 i y1
    · by_cases y2 : i < 16
      · have v := rowC_h (h := h1) (o := 31) (j := i - 8) (by omega); rw [show 8 + (i - 8) = i by omega] at v; rw [v]
        have := s3 (i - 8) (by omega); rw [show f + 8 + (i - 8) = f + i by omega] at this; exact this
      · by_cases y3 : i < 24
        · have v := rowC_s (h := h1) (o := 31) (j := i - 16) (by omega); rw [show 16 + (i - 16) = i by omega] at v; rw [v]
          have := s4 (i - 16) (by omega); rw [show f + 16 + (i - 16) = f + i by omega] at this; exact this
        · rcases (show i = 24 ∨ i = 25 ∨ i = 26 by omega) with rfl | rfl | rfl
          · exact s5
          · exact s6
          · exact s7
  have rf : ∀ i, i < 27 → rowF h2 i = hm 83 (27 * a + i) := fun i hi => by
    have f0 := rowF_vals h2 (k := 0) (by decide)
    by_cases y0 : i < 3
    · rcases (show i = 0 ∨ i = 1 ∨ i = 2 by omega) with rfl | rfl | rfl
      · rw [f0.2.2.2.1]; exact q3
      · rw [f0.2.2.2.2.1]; exact q4
      · rw [f0.2.2.2.2.2]; exact q5
    · by_cases y1 : i < 11
      · have v := (rowF_vals h2 (k := i - 3) (by omega)).1; rw [show 3 + (i - 3) = i by omega] at v
        rw [v, (q6 (i - 3) (by omega)).1, show 27 * a + 3 + (i - 3) = 27 * a + i by omega]
      · by_cases y2 : i < 19
        · have v := (rowF_vals h2 (k := i - 11) (by omega)).2.1; rw [show 11 + (i - 11) = i by omega] at v
          rw [v, (q6 (i - 11) (by omega)).2.1, show 27 * a + 11 + (i - 11) = 27 * a + i by omega]
        · have v := (rowF_vals h2 (k := i - 19) (by omega)).2.2.1; rw [show 19 + (i - 19) = i by omega] at v
          rw [v, (q6 (i - 19) (by omega)).2.2, show 27 * a + 19 + (i - 19) = 27 * a + i by omega]
  refine rel_new ⟨fun c2 a b => e1 c2 (by omega) (by omega) (by omega) (by omega) (by omega), fun j _ => by rw [e1 0 (by decide) (by decide) (by decide) (by decide) (by decide)], fun j a b => by rw [e1 28 (by decide) (by decide) (by decide) (by decide) (by decide)]; exact rk j a b⟩ ⟨fun c2 a b => e2 c2 (by omega) (by omega) (by omega) (by omega), fun j hj => e64 j (by omega) (by omega) (by omega) (by omega) (by omega)⟩ ?_ r
  refine ⟨⟨p5, x1.2.1, p6, by omega, by rw [p7]; exact x1.2.2.2.2.1, x1.2.2.2.2.2⟩, ⟨by rw [q2 35 (by decide) (by decide) (by decide), zup_at, if_pos rfl]; omega, by rw [e64 36 (by decide) (by decide) (by decide) (by decide) (by decide)]; exact x2.2⟩, ⟨rwR_cg hn.1 hn.2 rc rf w.1, rwOK_cg hn.1 hn.2 rf w.2⟩, fun b hb => ?_, by rw [e1 39 (by decide) (by decide) (by decide) (by decide) (by decide), e1 40 (by decide) (by decide) (by decide) (by decide) (by decide), e2 92 (by decide) (by decide) (by decide) (by decide), e2 93 (by decide) (by decide) (by decide) (by decide)]; exact x5, by rw [e1 41 (by decide) (by decide) (by decide) (by decide) (by decide), e2 77 (by decide) (by decide) (by decide) (by decide)]; exact x6⟩
  rw [e1 38 (by decide) (by decide) (by decide) (by decide) (by decide), e2 83 (by decide) (by decide) (by decide) (by decide)]
  exact x4 b (by omega)
end ZAD

