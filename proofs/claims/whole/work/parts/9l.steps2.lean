/-! A STEP OF THE LAW, by its contracts: what acts, and what is asked without a wrapper -/
def relB (h : zH) (B : Int) : Prop := ∃ t n jn old ac rn : Nat, Rel h h t n jn old ac rn B
/-- a call without a wrapper: an answer v, and what stands behind it -/
def sdQ (P : Int → zH → Prop) : Option Value → zH → Prop := fun r1 h1 => ∃ v : Int, r1 = some (ziv v) ∧ P v h1
/-- the reference behind it: the same answer, both sides alike -/
def sdE (B v : Int) : Option Value → zH → Prop := fun r2 h2 => r2 = some (ziv v) ∧ relB h2 (B + 1)
section ZSQ
variable {E : zE} {h : zH} {t n jn old ac rn : Nat} {B : Int}
theorem rel_ac {hc hm : zH} (r : Rel hc hm t n jn old ac rn B) : hm 64 35 = (ac : Int) ∧ ac ≤ 40 ∧ hm 64 36 = (rn : Int) ∧ rn ≤ 8 := ⟨r.2.2.2.2.1.1, r.2.2.2.1.2.2.2.1, r.2.2.2.2.1.2, r.2.2.2.1.2.2.2.2.2⟩
theorem sd_pot {y : Int} (hy : -2147483648 ≤ y ∧ y ≤ 2147483647) (r : Rel h h t n jn old ac rn B) : zCal E mX5_pot 12 4 [zrv E 0, ziv y] h (sdQ (fun v h1 => zCal E mX6_pot 12 4 [zrv E 64, ziv y] h1 (sdE B v) (fun _ _ => False))) (fun _ _ => False) := by
  obtain ⟨i1, i2, i3, i4, i5⟩ := rel_inv r
  refine zCal_mono (c5_pot hy i4 i1) (fun r1 h1 q => ?_) (fun _ _ z => z)
  by_cases hc : 0 ≤ y ∧ y ≤ 99
  · rw [if_pos hc] at q
    obtain ⟨rfl, g, k1, rfl⟩ := q
    refine ⟨_, rfl, ?_⟩
    have rp : Rel h (zup g 32 5 y) t n jn old ac rn B := rel_pre (fun c2 x _ => by rw [zup_fn (by omega)]; exact kept_e k1 c2 (by omega) (by omega)) r
    obtain ⟨m1, m2, m3, m4⟩ := rel_ac rp
    refine zCal_mono (c6_pot hy m1 m2 (rel_inv rp).2.1) (fun r2 h2 q2 => ?_) (fun _ _ z => z)
    rw [if_pos hc] at q2
    obtain ⟨rfl, g1, k2, rfl⟩ := q2
    obtain ⟨o2, a2, r3⟩ := act_pot hc k1 k2 r
    exact ⟨by rw [(rel_dyn rp).2.2.2.2.1], t, n, jn, o2, a2, rn, rel_B (by omega) r3⟩
  · rw [if_neg hc] at q
    obtain ⟨rfl, rfl⟩ := q
    refine ⟨-1, rfl, ?_⟩
    have rp : Rel h (zup h 41 1 (h 41 1 + 1)) t n jn old ac rn B := rel_pre (fun c2 x _ => zup_fn (by omega)) r
    obtain ⟨m1, m2, m3, m4⟩ := rel_ac rp
    refine zCal_mono (c6_pot hy m1 m2 (rel_inv rp).2.1) (fun r2 h2 q2 => ?_) (fun _ _ z => z)
    rw [if_neg hc] at q2
    obtain ⟨rfl, rfl⟩ := q2
    exact ⟨rfl, _, _, _, _, _, _, (act_refuse (i := 1) (by decide) (fun c2 _ => rfl) r).2.2⟩
theorem sd_cases {y : Int} (hy : -2147483648 ≤ y ∧ y ≤ 2147483647) (r : Rel h h t n jn old ac rn B) : zCal E mX5_cases 12 4 [zrv E 0, ziv y] h (sdQ (fun v h1 => zCal E mX6_cases 12 4 [zrv E 64, ziv y] h1 (sdE B v) (fun _ _ => False))) (fun _ _ => False) := by
  obtain ⟨i1, i2, i3, i4, i5⟩ := rel_inv r
  refine zCal_mono (c5_cases hy i4 i1) (fun r1 h1 q => ?_) (fun _ _ z => z)
  have e6 := (rel_dyn r).2.2.2.2.2.1
  by_cases hc : (1 ≤ y ∧ y ≤ 20) ∧ h 32 6 + y ≤ 999
  · rw [if_pos hc] at q
    obtain ⟨rfl, g, k1, cr⟩ := q
    refine ⟨_, rfl, ?_⟩
    have eh : ∀ c2 : Nat, 64 ≤ c2 → h1 c2 = h c2 := fun c2 x => by rw [cr.1 c2 (by omega) (by omega) (by omega) (by omega) (by omega) (by omega), kept_e k1 c2 (by omega) (by omega)]
    have rp : Rel h h1 t n jn old ac rn B := rel_pre (fun c2 x _ => eh c2 x) r
    obtain ⟨m1, m2, m3, m4⟩ := rel_ac rp
    have e7 := (rel_dyn rp).2.2.2.2.2.1
    refine zCal_mono (c6_cases hy m1 m2 (rel_inv rp).2.1) (fun r2 h2 q2 => ?_) (fun _ _ z => z)
    rw [if_pos ⟨hc.1, by rw [← e7]; exact hc.2⟩] at q2
    obtain ⟨rfl, g1, k2, c2⟩ := q2
    obtain ⟨o2, a2, r3⟩ := act_cases (k := y.toNat) (by omega) (by omega) k1 cr k2 c2 r
    exact ⟨by rw [e7], t, n, jn, o2, a2, rn, rel_B (by omega) r3⟩
  · rw [if_neg hc] at q
    obtain ⟨rfl, rfl⟩ := q
    refine ⟨-1, rfl, ?_⟩
    have rp : Rel h (zup h 41 1 (h 41 1 + 1)) t n jn old ac rn B := rel_pre (fun c2 x _ => zup_fn (by omega)) r
    obtain ⟨m1, m2, m3, m4⟩ := rel_ac rp
    have e7 := (rel_dyn rp).2.2.2.2.2.1
    refine zCal_mono (c6_cases hy m1 m2 (rel_inv rp).2.1) (fun r2 h2 q2 => ?_) (fun _ _ z => z)
    rw [if_neg (fun z => hc ⟨z.1, by rw [e7]; exact z.2⟩)] at q2
    obtain ⟨rfl, rfl⟩ := q2
    exact ⟨rfl, _, _, _, _, _, _, (act_refuse (i := 1) (by decide) (fun c2 _ => rfl) r).2.2⟩
theorem sd_undo (r : Rel h h t n jn old ac rn B) : zCal E mX5_undo 12 4 [zrv E 0] h (sdQ (fun v h1 => zCal E mX6_undo 12 4 [zrv E 64] h1 (sdE B v) (fun _ _ => False))) (fun _ _ => False) := by
  obtain ⟨i1, i2, i3, i4, i5⟩ := rel_inv r
  refine zCal_mono (c5_undo i4 i1) (fun r1 h1 q => ?_) (fun _ _ z => z)
  by_cases hc : ac = 0
  · rw [if_pos hc] at q
    obtain ⟨rfl, rfl⟩ := q
    refine ⟨_, rfl, ?_⟩
    obtain ⟨m1, m2, m3, m4⟩ := rel_ac r
    refine zCal_mono (c6_undo m1 m2 i2) (fun r2 h2 q2 => ?_) (fun _ _ z => z)
    rw [if_pos hc] at q2
    obtain ⟨rfl, rfl⟩ := q2
    exact ⟨rfl, _, _, _, _, _, _, rel_B (show B ≤ B + 1 by omega) (act_none 0 r)⟩
  · rw [if_neg hc] at q
    obtain ⟨rfl, u1⟩ := q
    refine ⟨_, rfl, ?_⟩
    have eh : ∀ c2 : Nat, 64 ≤ c2 → h1 c2 = h c2 := by
      obtain ⟨f, o9, a9, p1, p2, p3, p4, p5, p6, p7⟩ := u1
      intro c2 x
      have := p4.1 c2 (by omega) (by omega) (by omega) (by omega)
      rw [zst_ne (by omega)] at this
      exact this
    have rp : Rel h h1 t n jn old ac rn B := rel_pre (fun c2 x _ => eh c2 x) r
    obtain ⟨m1, m2, m3, m4⟩ := rel_ac rp
    refine zCal_mono (c6_undo m1 m2 (rel_inv rp).2.1) (fun r2 h2 q2 => ?_) (fun _ _ z => z)
    rw [if_neg hc] at q2
    obtain ⟨rfl, u2⟩ := q2
    exact ⟨rfl, _, _, _, _, _, _, rel_B (show B ≤ B + 1 by omega) (act_undo (a := ac - 1) (by omega) u1 u2 r)⟩
theorem sd_feed {x0 x1 x2 x3 x4 : Int} (r : Rel h h t n jn old ac rn B) : zCal E mX5_feed 12 4 [zrv E 0, ziv x0, ziv x1, ziv x2, ziv x3, ziv x4] h (sdQ (fun v h1 => zCal E mX6_feed 12 4 [zrv E 64, ziv x0, ziv x1, ziv x2, ziv x3, ziv x4] h1 (sdE B v) (fun _ _ => False))) (fun _ _ => False) := by
  have tp := r.2.1
  refine zCal_mono (c5_feed (by rw [tp.1]; exact tp.2.1)) (fun r1 h1 q => ?_) (fun _ _ z => z)
  by_cases hc : h 0 1 + 20 ≤ 700
  · rw [if_pos hc] at q
    obtain ⟨rfl, c1, c2, c3, c4, c5⟩ := q
    refine ⟨_, rfl, ?_⟩
    have e64 : h1 64 = h 64 := c1 64 (by decide) (by decide)
    refine zCal_mono (c6_feed (by rw [e64]; exact tp.2.1)) (fun r2 h2 q2 => ?_) (fun _ _ z => z)
    rw [if_pos (by rw [e64, ← tp.1]; exact hc)] at q2
    obtain ⟨rfl, m1, m2, m3, m4, m5, m6⟩ := q2
    exact ⟨by rw [e64, tp.1], t, n, jn, old, ac, rn, rel_B (show B ≤ B + 1 by omega) (act_feed hc c1 c2 c3 c4 c5 m1 m2 m4 m5 m6 r)⟩
  · rw [if_neg hc] at q
    obtain ⟨rfl, rfl⟩ := q
    refine ⟨_, rfl, ?_⟩
    refine zCal_mono (c6_feed tp.2.1) (fun r2 h2 q2 => ?_) (fun _ _ z => z)
    rw [if_neg (by rw [← tp.1]; exact hc)] at q2
    obtain ⟨rfl, rfl⟩ := q2
    exact ⟨rfl, _, _, _, _, _, _, rel_B (show B ≤ B + 1 by omega) (act_none 0 r)⟩
theorem sd_fault (r : Rel h h t n jn old ac rn B) : zCal E mX5_fault 12 4 [zrv E 0] h (sdQ (fun v h1 => zCal E mX6_fault 12 4 [zrv E 64] h1 (sdE B v) (fun _ _ => False))) (fun _ _ => False) := by
  obtain ⟨i1, i2, i3, i4, i5⟩ := rel_inv r
  refine zCal_mono (c5_fault i1) (fun r1 h1 q => ?_) (fun _ _ z => z)
  obtain ⟨rfl, rfl⟩ := q
  refine ⟨_, rfl, zCal_mono (c6_fault i2) (fun r2 h2 m => ?_) (fun _ _ z => z)⟩
  obtain ⟨e, r3⟩ := ask_raw (qry_rfl i1.2.2.2.1) m r.2.1.2.2.2 r
  exact ⟨e, _, _, _, _, _, _, r3⟩
theorem sd_round (r : Rel h h t n jn old ac rn B) : zCal E mX5_round 12 4 [zrv E 0] h (sdQ (fun v h1 => zCal E mX6_round 12 4 [zrv E 64] h1 (sdE B v) (fun _ _ => False))) (fun _ _ => False) := by
  obtain ⟨i1, i2, i3, i4, i5⟩ := rel_inv r
  refine zCal_mono (c5_round i1) (fun r1 h1 q => ?_) (fun _ _ z => z)
  obtain ⟨rfl, q⟩ := q
  have rp : Rel h h1 t n jn old ac rn B := rel_pre (fun c2 x _ => q.1 c2 (by omega) (by omega)) r
  refine ⟨_, rfl, zCal_mono (c6_round (rel_inv rp).2.1) (fun r2 h2 m => ?_) (fun _ _ z => z)⟩
  obtain ⟨e, r3⟩ := ask_raw q m (a_round rp) r
  exact ⟨e, _, _, _, _, _, _, r3⟩
theorem sd_decisive (r : Rel h h t n jn old ac rn B) : zCal E mX5_decisive 12 4 [zrv E 0] h (sdQ (fun v h1 => zCal E mX6_decisive 12 4 [zrv E 64] h1 (sdE B v) (fun _ _ => False))) (fun _ _ => False) := by
  obtain ⟨i1, i2, i3, i4, i5⟩ := rel_inv r
  refine zCal_mono (c5_decisive i1) (fun r1 h1 q => ?_) (fun _ _ z => z)
  obtain ⟨rfl, q⟩ := q
  have rp : Rel h h1 t n jn old ac rn B := rel_pre (fun c2 x _ => q.1 c2 (by omega) (by omega)) r
  refine ⟨_, rfl, zCal_mono (c6_decisive (rel_inv rp).2.1) (fun r2 h2 m => ?_) (fun _ _ z => z)⟩
  obtain ⟨e, r3⟩ := ask_raw q m (a_decisive rp) r
  exact ⟨e, _, _, _, _, _, _, r3⟩
theorem sd_restore (r : Rel h h t n jn old ac rn B) : zCal E mX5_restore 12 4 [zrv E 0] h (sdQ (fun v h1 => zCal E mX6_restore 12 4 [zrv E 64] h1 (sdE B v) (fun _ _ => False))) (fun _ _ => False) := by
  obtain ⟨i1, i2, i3, i4, i5⟩ := rel_inv r
  have im := r.2.2.1
  refine zCal_mono (c5_restore im.1 i1) (fun r1 h1 q => ?_) (fun _ _ z => z)
  by_cases hc : h 0 8 = 0
  · rw [if_pos hc] at q
    obtain ⟨rfl, rfl⟩ := q
    refine ⟨_, rfl, zCal_mono (c6_restore (by rw [← im.2.1]; exact im.1)) (fun r2 h2 q2 => ?_) (fun _ _ z => z)⟩
    rw [if_pos (by rw [← im.2.1]; exact hc)] at q2
    obtain ⟨rfl, rfl⟩ := q2
    exact ⟨rfl, _, _, _, _, _, _, rel_B (show B ≤ B + 1 by omega) (act_none 0 r)⟩
  · rw [if_neg hc] at q
    obtain ⟨rfl, c⟩ := q
    have e64 : h1 64 = h 64 := c.1 64 (by decide) (by decide) (by decide) (by decide) (by decide) (by decide) (by decide) (by decide) (by decide) (by decide)
    refine ⟨_, rfl, zCal_mono (c6_restore (by rw [e64, ← im.2.1]; exact im.1)) (fun r2 h2 q2 => ?_) (fun _ _ z => z)⟩
    rw [if_neg (by rw [e64, ← im.2.1]; exact hc)] at q2
    obtain ⟨rfl, m⟩ := q2
    obtain ⟨o2, a2, n2, r3⟩ := act_restore (im.1.resolve_left hc) c m r
    exact ⟨rfl, _, _, _, _, _, _, rel_B (show B ≤ B + 1 by omega) r3⟩
/-- without an answer -/
theorem sd_forget (r : Rel h h t n jn old ac rn B) : zCal E mX5_forget 12 4 [zrv E 0] h (fun r1 h1 => r1 = none ∧ zCal E mX6_forget 12 4 [zrv E 64] h1 (fun r2 h2 => r2 = none ∧ relB h2 (B + 1)) (fun _ _ => False)) (fun _ _ => False) := by
  obtain ⟨i1, i2, i3, i4, i5⟩ := rel_inv r
  refine zCal_mono (c5_forget i1) (fun r1 h1 q => ?_) (fun _ _ z => z)
  obtain ⟨rfl, rfl⟩ := q
  have rp : Rel h (zup h 31 6 0) t n jn old ac rn B := rel_pre (fun c2 x _ => zup_fn (by omega)) r
  refine ⟨rfl, zCal_mono (c6_forget (rel_inv rp).2.1) (fun r2 h2 q2 => ?_) (fun _ _ z => z)⟩
  obtain ⟨rfl, e2⟩ := q2
  exact ⟨rfl, _, _, _, _, _, _, rel_B (show B ≤ B + 1 by omega) (act_forget e2 r)⟩
theorem sd_image (r : Rel h h t n jn old ac rn B) : zCal E mX5_image 12 4 [zrv E 0] h (fun r1 h1 => r1 = none ∧ zCal E mX6_image 12 4 [zrv E 64] h1 (fun r2 h2 => r2 = none ∧ relB h2 (B + 1)) (fun _ _ => False)) (fun _ _ => False) := by
  obtain ⟨i1, i2, i3, i4, i5⟩ := rel_inv r
  refine zCal_mono (c5_image i1) (fun r1 h1 q => ?_) (fun _ _ z => z)
  obtain ⟨rfl, g, c, e'⟩ := q
  refine ⟨rfl, zCal_mono c6_image (fun r2 h2 q2 => ?_) (fun _ _ z => z)⟩
  obtain ⟨rfl, m⟩ := q2
  exact ⟨rfl, _, _, _, _, _, _, rel_B (show B ≤ B + 1 by omega) (act_image c e' m r)⟩
/-- the class threw: the reference tells it, and nothing moves -/
theorem stp_throw {w : Int} (r : Rel h h t n jn old ac rn B) : stp B 1 (some (ziv w)) (zup (zup h 64 4 0) 64 4 1) :=
  ⟨w, rfl, by rw [zup_at, if_pos rfl], fun z => absurd z (by decide), t, n, jn, old, ac, rn, rel_B (show B ≤ B + 1 by omega) (act_throw r)⟩
theorem stp_refuse {h1 : zH} {i : Nat} {v : Int} (hi : i < 3) (hv : zn v = zn (-1)) (e1 : h1 = zup h 41 i (h 41 i + 1)) (r : Rel h h t n jn old ac rn B) : stp B 0 (some (ziv (-1))) (zup (zup (zup h1 103 0 (zn v)) 64 4 0) 77 i (zup h1 103 0 (zn v) 77 i + 1)) := by
  obtain ⟨a1, a2, a3⟩ := act_refuse (h' := zup h1 103 0 (zn v)) hi (fun c2 q => by rw [zup_fn q, e1]) r
  exact ⟨-1, rfl, a1, fun _ => by rw [a2, zup_at, if_pos rfl, hv], t, n, jn, old, ac, rn, a3⟩
theorem st_hand {x y : Int} (hx : -2147483648 ≤ x ∧ x ≤ 2147483647) (hy : -2147483648 ≤ y ∧ y ≤ 2147483647) (r : Rel h h t n jn old ac rn B) : zCalH E mL_hand hL_hand 13 4 [zrv E 0, ziv x, ziv y, zrv E 103] h (stQ (fun k h' => zCal E mX6_hand 12 4 [zrv E 64, ziv x, ziv y] h' (stp B k) (fun _ _ => False))) (fun _ _ => False) := by
  obtain ⟨i1, i2, i3, i4, i5⟩ := rel_inv r
  refine zCalH_mono (cw_hand (c5_hand hx hy i4 i1) (fun r1 h1 q => by obtain ⟨-, q⟩ := q; split at q <;> exact ⟨_, q.1⟩) (fun e h1 q => q.2.1)) (fun r1 h' q => ?_) (fun _ _ z => z)
  rcases q with ⟨v, h1, rfl, ⟨a, q⟩, rfl⟩ | ⟨e, rfl, q1, q2, q3⟩
  · refine ⟨0, rfl, by decide, ?_⟩
    by_cases hc : 0 ≤ y ∧ y ≤ 12
    · rw [if_pos hc] at q
      obtain ⟨b, g, k1, rfl⟩ := q
      have rp : Rel h (zup (zup g 35 x.toNat y) 103 0 (zn v)) t n jn old ac rn B := rel_pre (fun c2 x2 y2 => by rw [zup_fn y2, zup_fn (by omega)]; exact kept_e k1 c2 (by omega) (by omega)) r
      obtain ⟨m1, m2, m3, m4⟩ := rel_ac rp
      refine zCal_mono (c6_hand hx hy m1 m2 (rel_inv rp).2.1) (fun r2 h2 q2 => ?_) (fun _ _ z => z)
      rw [if_pos a, if_pos hc] at q2
      obtain ⟨rfl, g1, k2, rfl⟩ := q2
      obtain ⟨b1, b2, o2, a2, r3⟩ := act_hand hc k1 k2 r
      exact ⟨_, rfl, b1, fun _ => b2.trans ((ziv_inj b).trans (congrArg zn ((rel_dyn rp).2.2.1 x.toNat (by omega)))), t, n, jn, o2, a2, rn, rel_B (by omega) r3⟩
    · rw [if_neg hc] at q
      obtain ⟨b, e1⟩ := q
      have rp : Rel h (zup h1 103 0 (zn v)) t n jn old ac rn B := rel_pre (fun c2 x2 y2 => by rw [zup_fn y2, e1, zup_fn (by omega)]) r
      obtain ⟨m1, m2, m3, m4⟩ := rel_ac rp
      refine zCal_mono (c6_hand hx hy m1 m2 (rel_inv rp).2.1) (fun r2 h2 q2 => ?_) (fun _ _ z => z)
      rw [if_pos a, if_neg hc] at q2
      obtain ⟨rfl, rfl⟩ := q2
      exact stp_refuse (by decide) (ziv_inj b) e1 r
  · refine ⟨1, rfl, by decide, ?_⟩
    subst q1
    obtain ⟨m1, m2, m3, m4⟩ := rel_ac r
    refine zCal_mono (c6_hand hx hy m1 m2 i2) (fun r2 h2 q4 => ?_) (fun _ _ z => z)
    rw [if_neg q3] at q4
    obtain ⟨rfl, rfl⟩ := q4
    exact stp_throw r
theorem st_put {x y : Int} (hx : -2147483648 ≤ x ∧ x ≤ 2147483647) (hy : -2147483648 ≤ y ∧ y ≤ 2147483647) (r : Rel h h t n jn old ac rn B) : zCalH E mL_put hL_put 13 4 [zrv E 0, ziv x, ziv y, zrv E 103] h (stQ (fun k h' => zCal E mX6_put 12 4 [zrv E 64, ziv x, ziv y] h' (stp B k) (fun _ _ => False))) (fun _ _ => False) := by
  obtain ⟨i1, i2, i3, i4, i5⟩ := rel_inv r
  refine zCalH_mono (cw_put (c5_put hx hy i4 i1) (fun r1 h1 q => by obtain ⟨-, q⟩ := q; split at q <;> exact ⟨_, q.1⟩) (fun e h1 q => q.2.1)) (fun r1 h' q => ?_) (fun _ _ z => z)
  rcases q with ⟨v, h1, rfl, ⟨a, q⟩, rfl⟩ | ⟨e, rfl, q1, q2, q3⟩
  · refine ⟨0, rfl, by decide, ?_⟩
    by_cases hc : h 33 x.toNat = y
    · rw [if_pos hc] at q
      obtain ⟨b, e1⟩ := q
      have rp : Rel h (zup h1 103 0 (zn v)) t n jn old ac rn B := rel_pre (fun c2 x2 y2 => by rw [zup_fn y2, e1, zup_fn (by omega)]) r
      obtain ⟨m1, m2, m3, m4⟩ := rel_ac rp
      refine zCal_mono (c6_put hx hy m1 m2 (rel_inv rp).2.1) (fun r2 h2 q2 => ?_) (fun _ _ z => z)
      rw [if_pos a, if_pos (by rw [← (rel_dyn rp).1 x.toNat (by omega)]; exact hc)] at q2
      obtain ⟨rfl, rfl⟩ := q2
      exact stp_refuse (by decide) (ziv_inj b) e1 r
    · rw [if_neg hc] at q
      obtain ⟨b, g, k1, rfl⟩ := q
      have rp : Rel h (zup (zup g 33 x.toNat y) 103 0 (zn v)) t n jn old ac rn B := rel_pre (fun c2 x2 y2 => by rw [zup_fn y2, zup_fn (by omega)]; exact kept_e k1 c2 (by omega) (by omega)) r
      obtain ⟨m1, m2, m3, m4⟩ := rel_ac rp
      refine zCal_mono (c6_put hx hy m1 m2 (rel_inv rp).2.1) (fun r2 h2 q2 => ?_) (fun _ _ z => z)
      rw [if_pos a, if_neg (by rw [← (rel_dyn rp).1 x.toNat (by omega)]; exact hc)] at q2
      obtain ⟨rfl, g1, k2, rfl⟩ := q2
      obtain ⟨b1, b2, o2, a2, r3⟩ := act_put a.2 k1 k2 r
      exact ⟨_, rfl, b1, fun _ => b2.trans ((ziv_inj b).trans (congrArg zn ((rel_dyn rp).1 x.toNat (by omega)))), t, n, jn, o2, a2, rn, rel_B (by omega) r3⟩
  · refine ⟨1, rfl, by decide, ?_⟩
    subst q1
    obtain ⟨m1, m2, m3, m4⟩ := rel_ac r
    refine zCal_mono (c6_put hx hy m1 m2 i2) (fun r2 h2 q4 => ?_) (fun _ _ z => z)
    rw [if_neg q3] at q4
    obtain ⟨rfl, rfl⟩ := q4
    exact stp_throw r
theorem st_read {x y : Int} (hx : -2147483648 ≤ x ∧ x ≤ 2147483647) (hy : -2147483648 ≤ y ∧ y ≤ 2147483647) (r : Rel h h t n jn old ac rn B) : zCalH E mL_read hL_read 13 4 [zrv E 0, ziv x, ziv y, zrv E 103] h (stQ (fun k h' => zCal E mX6_read 12 4 [zrv E 64, ziv x, ziv y] h' (stp B k) (fun _ _ => False))) (fun _ _ => False) := by
  obtain ⟨i1, i2, i3, i4, i5⟩ := rel_inv r
  refine zCalH_mono (cw_read (c5_read hx hy i4 i1) (fun r1 h1 q => by obtain ⟨-, q⟩ := q; split at q <;> exact ⟨_, q.1⟩) (fun e h1 q => q.2.1)) (fun r1 h' q => ?_) (fun _ _ z => z)
  rcases q with ⟨v, h1, rfl, ⟨a, q⟩, rfl⟩ | ⟨e, rfl, q1, q2, q3⟩
  · refine ⟨0, rfl, by decide, ?_⟩
    by_cases hc : (1 ≤ x ∧ x ≤ 20) ∧ rn < 8
    · rw [if_pos hc] at q
      obtain ⟨b, rfl⟩ := q
      have rp : Rel h (zup (zup (zup (zup h 39 rn x) 40 rn y) 31 6 ((rn : Int) + 1)) 103 0 (zn v)) t n jn old ac rn B := rel_pre (fun c2 x2 y2 => by rw [zup_fn y2, zup_fn (by omega), zup_fn (by omega), zup_fn (by omega)]) r
      obtain ⟨m1, m2, m3, m4⟩ := rel_ac rp
      refine zCal_mono (c6_read hx hy m3 m4 (rel_inv rp).2.1) (fun r2 h2 q2 => ?_) (fun _ _ z => z)
      rw [if_pos a, if_pos hc] at q2
      obtain ⟨rfl, e2⟩ := q2
      obtain ⟨b1, b2, r3⟩ := act_read hc.1 a hc.2 rfl e2 r
      exact ⟨_, rfl, b1, fun _ => by rw [b2, ziv_inj b], t, n, jn, old, ac, rn + 1, rel_B (by omega) r3⟩
    · rw [if_neg hc] at q
      obtain ⟨b, e1⟩ := q
      have rp : Rel h (zup h1 103 0 (zn v)) t n jn old ac rn B := rel_pre (fun c2 x2 y2 => by rw [zup_fn y2, e1, zup_fn (by omega)]) r
      obtain ⟨m1, m2, m3, m4⟩ := rel_ac rp
      refine zCal_mono (c6_read hx hy m3 m4 (rel_inv rp).2.1) (fun r2 h2 q2 => ?_) (fun _ _ z => z)
      rw [if_pos a, if_neg hc] at q2
      obtain ⟨rfl, rfl⟩ := q2
      exact stp_refuse (by decide) (ziv_inj b) e1 r
  · refine ⟨1, rfl, by decide, ?_⟩
    subst q1
    obtain ⟨m1, m2, m3, m4⟩ := rel_ac r
    refine zCal_mono (c6_read hx hy m3 m4 i2) (fun r2 h2 q4 => ?_) (fun _ _ z => z)
    rw [if_neg q3] at q4
    obtain ⟨rfl, rfl⟩ := q4
    exact stp_throw r
theorem st_change {x y : Int} (hx : -2147483648 ≤ x ∧ x ≤ 2147483647) (hy : -2147483648 ≤ y ∧ y ≤ 2147483647) (r : Rel h h t n jn old ac rn B) : zCalH E mL_change hL_change 13 4 [zrv E 0, ziv x, ziv y, zrv E 103] h (stQ (fun k h' => zCal E mX6_change 12 4 [zrv E 64, ziv x, ziv y] h' (fun r2 h2 => stp B k r2 h2 ∧ (r2 = some (ziv 0) ∨ r2 = some (ziv 1))) (fun _ _ => False))) (fun _ _ => False) := by
  obtain ⟨i1, i2, i3, i4, i5⟩ := rel_inv r
  refine zCalH_mono (cw_change (c5_change hx hy i4 i1) (fun r1 h1 q => by obtain ⟨-, q⟩ := q; split at q <;> exact ⟨_, q.1⟩) (fun e h1 q => q.2.1)) (fun r1 h' q => ?_) (fun _ _ z => z)
  have z0 : zn 0 = 0 := by decide
  have z1 : zn 1 = 1 := by decide
  rcases q with ⟨v, h1, rfl, ⟨a, q⟩, rfl⟩ | ⟨e, rfl, q1, q2, q3⟩
  · refine ⟨0, rfl, by decide, ?_⟩
    by_cases hc : x = y
    · rw [if_pos hc] at q
      obtain ⟨b, e1⟩ := q
      have ev : zn v = 0 := by rw [ziv_inj b, z0]
      rw [ev, if_pos rfl]
      have rp : Rel h (zup h1 103 0 0) t n jn old ac rn B := rel_pre (fun c2 x2 y2 => by rw [zup_fn y2, e1, zup_fn (by omega)]) r
      obtain ⟨m1, m2, m3, m4⟩ := rel_ac rp
      refine zCal_mono (c6_change hx hy m1 m2 (rel_inv rp).2.2.1.2 (rel_inv rp).2.1) (fun r2 h2 q2 => ?_) (fun _ _ z => z)
      rw [if_pos a, if_pos hc] at q2
      obtain ⟨rfl, rfl⟩ := q2
      obtain ⟨a1, a2, a3⟩ := act_refuse (h' := zup h1 103 0 0) (i := 1) (by decide) (fun c2 q => by rw [zup_fn q, e1]) r
      exact ⟨⟨0, rfl, a1, fun _ => by rw [a2, zup_at, if_pos rfl, z0], t, n, jn, old, ac, rn, a3⟩, Or.inl rfl⟩
    · rw [if_neg hc] at q
      obtain ⟨b, g, k1, e1⟩ := q
      have ev : zn v = 1 := by rw [ziv_inj b, z1]
      rw [ev, if_neg (by decide)]
      have rp : Rel h (zup h1 103 0 1) t n jn old ac rn B := rel_pre (fun c2 x2 y2 => by rw [zup_fn y2, e1, zst_ne (by omega)]; exact kept_e k1 c2 (by omega) (by omega)) r
      obtain ⟨m1, m2, m3, m4⟩ := rel_ac rp
      refine zCal_mono (c6_change hx hy m1 m2 (rel_inv rp).2.2.1.2 (rel_inv rp).2.1) (fun r2 h2 q2 => ?_) (fun _ _ z => z)
      rw [if_pos a, if_neg hc] at q2
      obtain ⟨rfl, g1, k2, e2⟩ := q2
      obtain ⟨b1, b2, o2, a2, r3⟩ := act_change a.1 a.2 k1 (by rw [e1]) k2 e2 r
      exact ⟨⟨1, rfl, b1, fun _ => by rw [b2, z1], t, n, jn, o2, a2, rn, rel_B (by omega) r3⟩, Or.inr rfl⟩
  · refine ⟨1, rfl, by decide, ?_⟩
    subst q1
    obtain ⟨m1, m2, m3, m4⟩ := rel_ac r
    refine zCal_mono (c6_change hx hy m1 m2 i3.2 i2) (fun r2 h2 q4 => ?_) (fun _ _ z => z)
    rw [if_neg q3] at q4
    obtain ⟨rfl, rfl⟩ := q4
    exact ⟨stp_throw r, Or.inl rfl⟩
theorem crt_e {h1 : zH} {u m : Nat} {R : (Int × Nat) ⊕ zDf} {r1 : Option Value} (hu : u ≤ 16) (cq : crtQ h t u R m r1 h1) : (∃ v, r1 = some (ziv v)) ∧ ∀ c2 : Nat, 64 ≤ c2 → h1 c2 = h c2 := by
  rcases R with ⟨k, q⟩ | D
  · obtain ⟨a1, a2, -⟩ := cq
    exact ⟨⟨_, a1⟩, fun c2 x => a2 c2 (by omega) (by omega) (by omega) (by omega)⟩
  · obtain ⟨a1, hx, hy, a2, a3, a4, a5, a6, a7, a8, ⟨c, a9, a10⟩, a11, a12⟩ := cq
    exact ⟨⟨_, a1⟩, fun c2 x => by rw [a12, zup_fn (by omega), zup_fn (by omega), a11.1 c2 (by omega) (by omega) (by omega) (by omega) (by omega)]; exact a2 c2 (by omega) (by omega) (by omega)⟩
theorem st_court {x : Int} (hx : -2147483648 ≤ x ∧ x ≤ 2147483647) (hB : B ≤ 1000) (r : Rel h h t n jn old ac rn B) : zCalH E mL_court hL_court 71 4 [zrv E 0, ziv x, zrv E 103] h (stQ (fun k h' => zCal E mX6_court 60 4 [zrv E 64, ziv x] h' (stp B k) (fun _ _ => False))) (fun _ _ => False) := by
  obtain ⟨i1, i2, i3, i4, i5⟩ := rel_inv r
  obtain ⟨u, u1, u2, u3⟩ := r.1.2.1
  have hu16 : u ≤ 16 := by rcases u1 with e | e <;> omega
  have tp := r.2.1
  have sm := r.2.2.2.2.2.2.2.2 0 (by decide)
  have sm' : h 41 0 = h 77 0 := sm.1
  refine zCalH_mono (cw_court (c5_court hx (by rw [tp.1]; exact tp.2.1) r.1.1.2.1.1 u1 (Ne.symm u2) r.1.1.1 u3 (fun i hi => by rw [tp.1] at hi; rw [(tp.2.2.1 i hi).1]; exact (tp.2.2.1 i hi).2) (by rw [sm']; have := sm.2; omega)) (fun r1 h1 q => (crt_e hu16 q.2).1) (fun e h1 q => q.2.1)) (fun r1 h' q => ?_) (fun _ _ z => z)
  rcases q with ⟨v, h1, rfl, ⟨a, q⟩, rfl⟩ | ⟨e, rfl, q1, q2, q3⟩
  · refine ⟨0, rfl, by decide, ?_⟩
    have rp : Rel h (zup h1 103 0 (zn v)) t n jn old ac rn B := rel_pre (fun c2 x2 y2 => by rw [zup_fn y2]; exact (crt_e hu16 q).2 c2 x2) r
    have tq := rp.2.1
    refine zCal_mono (c6_court 60 4 (by decide) hx tq.2.1 (fun i hi => (tq.2.2.1 i hi).2) rp.1.1.2.2.2.2) (fun r2 h2 q2 => ?_) (fun _ _ z => z)
    have a' : 0 ≤ x ∧ x ≤ zup h1 103 0 (zn v) 64 17 := by rw [← tq.1]; exact a
    exact act_court (m := x.toNat) (by have := tp.1; omega) u3 q rfl (q2.2 a') r
  · refine ⟨1, rfl, by decide, ?_⟩
    subst q1
    refine zCal_mono (c6_court 60 4 (by decide) hx tp.2.1 (fun i hi => (tp.2.2.1 i hi).2) r.1.1.2.2.2.2) (fun r2 h2 q4 => ?_) (fun _ _ z => z)
    obtain ⟨rfl, rfl⟩ := q4.1 (by rw [← tp.1]; exact q3)
    exact stp_throw r
end ZSQ
