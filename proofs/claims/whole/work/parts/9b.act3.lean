/-! A STEP OF THE LAW: feeding, a court -/
section ZSW
variable {h h1 h' h2 g1 : zH} {t n jn old ac rn : Nat} {B : Int}
theorem act_feed {x0 x1 x2 x3 x4 : Int} (h20 : h 0 1 + 20 ≤ 700) (c1 : ∀ c2 : Nat, c2 ≠ 0 → c2 ≠ 1 → h1 c2 = h c2) (c2 : ∀ j, j ≠ 1 → h1 0 j = h 0 j) (c3 : h1 0 1 = h 0 1 + 20) (c4 : ∀ i : Nat, (i : Int) < h 0 1 → h1 1 i = h 1 i) (c5 : ∀ i : Nat, i < 20 → h1 1 ((h 0 1).toNat + i) = byteS (if i < 4 then x0 else if i < 8 then x1 else if i < 12 then x2 else if i < 16 then x3 else x4) (i % 4))
    (m1 : ∀ c2 : Nat, c2 ≠ 64 → c2 ≠ 79 → h2 c2 = h1 c2) (m2 : ∀ j, j ≠ 4 → j ≠ 17 → h2 64 j = h1 64 j) (m3 : h2 64 17 = h1 64 17 + 20) (m4 : ∀ i : Nat, (i : Int) < h1 64 17 → h2 79 i = h1 79 i) (m5 : ∀ i : Nat, i < 20 → h2 79 ((h1 64 17).toNat + i) = zand (zshr (if i < 4 then x0 else if i < 8 then x1 else if i < 12 then x2 else if i < 16 then x3 else x4) (24 - 8 * ((i % 4 : Nat) : Int))) 255) (r : Rel h h t n jn old ac rn B) : Rel h2 h2 t n jn old ac rn B := by
  have rp : Rel h h1 t n jn old ac rn B := rel_pre (fun c x _ => c1 c (by omega) (by omega)) r
  exact rel_cg (fun c x => m1 c (by omega) (by omega)) (fun c x y => rfl) (rel_feed h20 c1 c2 c3 c4 c5 m1 m2 m3 m4 m5 rp)
theorem ziv_inj {v w : Int} (e : (some (ziv v) : Option Value) = some (ziv w)) : zn v = zn w := by
  have e1 : ziv v = ziv w := Option.some.inj e
  unfold ziv at e1
  have e2 : Int32.ofInt v = Int32.ofInt w := by injection e1
  unfold zn; rw [e2]
theorem act_court {m u : Nat} {v : Int} {r2 : Option Value} (hm : (m : Int) ≤ h 64 17) (hu : h 14 2 = (u : Int)) (cq : crtQ h t u (textP (h 1) m (m + 1) df0 0) m (some (ziv v)) h1) (e' : h' = zup h1 103 0 (zn v)) (cm : crtM h' (textP (h' 79) m (m + 1) df0 0) m r2 h2) (r : Rel h h t n jn old ac rn B) : stp B 0 r2 h2 := by
  obtain ⟨u9, u1, u2, u3⟩ := r.1.2.1
  have eu : u9 = u := by omega
  subst eu
  have hu9 : u9 = 2 ∨ u9 = 16 := u1
  have tp := r.2.1
  have hT : ∀ i, i < m → h 1 i = h 79 i := fun i hi => (tp.2.2.1 i (by omega)).1
  have e103 : h' 103 0 = zn v := by rw [e', zup_at, if_pos rfl]
  have en : ∀ c2 : Nat, c2 ≠ 103 → h' c2 = h1 c2 := fun c2 x => by rw [e', zup_fn x]
  rw [text_cg hT] at cq
  have tc := (tok_cg hT).1
  cases hR : textP (h 79) m (m + 1) df0 0 with
  | inl w =>
    obtain ⟨k, q⟩ := w
    rw [hR] at cq
    obtain ⟨a1, a2, a3, a4, a5, a6, a7, a8⟩ := cq
    have e79 : h' 79 = h 79 := by rw [en 79 (by decide)]; exact a2 79 (by decide) (by decide) (by decide) (by omega)
    rw [e79, hR] at cm
    obtain ⟨b1, b2, b3, b4, b5, b6, b7⟩ := cm
    rw [e79] at b5
    have rp : Rel h h' t n jn old ac rn B := rel_pre (fun c2 x y => by rw [en c2 y]; exact a2 c2 (by omega) (by omega) (by omega) (by omega)) r
    have r3 := rel_courtB (v := (tA (h 79) m q : Int)) hu a2 a3 a4 (by rw [a5, tc]) a6 a7 a8 b2 b4 b5 b6 b7 rp
    refine ⟨k, b1, b3, fun _ => ?_, t, n, jn, old, ac, rn, rel_cg (fun c x => ?_) (fun c x y => rfl) r3⟩
    · rw [b2.1 103 (by omega), e103]; exact ziv_inj a1
    · rw [b2.1 c (by omega), en c (by omega)]
  | inr D =>
    rw [hR] at cq
    obtain ⟨a1, hx, hy, a2, a3, a4, a5, a6, a7, a8, ⟨c, a9, a10⟩, a11, a12⟩ := cq
    have eF : ∀ c2 : Nat, 36 < c2 → h1 c2 = h c2 := fun c2 x => by rw [a12, zup_fn (by omega), zup_fn (by omega), a11.1 c2 (by omega) (by omega) (by omega) (by omega) (by omega)]; exact a2 c2 (by omega) (by omega) (by omega)
    have e79 : h' 79 = h 79 := by rw [en 79 (by decide)]; exact eF 79 (by decide)
    rw [e79, hR] at cm
    obtain ⟨b1, g, b2, b3, b4, b5, b6, b7, b8, b9⟩ := cm
    have rp : Rel h h' t n jn old ac rn B := rel_pre (fun c2 x y => by rw [en c2 y]; exact eF c2 (by omega)) r
    have r3 := rel_courtO hu a2 a4 a5 a6 a7 a8 a9 a10 a11 b2 b3 b5 b6 b7 b8 b9 rp
    rw [← a12] at r3
    refine ⟨0, b1, ?_, fun _ => ?_, u9, _, _, old, 0, 0, rel_B (show B ≤ B + 1 by omega) (rel_cg (fun c x => ?_) (fun c x y => rfl) r3)⟩
    · rw [b9.2.2.2.2.2.2 4 (by decide) (by decide) (by decide) (by decide) (by decide) (by decide)]; exact b4
    · rw [b9.1 103 (by decide) (by decide) (by decide) (by decide) (by decide), thv_o g (by omega), b2.1 103 (by omega), e103]; exact ziv_inj a1
    · rw [b9.1 c (by omega) (by omega) (by omega) (by omega) (by omega), thv_o g (by omega), b2.1 c (by omega), en c (by omega)]
end ZSW

