/-! A STEP OF THE LAW: further acts -/
section ZSV
variable {h h1 h' h2 g1 : zH} {t n jn old ac rn : Nat} {B : Int}
theorem act_change {x y o : Int} (hx : 0 ≤ x ∧ x < jn) (hy : 0 ≤ y ∧ y < jn) (k1 : kept1 h h1) (e' : h' = zup (zst h1 36 (swapP (h 36) x y jn)) 103 0 o) (k2 : mkept (zup h' 64 4 0) g1) (e2 : h2 = zst g1 81 (swapP (h' 81) x y jn)) (r : Rel h h t n jn old ac rn B) : h2 64 4 = 0 ∧ h2 103 0 = o ∧ ∃ o2 a2 : Nat, Rel h2 h2 t n jn o2 a2 rn B := by
  have ke := kept_e k1
  have e36 : h1 36 = h 36 := ke 36 (by decide) (by decide)
  have e81 : g1 81 = h' 81 := by
    obtain ⟨b9, c9, q1, q2, q3, q4, q5, q6, q7, q8⟩ := k2
    rw [q4 81 (by decide) (by decide), zup_fn (by decide)]
  subst e2
  rw [← e81]
  obtain ⟨a1, a2, a3⟩ := act_keep (cf := fun a => zst a 36 (swapP (a 36) x y jn)) (mf := fun a => zst a 81 (swapP (a 81) x y jn)) (fun a c2 x => zst_ne (by omega)) (fun a c2 x => zst_ne (by omega)) (fun a => by show zst a 81 _ 64 4 = _; rw [zst_ne (by decide)]) (fun a b o2 a2 q => rel_change hx hy q) k1 (fun c2 q => by rw [e', zup_fn q]; show _ = zst h1 36 (swapP (h1 36) x y jn) c2; rw [e36]) k2 r
  exact ⟨a1, by rw [a2, e', zup_at, if_pos rfl], a3⟩
theorem act_cases {k : Nat} (hk : 1 ≤ k) (h999 : h 64 32 + k ≤ 999) (k1 : kept1 h h1) (c1 : ran h1 32 t n jn k h') (k2 : mkept (zup h' 64 4 0) g1) (c2 : mrun g1 n jn k h2) (r : Rel h h t n jn old ac rn B) : ∃ o2 a2 : Nat, Rel h2 h2 t n jn o2 a2 rn B := by
  have ke := kept_e k1
  have eh : ∀ c2 : Nat, 64 ≤ c2 → h' c2 = h c2 := fun c2 x => by rw [c1.1 c2 (by omega) (by omega) (by omega) (by omega) (by omega) (by omega), ke c2 (by omega) (by omega)]
  have rp : Rel h h' t n jn old ac rn B := rel_pre (fun c2 x _ => eh c2 x) r
  obtain ⟨o2, a2, rk⟩ := rel_keep k1 k2 rp
  have g32 : g1 64 32 = h 64 32 := by
    obtain ⟨b9, c9, q1, q2, q3, q4, q5, q6, q7, q8⟩ := k2
    rw [q5 32 (by decide), zup_at, if_neg (by decide), eh 64 (by omega)]
  have r3 := rel_cases hk (by rw [g32]; exact h999) c1 c2 rk
  refine ⟨o2, a2, rel_cg (fun c x => ?_) (fun c x y => rfl) r3⟩
  obtain ⟨b9, c9, q1, q2, q3, q4, q5, q6, q7, q8⟩ := k2
  rw [c2.1.1 c (by unfold kpc; omega), q4 c (by omega) (by omega), zup_fn (by omega)]
theorem act_undo {a : Nat} (ha : ac = a + 1) (u1 : undone1 h h') (u2 : munp (zup (zup h' 64 4 0) 64 35 ((ac : Int) - 1)) 83 (27 * (ac - 1)) h2) (r : Rel h h t n jn old ac rn B) : Rel h2 h2 t n jn old a rn B := by
  have eh : ∀ c2 : Nat, 64 ≤ c2 → h' c2 = h c2 := by
    obtain ⟨f, o9, a9, p1, p2, p3, p4, p5, p6, p7⟩ := u1
    intro c2 x
    have := p4.1 c2 (by omega) (by omega) (by omega) (by omega)
    rw [zst_ne (by omega)] at this
    exact this
  have rp : Rel h h' t n jn old ac rn B := rel_pre (fun c2 x _ => eh c2 x) r
  have r3 := rel_undo u1 ha u2 rp
  exact rel_cg (fun c x => by rw [u2.1 c (by omega) (by omega) (by omega) (by omega), zup_fn (by omega), zup_fn (by omega)]) (fun c x y => rfl) r3
theorem act_none (v : Int) (r : Rel h h t n jn old ac rn B) : Rel (zup h 64 4 v) (zup h 64 4 v) t n jn old ac rn B :=
  rel_cg (fun c2 x => by rw [zup_fn (by omega)]) (fun c2 x y => rfl) (rel_code v r)
theorem act_read {x y o : Int} (hx : 1 ≤ x ∧ x ≤ 20) (hy : 0 ≤ y ∧ y < 5) (h8 : rn < 8) (e' : h' = zup (zup (zup (zup h 39 rn x) 40 rn y) 31 6 ((rn : Int) + 1)) 103 0 o) (e2 : h2 = zup (zup (zup (zup h' 64 4 0) 92 rn x) 93 rn y) 64 36 ((rn : Int) + 1)) (r : Rel h h t n jn old ac rn B) : h2 64 4 = 0 ∧ h2 103 0 = o ∧ Rel h2 h2 t n jn old ac (rn + 1) B := by
  subst e'
  have rp : Rel h (zup (zup (zup (zup (zup h 39 rn x) 40 rn y) 31 6 ((rn : Int) + 1)) 103 0 o) 64 4 0) t n jn old ac rn B := rel_code 0 (rel_pre (fun c2 x y => by rw [zup_fn y, zup_fn (by omega), zup_fn (by omega), zup_fn (by omega)]) r)
  have r3 := rel_read hx hy h8 rp
  subst e2
  refine ⟨by rw [zup_at, if_neg (by decide), zup_fn (by decide), zup_fn (by decide), zup_at, if_pos rfl], by rw [zup_fn (by decide), zup_fn (by decide), zup_fn (by decide), zup_fn (by decide), zup_at, if_pos rfl], ?_⟩
  exact rel_cg (fun c x => by rw [zup_fn (by omega), zup_fn (by omega), zup_fn (by omega), zup_fn (by omega), zup_fn (by omega)]) (fun c x y => rfl) r3
theorem act_forget (e2 : h2 = zup (zup (zup h 31 6 0) 64 4 0) 64 36 0) (r : Rel h h t n jn old ac rn B) : Rel h2 h2 t n jn old ac 0 B := by
  have rp : Rel h (zup (zup h 31 6 0) 64 4 0) t n jn old ac rn B := rel_code 0 (rel_pre (fun c2 x y => by rw [zup_fn (by omega)]) r)
  have r3 := rel_forget rp
  subst e2
  exact rel_cg (fun c x => by rw [zup_fn (by omega), zup_fn (by omega)]) (fun c x y => rfl) r3
theorem act_image (c : dkCp h 31 42 h1) (e' : h' = zup h1 0 8 1) (m : mimg h' h2) (r : Rel h h t n jn old ac rn B) : Rel h2 h2 t n jn old ac rn B := by
  subst e'
  have rp : Rel h (zup h1 0 8 1) t n jn old ac rn B := rel_pre (fun c2 x y => by rw [zup_fn (by omega), c.1 c2 (by omega) (by omega) (by omega) (by omega) (by omega) (by omega) (by omega) (by omega) (by omega) (by omega)]) r
  have r3 := rel_image c m rp
  exact rel_cg (fun c x => m.1 c (by omega) (by omega)) (fun c x y => rfl) r3
theorem act_restore (hi : h 0 8 = 1) (c : dkCp h 42 31 h') (m : mrest h' h2) (r : Rel h h t n jn old ac rn B) : ∃ old2 ac2 rn2 : Nat, Rel h2 h2 t n jn old2 ac2 rn2 B := by
  have rp : Rel h h' t n jn old ac rn B := rel_pre (fun c2 x y => c.1 c2 (by omega) (by omega) (by omega) (by omega) (by omega) (by omega) (by omega) (by omega) (by omega) (by omega)) r
  obtain ⟨o2, a2, n2, r3⟩ := rel_restore hi c m rp
  exact ⟨o2, a2, n2, rel_cg (fun c x => m.1 c (by omega) (by omega) (by omega) (by omega) (by omega) (by omega) (by omega) (by omega)) (fun c x y => rfl) r3⟩
end ZSV

