/-! A STEP OF THE LAW: acts -/
section ZSU
variable {h h1 h' h2 g1 : zH} {t n jn old ac rn : Nat} {B : Int}
theorem kept_e (k : kept1 h h1) : ∀ c2 : Nat, c2 ≠ 31 → c2 ≠ 38 → h1 c2 = h c2 := by
  obtain ⟨f, o9, a9, p1, p2, p3, p4, p5, p6, p7⟩ := k
  intro c2 a b
  have := p4.1 c2 b
  rw [zst_ne a] at this
  exact this
theorem rel_cg {a b a2 b2 : zH} (ea : ∀ c2 : Nat, c2 < 64 → a2 c2 = a c2) (eb : ∀ c2 : Nat, 64 ≤ c2 → c2 ≠ 103 → b2 c2 = b c2) (r : Rel a b t n jn old ac rn B) : Rel a2 b2 t n jn old ac rn B := by
  have r1 : Rel a b2 t n jn old ac rn B := rel_qX ⟨fun c2 x => eb c2 (by omega) (by omega), fun c2 x => by rw [eb c2 (by omega) (by omega)]; exact agn_rfl _ _, fun j _ => by rw [eb 64 (by omega) (by omega)]⟩ r
  exact rel_cgC (fun c2 x y => ea c2 (by omega)) (fun j _ => by rw [ea 0 (by omega)]) (fun j x y => by rw [ea 28 (by omega)]; exact r.1.1.2.2.2.1 j x y) r1
/-- an act that both keep: the class's change cf, the reference's mf -/
theorem act_keep {cf mf : zH → zH} (cfF : ∀ (a : zH) (c2 : Nat), 64 ≤ c2 → cf a c2 = a c2) (mfF : ∀ (a : zH) (c2 : Nat), (c2 < 64 ∨ c2 = 103) → mf a c2 = a c2) (mf4 : ∀ a : zH, mf a 64 4 = a 64 4) (hR : ∀ (a b : zH) (o2 a2 : Nat), Rel a b t n jn o2 a2 rn B → Rel (cf a) (mf b) t n jn o2 a2 rn B)
    (k1 : kept1 h h1) (e1 : ∀ c2 : Nat, c2 ≠ 103 → h' c2 = cf h1 c2) (k2 : mkept (zup h' 64 4 0) g1) (r : Rel h h t n jn old ac rn B) : mf g1 64 4 = 0 ∧ mf g1 103 = h' 103 ∧ ∃ o2 a2 : Nat, Rel (mf g1) (mf g1) t n jn o2 a2 rn B := by
  have ke := kept_e k1
  have rp : Rel h h' t n jn old ac rn B := rel_pre (fun c2 x y => by rw [e1 c2 y, cfF h1 c2 x, ke c2 (by omega) (by omega)]) r
  obtain ⟨o2, a2, rk⟩ := rel_keep k1 k2 rp
  have r3 := hR h1 g1 o2 a2 rk
  obtain ⟨b9, c9, q1, q2, q3, q4, q5, q6, q7, q8⟩ := k2
  have ge : ∀ c2 : Nat, c2 ≠ 64 → c2 ≠ 83 → g1 c2 = h' c2 := fun c2 a b => by rw [q4 c2 a b, zup_fn a]
  refine ⟨by rw [mf4, q5 4 (by decide), zup_at, if_pos rfl], by rw [mfF g1 103 (Or.inr rfl), ge 103 (by decide) (by decide)], o2, a2, ?_⟩
  exact rel_cg (fun c2 x => by rw [mfF g1 c2 (Or.inl x), ge c2 (by omega) (by omega), e1 c2 (by omega)]) (fun c2 x y => rfl) r3
/-- an act that both refuse -/
theorem act_refuse {i : Nat} (hi : i < 3) (e1 : ∀ c2 : Nat, c2 ≠ 103 → h' c2 = zup h 41 i (h 41 i + 1) c2) (r : Rel h h t n jn old ac rn B) : zup (zup h' 64 4 0) 77 i (h' 77 i + 1) 64 4 = 0 ∧ zup (zup h' 64 4 0) 77 i (h' 77 i + 1) 103 = h' 103 ∧ Rel (zup (zup h' 64 4 0) 77 i (h' 77 i + 1)) (zup (zup h' 64 4 0) 77 i (h' 77 i + 1)) t n jn old ac rn (B + 1) := by
  have rp : Rel h h' t n jn old ac rn B := rel_pre (fun c2 x y => by rw [e1 c2 y, zup_fn (by omega)]) r
  have r3 := rel_refuse hi rp
  refine ⟨by rw [zup_fn (by decide), zup_at, if_pos rfl], by rw [zup_fn (by decide), zup_fn (by decide)], ?_⟩
  exact rel_cg (fun c2 x => by rw [zup_fn (by omega), zup_fn (by omega), e1 c2 (by omega)]) (fun c2 x y => rfl) r3
/-- a throw of the class: only the reference's code is told -/
theorem act_throw {v w : Int} (r : Rel h h t n jn old ac rn B) : Rel (zup (zup h 64 4 v) 64 4 w) (zup (zup h 64 4 v) 64 4 w) t n jn old ac rn B :=
  rel_cg (fun c2 x => by rw [zup_fn (by omega), zup_fn (by omega)]) (fun c2 x y => rfl) (rel_code w (rel_code v r))
theorem act_pot {y : Int} (hy : 0 ≤ y ∧ y ≤ 99) (k1 : kept1 h h1) (k2 : mkept (zup (zup h1 32 5 y) 64 4 0) g1) (r : Rel h h t n jn old ac rn B) : ∃ o2 a2 : Nat, Rel (zup g1 64 33 y) (zup g1 64 33 y) t n jn o2 a2 rn B :=
  (act_keep (cf := fun a => zup a 32 5 y) (mf := fun a => zup a 64 33 y) (fun a c2 x => zup_fn (by omega)) (fun a c2 x => zup_fn (by omega)) (fun a => by show zup a 64 33 y 64 4 = _; rw [zup_at, if_neg (by decide)]) (fun a b o2 a2 q => rel_pot hy q) k1 (fun c2 _ => rfl) k2 r).2.2
theorem act_hand {x : Nat} {y o : Int} (hy : 0 ≤ y ∧ y ≤ 12) (k1 : kept1 h h1) (k2 : mkept (zup (zup (zup h1 35 x y) 103 0 o) 64 4 0) g1) (r : Rel h h t n jn old ac rn B) : zup g1 82 x y 64 4 = 0 ∧ zup g1 82 x y 103 0 = o ∧ ∃ o2 a2 : Nat, Rel (zup g1 82 x y) (zup g1 82 x y) t n jn o2 a2 rn B := by
  obtain ⟨a1, a2, a3⟩ := act_keep (cf := fun a => zup a 35 x y) (mf := fun a => zup a 82 x y) (fun a c2 x => zup_fn (by omega)) (fun a c2 x => zup_fn (by omega)) (fun a => by show zup a 82 x y 64 4 = _; rw [zup_fn (by decide)]) (fun a b o2 a2 q => rel_hand hy q) k1 (fun c2 q => zup_fn q) k2 r
  exact ⟨a1, by rw [a2, zup_at, if_pos rfl], a3⟩
theorem act_put {x : Nat} {y o : Int} (hy : 0 ≤ y ∧ y < 12) (k1 : kept1 h h1) (k2 : mkept (zup (zup (zup h1 33 x y) 103 0 o) 64 4 0) g1) (r : Rel h h t n jn old ac rn B) : zup g1 80 x y 64 4 = 0 ∧ zup g1 80 x y 103 0 = o ∧ ∃ o2 a2 : Nat, Rel (zup g1 80 x y) (zup g1 80 x y) t n jn o2 a2 rn B := by
  obtain ⟨a1, a2, a3⟩ := act_keep (cf := fun a => zup a 33 x y) (mf := fun a => zup a 80 x y) (fun a c2 x => zup_fn (by omega)) (fun a c2 x => zup_fn (by omega)) (fun a => by show zup a 80 x y 64 4 = _; rw [zup_fn (by decide)]) (fun a b o2 a2 q => rel_put hy q) k1 (fun c2 q => zup_fn q) k2 r
  exact ⟨a1, by rw [a2, zup_at, if_pos rfl], a3⟩
end ZSU

