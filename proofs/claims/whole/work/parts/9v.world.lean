/-! THE LAW'S START: the world behind the constructors -/
def hz0 (c i : Nat) : Int := if c = 0 then (if i = 2 then -1 else if i = 3 then 2 else 0) else if c = 2 then (if i = 8 then 60 else 0) else if c = 14 then (if i = 0 then 15 else if i = 2 then 16 else 0) else if c = 16 then (if i = 8 then 60 else 0) else if c = 32 then (if i = 5 then 60 else if i = 7 then -1 else 0) else if c = 43 then (if i = 5 then 60 else if i = 7 then -1 else 0) else if c = 53 then (if i = 5 then 60 else if i = 7 then -1 else 0) else if c = 64 then (if i = 3 then 66 else if i = 26 then -1 else if i = 33 then 60 else if i = 34 then -1 else 0) else if c = 65 then ((28 + i : Nat) : Int) else if c = 66 then ((30 + i : Nat) : Int) else if c = 67 then ((30 + i : Nat) : Int) else if c = 68 then (if i = 2 then 60 else 0) else 0
theorem rel0 : Rel hz0 hz0 2 0 0 0 0 0 0 := by
  have v : ∀ {P : Prop} (j : Nat), j < 0 → P := fun j hj => absurd hj (Nat.not_lt_zero j)
  refine ⟨⟨⟨by decide, ⟨Or.inl rfl, by decide, by decide, by decide, by decide, fun l hl => v l hl, fun j hj => v j hj, fun ru hru => Or.inl ?_⟩, ⟨⟨by decide, by decide, by decide, by decide⟩, fun l hl => v l hl, fun j hj => v j hj, fun j hj => v j hj, Or.inl (by decide), Or.inl (by decide)⟩, fun j h1 h2 => ?_, ⟨fun j hj => rfl, fun j hj => rfl, fun j hj => rfl⟩⟩, ⟨16, Or.inr rfl, by decide, by decide⟩, ⟨fun l hl => v l hl, fun j hj => v j hj, fun j hj => v j hj⟩, fun ru hru => ?_, fun j hj => v j hj⟩, ⟨by decide, by decide, fun i hi => ?_, by decide⟩, ⟨Or.inl (by decide), by decide, fun h => absurd h (by decide)⟩, ⟨by decide, by decide, by decide, by decide, by decide, by decide⟩, ⟨by decide, by decide⟩, ⟨⟨fun i hi => v i hi, fun j hj => v j hj, fun j hj => v j hj, by decide, by decide, by decide⟩, ⟨fun l hl => v l hl, fun j hj => v j hj, fun j hj => v j hj, ⟨fun a b ha => v a ha, fun j hj => v j hj⟩, by decide, by decide⟩⟩, fun a ha => v a ha, fun i hi => v i hi, fun i hi => ?_⟩
  · rcases (show ru = 0 ∨ ru = 1 by omega) with rfl | rfl <;> decide
  · rcases (show j = 2 ∨ j = 3 ∨ j = 4 by omega) with rfl | rfl | rfl <;> decide
  · rcases (show ru = 0 ∨ ru = 1 by omega) with rfl | rfl
    · exact ⟨by decide, fun h => absurd (by decide) h⟩
    · exact ⟨by decide, fun h => absurd (by decide) h⟩
  · have e : hz0 64 17 = 0 := by decide
    rw [e] at hi
    omega
  · rcases (show i = 0 ∨ i = 1 ∨ i = 2 by omega) with rfl | rfl | rfl <;> decide
/-- where the cells lie -/
def adz (x : Nat) (f : Nat → Nat) (y : Nat) (g : Nat → Nat) (o : Nat) : Nat → Nat := fun k => if k = 0 then x else if k < 64 then f k else if k = 64 then y else if k < 103 then g (k - 64) else o
abbrev zE2 (E : zE) (ad : Nat → Nat) : zE := (E.1, E.2.1, E.2.2.1, ad, E.2.2.2.2.1, E.2.2.2.2.2.1, E.2.2.2.2.2.2.1, E.2.2.2.2.2.2.2)
theorem zws_z (E : zE) (h : zH) : zws E h = zsh.zipIdx.map (fun q => (ead E q.2, zce E h q.2 q.1)) := by
  unfold zws
  rw [List.mapIdx_eq_zipIdx_map]
set_option maxRecDepth 100000 in
set_option maxHeartbeats 4000000 in
theorem zws_0 (E : zE) (x : Nat) (f : Nat → Nat) (y : Nat) (g : Nat → Nat) (o : Nat) : (poX5 E x f ++ poX6 E y g) ++ [(o, zJ E 1)] = zws (zE2 E (adz x f y g o)) hz0 := by
  rw [zws_z]
  rfl
