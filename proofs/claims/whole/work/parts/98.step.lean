/-! A STEP OF THE LAW -/
section ZST
variable {h h1 h' h2 : zH} {t n jn old ac rn : Nat} {B k : Int} {r2 : Option Value}
/-- behind a step: the code, the answer where there is one, and both sides alike -/
def stp (B k : Int) (r2 : Option Value) (h2 : zH) : Prop := ∃ w : Int, r2 = some (ziv w) ∧ h2 64 4 = k ∧ (k = 0 → h2 103 0 = zn w) ∧ ∃ t n jn old ac rn : Nat, Rel h2 h2 t n jn old ac rn (B + 1)
/-- what the reference may be asked, where the class has moved already -/
theorem rel_pre (e : ∀ c2 : Nat, 64 ≤ c2 → c2 ≠ 103 → h' c2 = h c2) (r : Rel h h t n jn old ac rn B) : Rel h h' t n jn old ac rn B :=
  rel_qX ⟨fun c2 x => e c2 (by omega) (by omega), fun c2 x => by rw [e c2 (by omega) (by omega)]; exact agn_rfl _ _, fun j _ => by rw [e 64 (by omega) (by omega)]⟩ r
theorem qry_rfl (rk : rkOK h) : qry h h := ⟨fun _ _ _ => rfl, fun _ _ => rfl, rk⟩
/-- the class was asked: k tells how it answered -/
def askd (h : zH) (k V : Int) (h' : zH) : Prop := (k = 0 ∧ ∃ h1, qry h h1 ∧ h' = zup h1 103 0 (zn V)) ∨ (k ≠ 0 ∧ h' = h)
theorem askd_e {V : Int} (a : askd h k V h') : ∀ c2 : Nat, 64 ≤ c2 → c2 ≠ 103 → h' c2 = h c2 := by
  intro c2 x y
  rcases a with ⟨-, h1, q, rfl⟩ | ⟨-, rfl⟩
  · rw [zup_fn y]; exact q.1 c2 (by omega) (by omega)
  · rfl
theorem ask_fin {V W F : Int} (a : askd h k V h') (hF : F = k) (hm : mA h' F W r2 h2) (hv : k = 0 → V = W) (r : Rel h h t n jn old ac rn B) : stp B k r2 h2 := by
  subst hF
  obtain ⟨q2, m4, w, m5, m6⟩ := hm
  rcases a with ⟨k0, h1, q, rfl⟩ | ⟨k0, rfl⟩
  · refine ⟨w, m5, m4, fun z => ?_, t, n, jn, old, ac, rn, rel_B (by omega) (rel_askW q q2 r).2⟩
    rw [q2.1 103 (by omega), zup_at, if_pos rfl, hv z, m6 z]
  · exact ⟨w, m5, m4, fun z => absurd z k0, t, n, jn, old, ac, rn, rel_B (by omega) (rel_ask0 q2 r)⟩
/-- the same where the class's asking cannot throw, and its answer is held against the reference's at once -/
theorem ask_raw {V W : Int} (q : qry h h1) (hm : mA h1 0 W r2 h2) (hv : V = W) (r : Rel h h t n jn old ac rn B) : r2 = some (ziv V) ∧ Rel h2 h2 t n jn old ac rn (B + 1) := by
  obtain ⟨q2, m4, w, m5, m6⟩ := hm
  exact ⟨by rw [m5, m6 rfl, hv], rel_B (by omega) (rel_ask q q2 r).2⟩
end ZST

