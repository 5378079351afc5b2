/-! THE LAW'S OWN BODY: the answer's place -/
section ZVO
variable {C : zC} {n sl pc : Nat} {lv st : List Value} {h : zH}
theorem zL_laload {k N : Nat} {i : Int} (hk : zsh[k]? = some (.inr (2, N))) (hi : 0 ≤ i ∧ i < N) (hb : N ≤ 2147483647) (hd : decode (ccc C) pc = .ok (.laload, 1)) (kk : zVl C n sl (pc + 1) lv (zlv (h k i.toNat) :: st) h) : zVl C n sl pc lv (ziv i :: zrv (cE C) k :: st) h := fun ok H locs ls hP hS hl => by
  obtain ⟨h1, h2⟩ := zin hi.1 hi.2 hb
  refine va_lald (D := eD (cE C)) ok.1 ok.2.1 ok.2.2.2.2.2.2.2.1.1 hP k 2 (zws_at hk) rfl h1 hd ?_
  rw [h2]
  exact kk ok H locs ls hP hS hl
end ZVO
