/-! THE LAW'S OWN BODY: the script's row -/
section ZVN
variable {C : zC} {n sl pc : Nat} {lv st : List Value} {h : zH}
/-- the script, in the old heap -/
def zScr (C : zC) (b L : Nat) (xs : Nat → Int) : Prop := va_X b L (fun j => Int32.ofInt (xs j)) (as' C) (as' C).heap ∧ b < (as' C).heap.size ∧ b < eb (cE C)
theorem zL_sload {b L : Nat} {xs : Nat → Int} {i : Int} (hs : zScr C b L xs) (hi : 0 ≤ i ∧ i < L) (hL : L ≤ 384) (hd : decode (ccc C) pc = .ok (.iaload, 1)) (kk : zVl C n sl (pc + 1) lv (ziv (xs i.toNat) :: st) h) : zVl C n sl pc lv (ziv i :: .ref b :: st) h := fun ok H locs ls hP hS hl => by
  obtain ⟨h1, h2⟩ := zin hi.1 hi.2 (by omega)
  refine va_sld ok.1 ok.2.1 hs.1 hs.2.1 (fun z => absurd (show eb (cE C) ≤ b from z) (Nat.not_le.mpr hs.2.2)) hS h1 hd ?_
  rw [h2]
  exact kk ok H locs ls hP hS hl
theorem zL_slen {b L : Nat} {xs : Nat → Int} (hs : zScr C b L xs) (hd : decode (ccc C) pc = .ok (.arraylength, 1)) (kk : zVl C n sl (pc + 1) lv (ziv (L : Int) :: st) h) : zVl C n sl pc lv (.ref b :: st) h := fun ok H locs ls hP hS hl => by
  refine va_slen ok.1 ok.2.1 hs.1 hs.2.1 (fun z => absurd (show eb (cE C) ≤ b from z) (Nat.not_le.mpr hs.2.2)) hS hd ?_
  have := kk ok H locs ls hP hS hl
  unfold ziv at this
  rw [Int32.ofInt_eq_ofNat] at this
  exact this
end ZVN
