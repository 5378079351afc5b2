/-! CLASS AND REFERENCE: what is fed -/
theorem bv_byte (a : BitVec 32) (s : Nat) (hs : s ≤ 24) : (a.sshiftRight s) &&& 255#32 = (a >>> s) &&& 255#32 := by
  apply BitVec.eq_of_getLsbD_eq
  intro i hi
  rw [BitVec.getLsbD_and, BitVec.getLsbD_and, BitVec.getLsbD_sshiftRight, BitVec.getLsbD_ushiftRight]
  by_cases h8 : i < 8
  · have e : s + i < 32 := by omega
    simp only [e, hi, decide_true, if_true, Nat.not_le.mpr hi, decide_false, Bool.not_false, Bool.true_and]
  · have : (255#32).getLsbD i = false := by
      have h : ∀ i, i < 32 → ¬ i < 8 → (255#32).getLsbD i = false := by decide
      exact h i hi h8
    rw [this, Bool.and_false, Bool.and_false]
theorem zand_255 (x : Int) : 0 ≤ zand x 255 ∧ zand x 255 ≤ 255 := by
  unfold zand
  have h1 : (Int32.ofInt x &&& Int32.ofInt 255).toBitVec.toNat ≤ 255 := by
    rw [Int32.toBitVec_and, BitVec.toNat_and]
    exact Nat.and_le_right
  have h2 : (Int32.ofInt x &&& Int32.ofInt 255).toInt = ((Int32.ofInt x &&& Int32.ofInt 255).toBitVec.toNat : Int) := BitVec.toInt_eq_toNat_of_lt (by omega)
  omega
theorem byte_eq (x : Int) {s : Int} (hs : s = 24 ∨ s = 16 ∨ s = 8 ∨ s = 0) : zand (zushr x s) 255 = zand (zshr x s) 255 := by
  unfold zand zushr zshr
  rw [Int32.ofInt_toInt, Int32.ofInt_toInt]
  congr 1
  apply Int32.toBitVec_inj.mp
  rw [Int32.toBitVec_and, Int32.toBitVec_and]
  generalize Int32.ofInt x = a
  have e255 : (Int32.ofInt 255).toBitVec = 255#32 := by decide
  rw [e255]
  rcases hs with rfl | rfl | rfl | rfl
  · exact (bv_byte a.toBitVec 24 (by decide)).symm
  · exact (bv_byte a.toBitVec 16 (by decide)).symm
  · exact (bv_byte a.toBitVec 8 (by decide)).symm
  · exact (bv_byte a.toBitVec 0 (by decide)).symm
theorem sh_4 {i : Nat} : (24 - 8 * ((i % 4 : Nat) : Int) = 24) ∨ (24 - 8 * ((i % 4 : Nat) : Int) = 16) ∨ (24 - 8 * ((i % 4 : Nat) : Int) = 8) ∨ (24 - 8 * ((i % 4 : Nat) : Int) = 0) := by omega
section ZAF
variable {hc hm h1 h2 : zH} {t n jn old ac rn : Nat} {B : Int}
/-- a tape, told anew -/
theorem rel_tape (ec : ∀ c2 : Nat, c2 ≠ 0 → c2 ≠ 1 → h1 c2 = hc c2) (e0 : ∀ j, j ≠ 1 → j ≠ 2 → h1 0 j = hc 0 j) (em : ∀ c2 : Nat, 64 < c2 → c2 ≠ 79 → h2 c2 = hm c2) (e64 : ∀ j, j ≠ 4 → j ≠ 17 → j ≠ 26 → h2 64 j = hm 64 j) (tp : tpR h1 h2) (r : Rel hc hm t n jn old ac rn B) : Rel h1 h2 t n jn old ac rn B := by
  have hn := rel_n r
  obtain ⟨⟨⟨a1, a2, a3, a4, a5⟩, ⟨u, u1, u2, u3⟩, ⟨b1, b2, b3⟩, c4, c5⟩, -, ⟨i1, i2, i3⟩, nw⟩ := r
  have ht : t = 2 ∨ t = 16 := a2.1
  have et : ∀ o, h1 (t + o) = hc (t + o) := fun o => ec (t + o) (by omega) (by omega)
  have e8 : h1 0 8 = hc 0 8 := e0 8 (by decide) (by decide)
  refine ⟨⟨⟨by rw [e0 3 (by decide) (by decide)]; exact a1, courtOK_congr (fun o _ => et o) a2, mCt_congr (em 68 (by decide) (by decide)) (em 70 (by decide) (by decide)) (em 71 (by decide) (by decide)) (em 74 (by decide) (by decide)) (em 75 (by decide) (by decide)) (em 76 (by decide) (by decide)) a3, fun j a b => by rw [ec 28 (by decide) (by decide)]; exact a4 j a b, by rw [em 65 (by decide) (by decide)]; exact a5.1, by rw [em 66 (by decide) (by decide)]; exact a5.2.1, by rw [em 67 (by decide) (by decide)]; exact a5.2.2⟩, ⟨u, u1, u2, by rw [ec 14 (by decide) (by decide)]; exact u3⟩, ⟨by rw [et 2, em 70 (by decide) (by decide)]; exact b1, by rw [et 6, em 71 (by decide) (by decide)]; exact b2, by rw [et 5, em 74 (by decide) (by decide)]; exact b3⟩, fun ru hru => by rw [et 10, ruleV_congr (et 7) (et 8) (et 9), em 68 (by decide) (by decide), ruM_congr (em 68 (by decide) (by decide)) (em (75 + ru) (by omega) (by omega))]; exact c4 ru hru, by rw [ec 34 (by decide) (by decide), et 3, em 78 (by decide) (by decide)]; exact c5⟩, tp, ⟨by rw [e8]; exact i1, by rw [e8, e64 58 (by decide) (by decide) (by decide)]; exact i2, fun z => ?_⟩, ?_⟩
  · rw [e8] at z
    obtain ⟨⟨o2, ac2, rn2, d2⟩, d3⟩ := i3 z
    refine ⟨⟨o2, ac2, rn2, ?_⟩, by rw [ec 45 (by decide) (by decide), em 78 (by decide) (by decide)]; exact d3⟩
    rw [em 98 (by decide) (by decide), em 99 (by decide) (by decide), em 100 (by decide) (by decide), em 101 (by decide) (by decide), em 102 (by decide) (by decide), e64 59 (by decide) (by decide) (by decide), e64 60 (by decide) (by decide) (by decide)]
    exact dkR_cgC hn.1 hn.2 (fun k hk => ec (42 + k) (by omega) (by omega)) d2
  · refine dkR_cgC hn.1 hn.2 (fun k hk => ec (31 + k) (by omega) (by omega)) ?_
    exact dkR_cgM hn.1 hn.2 (rowF_cg (fun j a b => e64 j (by omega) (by omega) (by omega)) (fun c2 hh => by rw [em c2 (by omega) (by omega)]; exact agn_rfl _ _)) (fun i _ => by rw [em 83 (by decide) (by decide)]) (e64 35 (by decide) (by decide) (by decide)) (e64 36 (by decide) (by decide) (by decide)) (fun i _ => by rw [em 92 (by decide) (by decide)]) (fun i _ => by rw [em 93 (by decide) (by decide)]) (fun i _ => by rw [em 77 (by decide) (by decide)]) nw
/-- twenty bytes more -/
theorem rel_feed {x0 x1 x2 x3 x4 : Int} (h20 : hc 0 1 + 20 ≤ 700) (c1 : ∀ c2 : Nat, c2 ≠ 0 → c2 ≠ 1 → h1 c2 = hc c2) (c2 : ∀ j, j ≠ 1 → h1 0 j = hc 0 j) (c3 : h1 0 1 = hc 0 1 + 20) (c4 : ∀ i : Nat, (i : Int) < hc 0 1 → h1 1 i = hc 1 i) (c5 : ∀ i : Nat, i < 20 → h1 1 ((hc 0 1).toNat + i) = byteS (if i < 4 then x0 else if i < 8 then x1 else if i < 12 then x2 else if i < 16 then x3 else x4) (i % 4))
    (m1 : ∀ c2 : Nat, c2 ≠ 64 → c2 ≠ 79 → h2 c2 = hm c2) (m2 : ∀ j, j ≠ 4 → j ≠ 17 → h2 64 j = hm 64 j) (m3 : h2 64 17 = hm 64 17 + 20) (m4 : ∀ i : Nat, (i : Int) < hm 64 17 → h2 79 i = hm 79 i) (m5 : ∀ i : Nat, i < 20 → h2 79 ((hm 64 17).toNat + i) = zand (zshr (if i < 4 then x0 else if i < 8 then x1 else if i < 12 then x2 else if i < 16 then x3 else x4) (24 - 8 * ((i % 4 : Nat) : Int))) 255) (r : Rel hc hm t n jn old ac rn B) : Rel h1 h2 t n jn old ac rn B := by
  obtain ⟨t1, t2, t3, t4⟩ := r.2.1
  refine rel_tape c1 (fun j a _ => c2 j a) (fun c2 a b => m1 c2 (by omega) b) (fun j a b _ => m2 j a b) ⟨by rw [c3, m3, t1], by rw [m3]; omega, fun i hi => ?_, by rw [c2 2 (by decide), m2 26 (by decide) (by decide)]; exact t4⟩ r
  by_cases z : (i : Int) < hm 64 17
  · rw [c4 i (by omega), m4 i z]; exact t3 i z
  · rw [m3] at hi
    have ei : i = (hm 64 17).toNat + (i - (hm 64 17).toNat) := by omega
    have a1 := c5 (i - (hm 64 17).toNat) (by omega)
    have a2 := m5 (i - (hm 64 17).toNat) (by omega)
    rw [t1, ← ei] at a1
    rw [← ei] at a2
    rw [a1, a2]
    unfold byteS
    rw [byte_eq _ sh_4]
    exact ⟨rfl, zand_255 _⟩
end ZAF

