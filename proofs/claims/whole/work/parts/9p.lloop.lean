/-! THE LAW'S OWN BODY: its loop and its end -/
section ZVS
variable {E : zE} {b L : Nat} {xs : Nat → Int} {p : Program} {e : Env} {s : State} {m : MethodId} {below : List Frame} {meth : Method} {c : Code}
variable {nn sl n0 s0 : Nat} {h : zH} {i B : Int}
theorem zand_63 (x : Int) : 0 ≤ zand x 63 ∧ zand x 63 ≤ 63 := by
  unfold zand
  have h1 : (Int32.ofInt x &&& Int32.ofInt 63).toBitVec.toNat ≤ 63 := by
    rw [Int32.toBitVec_and, BitVec.toNat_and]
    exact Nat.and_le_right
  have h2 : (Int32.ofInt x &&& Int32.ofInt 63).toInt = ((Int32.ofInt x &&& Int32.ofInt 63).toBitVec.toNat : Int) := BitVec.toInt_eq_toNat_of_lt (by omega)
  omega
/-- the law's end -/
theorem lw_out (hb : s.heap.size ≤ eb E) (hn : nn ≤ 600128) (hs : sl ≤ 7301098) {lv : List Value} : zVl (lwC E b p e s m below meth c) nn sl 2539 lv [] h := by
  refine zL_iconst dL_law_2539 ?_
  intro ok H locs ls hP hS hl
  exact va_forget (fun q hq => Nat.le_trans hb (hS.2.2 q hq)) (W.widen hn hs (lw_ret ok.1 ok.2.1 ok.2.2.1 ok.2.2.2.2.2.2.1 dL_law_2540))
theorem lw_step (Wl : lwI (lwC E b p e s m below meth c) b L xs i nn sl) (hB : B ≤ 1000) (R : relB h B) (K : lwK (lwC E b p e s m below meth c) b i nn sl B) : zVl (lwC E b p e s m below meth c) nn sl 33 (lvL E b i) [] h := by
  obtain ⟨t, n, jn, old, ac, rn, r⟩ := R
  have hW := Wl
  obtain ⟨hs, hL, hnc, hi, hx, hn⟩ := Wl
  refine zL_aload_n dL_law_33 rfl rfl ?_
  refine zL_iload dL_law_34 (v := i) rfl ?_
  refine zL_sload hs (by omega) hL dL_law_36 ?_
  refine zL_bipush dL_law_37 (by decide) ?_
  refine zL_iand dL_law_39 ?_
  have hv := zand_63 (xs i.toNat)
  generalize zand (xs i.toNat) 63 = v at hv ⊢
  have hz : zn v = v := zn_of (by omega) (by omega)
  by_cases h0 : v = 0
  · exact zL_tableIn (tgt := 228) dL_law_40 (by omega) (by omega) (by rw [hz, h0]; rfl) (by decide) (lw_feed hW hB r K)
  by_cases h1 : v = 1
  · exact zL_tableIn (tgt := 301) dL_law_40 (by omega) (by omega) (by rw [hz, h1]; rfl) (by decide) (lw_court hW hB r K)
  by_cases h2 : v = 2
  · exact zL_tableIn (tgt := 357) dL_law_40 (by omega) (by omega) (by rw [hz, h2]; rfl) (by decide) (lw_fault hW hB r K)
  by_cases h3 : v = 3
  · exact zL_tableIn (tgt := 370) dL_law_40 (by omega) (by omega) (by rw [hz, h3]; rfl) (by decide) (lw_count hW hB r K)
  by_cases h4 : v = 4
  · exact zL_tableIn (tgt := 426) dL_law_40 (by omega) (by omega) (by rw [hz, h4]; rfl) (by decide) (lw_leaf hW hB r K)
  by_cases h5 : v = 5
  · exact zL_tableIn (tgt := 494) dL_law_40 (by omega) (by omega) (by rw [hz, h5]; rfl) (by decide) (lw_judge hW hB r K)
  by_cases h6 : v = 6
  · exact zL_tableIn (tgt := 562) dL_law_40 (by omega) (by omega) (by rw [hz, h6]; rfl) (by decide) (lw_seat hW hB r K)
  by_cases h7 : v = 7
  · exact zL_tableIn (tgt := 618) dL_law_40 (by omega) (by omega) (by rw [hz, h7]; rfl) (by decide) (lw_heap hW hB r K)
  by_cases h8 : v = 8
  · exact zL_tableIn (tgt := 674) dL_law_40 (by omega) (by omega) (by rw [hz, h8]; rfl) (by decide) (lw_cases hW hB r K)
  by_cases h9 : v = 9
  · exact zL_tableIn (tgt := 699) dL_law_40 (by omega) (by omega) (by rw [hz, h9]; rfl) (by decide) (lw_change hW hB r K)
  by_cases h10 : v = 10
  · exact zL_tableIn (tgt := 774) dL_law_40 (by omega) (by omega) (by rw [hz, h10]; rfl) (by decide) (lw_hand hW hB r K)
  by_cases h11 : v = 11
  · exact zL_tableIn (tgt := 842) dL_law_40 (by omega) (by omega) (by rw [hz, h11]; rfl) (by decide) (lw_pot hW hB r K)
  by_cases h12 : v = 12
  · exact zL_tableIn (tgt := 867) dL_law_40 (by omega) (by omega) (by rw [hz, h12]; rfl) (by decide) (lw_put hW hB r K)
  by_cases h13 : v = 13
  · exact zL_tableIn (tgt := 935) dL_law_40 (by omega) (by omega) (by rw [hz, h13]; rfl) (by decide) (lw_undo hW hB r K)
  by_cases h14 : v = 14
  · exact zL_tableIn (tgt := 948) dL_law_40 (by omega) (by omega) (by rw [hz, h14]; rfl) (by decide) (lw_verdict hW hB r K)
  by_cases h15 : v = 15
  · exact zL_tableIn (tgt := 1016) dL_law_40 (by omega) (by omega) (by rw [hz, h15]; rfl) (by decide) (lw_lies hW hB r K)
  by_cases h16 : v = 16
  · exact zL_tableIn (tgt := 1084) dL_law_40 (by omega) (by omega) (by rw [hz, h16]; rfl) (by decide) (lw_often hW hB r K)
  by_cases h17 : v = 17
  · exact zL_tableIn (tgt := 1152) dL_law_40 (by omega) (by omega) (by rw [hz, h17]; rfl) (by decide) (lw_first hW hB r K)
  by_cases h18 : v = 18
  · exact zL_tableIn (tgt := 1208) dL_law_40 (by omega) (by omega) (by rw [hz, h18]; rfl) (by decide) (lw_round hW hB r K)
  by_cases h19 : v = 19
  · exact zL_tableIn (tgt := 1221) dL_law_40 (by omega) (by omega) (by rw [hz, h19]; rfl) (by decide) (lw_pleased hW hB r K)
  by_cases h20 : v = 20
  · exact zL_tableIn (tgt := 1277) dL_law_40 (by omega) (by omega) (by rw [hz, h20]; rfl) (by decide) (lw_swept hW hB r K)
  by_cases h21 : v = 21
  · exact zL_tableIn (tgt := 1333) dL_law_40 (by omega) (by omega) (by rw [hz, h21]; rfl) (by decide) (lw_orders hW hB r K)
  by_cases h22 : v = 22
  · exact zL_tableIn (tgt := 1401) dL_law_40 (by omega) (by omega) (by rw [hz, h22]; rfl) (by decide) (lw_decisive hW hB r K)
  by_cases h23 : v = 23
  · exact zL_tableIn (tgt := 1414) dL_law_40 (by omega) (by omega) (by rw [hz, h23]; rfl) (by decide) (lw_toTurn hW hB r K)
  by_cases h24 : v = 24
  · exact zL_tableIn (tgt := 1470) dL_law_40 (by omega) (by omega) (by rw [hz, h24]; rfl) (by decide) (lw_toDrink hW hB r K)
  by_cases h25 : v = 25
  · exact zL_tableIn (tgt := 1538) dL_law_40 (by omega) (by omega) (by rw [hz, h25]; rfl) (by decide) (lw_toPour hW hB r K)
  by_cases h26 : v = 26
  · exact zL_tableIn (tgt := 1594) dL_law_40 (by omega) (by omega) (by rw [hz, h26]; rfl) (by decide) (lw_toLay hW hB r K)
  by_cases h27 : v = 27
  · exact zL_tableIn (tgt := 1662) dL_law_40 (by omega) (by omega) (by rw [hz, h27]; rfl) (by decide) (lw_better hW hB r K)
  by_cases h28 : v = 28
  · exact zL_tableIn (tgt := 1718) dL_law_40 (by omega) (by omega) (by rw [hz, h28]; rfl) (by decide) (lw_stir hW hB r K)
  by_cases h29 : v = 29
  · exact zL_tableIn (tgt := 1798) dL_law_40 (by omega) (by omega) (by rw [hz, h29]; rfl) (by decide) (lw_apart hW hB r K)
  by_cases h30 : v = 30
  · exact zL_tableIn (tgt := 1866) dL_law_40 (by omega) (by omega) (by rw [hz, h30]; rfl) (by decide) (lw_drunk hW hB r K)
  by_cases h31 : v = 31
  · exact zL_tableIn (tgt := 1934) dL_law_40 (by omega) (by omega) (by rw [hz, h31]; rfl) (by decide) (lw_thirstiest hW hB r K)
  by_cases h32 : v = 32
  · exact zL_tableIn (tgt := 1990) dL_law_40 (by omega) (by omega) (by rw [hz, h32]; rfl) (by decide) (lw_streak hW hB r K)
  by_cases h33 : v = 33
  · exact zL_tableIn (tgt := 2046) dL_law_40 (by omega) (by omega) (by rw [hz, h33]; rfl) (by decide) (lw_come hW hB r K)
  by_cases h34 : v = 34
  · exact zL_tableIn (tgt := 2102) dL_law_40 (by omega) (by omega) (by rw [hz, h34]; rfl) (by decide) (lw_weight hW hB r K)
  by_cases h35 : v = 35
  · exact zL_tableIn (tgt := 2158) dL_law_40 (by omega) (by omega) (by rw [hz, h35]; rfl) (by decide) (lw_read hW hB r K)
  by_cases h36 : v = 36
  · exact zL_tableIn (tgt := 2226) dL_law_40 (by omega) (by omega) (by rw [hz, h36]; rfl) (by decide) (lw_handed hW hB r K)
  by_cases h37 : v = 37
  · exact zL_tableIn (tgt := 2282) dL_law_40 (by omega) (by omega) (by rw [hz, h37]; rfl) (by decide) (lw_look hW hB r K)
  by_cases h38 : v = 38
  · exact zL_tableIn (tgt := 2338) dL_law_40 (by omega) (by omega) (by rw [hz, h38]; rfl) (by decide) (lw_forget hW hB r K)
  by_cases h39 : v = 39
  · exact zL_tableIn (tgt := 2349) dL_law_40 (by omega) (by omega) (by rw [hz, h39]; rfl) (by decide) (lw_game hW hB r K)
  by_cases h40 : v = 40
  · exact zL_tableIn (tgt := 2429) dL_law_40 (by omega) (by omega) (by rw [hz, h40]; rfl) (by decide) (lw_years hW hB r K)
  by_cases h41 : v = 41
  · exact zL_tableIn (tgt := 2509) dL_law_40 (by omega) (by omega) (by rw [hz, h41]; rfl) (by decide) (lw_image hW hB r K)
  by_cases h42 : v = 42
  · exact zL_tableIn (tgt := 2520) dL_law_40 (by omega) (by omega) (by rw [hz, h42]; rfl) (by decide) (lw_restore hW hB r K)
  refine zL_tableOut (tgt := 2533) dL_law_40 (by omega) (by decide) ?_
  exact zL_widen (n' := nn + 8) (sl' := sl + 48) (by omega) (by omega) (K h ⟨t, n, jn, old, ac, rn, rel_B (by omega) r⟩)
theorem lw_loop (hs : zScr (lwC E b p e s m below meth c) b L xs) (hL : L ≤ 384) (hnc : va_Nc IAE NSE s) (hx : ∀ j, -2147483648 ≤ xs j ∧ xs j ≤ 2147483647) (hb : s.heap.size ≤ eb E) (h0 : n0 + 520 ≤ 600128) (h1 : s0 + 3120 ≤ 7301098) :
    ∀ (f k : Nat) (h : zH), L < 6 * (k + f) + 6 → k ≤ 64 → relB h (k : Int) → zVl (lwC E b p e s m below meth c) (n0 + 8 * k) (s0 + 48 * k) 23 (lvL E b (6 * (k : Int))) [] h := by
  intro f
  induction f with
  | zero =>
    intro k h hf hk R
    refine zL_iload dL_law_23 (v := 6 * (k : Int)) rfl ?_
    refine zL_aload_n dL_law_25 rfl rfl ?_
    refine zL_slen hs dL_law_26 ?_
    refine zL_bipush dL_law_27 (by decide) ?_
    refine zL_isub dL_law_29 ?_
    refine zS_icmp_gt (tgt := 2539) dL_law_30 (by decide) (by omega) (by omega) (fun _ => ?_) (fun z => absurd z (by omega))
    exact lw_out hb (by omega) (by omega)
  | succ f ih =>
    intro k h hf hk R
    refine zL_iload dL_law_23 (v := 6 * (k : Int)) rfl ?_
    refine zL_aload_n dL_law_25 rfl rfl ?_
    refine zL_slen hs dL_law_26 ?_
    refine zL_bipush dL_law_27 (by decide) ?_
    refine zL_isub dL_law_29 ?_
    refine zS_icmp_gt (tgt := 2539) dL_law_30 (by decide) (by omega) (by omega) (fun _ => ?_) (fun z => ?_)
    · exact lw_out hb (by omega) (by omega)
    · refine lw_step (B := (k : Int)) ⟨hs, hL, hnc, by omega, hx, by omega, by omega⟩ (by omega) R (fun h2 R2 => ?_)
      refine zL_iinc dL_law_2533 (v := 6 * (k : Int)) rfl (show 4 < 7 by decide) rfl ?_
      refine zL_goto (tgt := 23) dL_law_2536 (by decide) ?_
      have hh := ih (k + 1) h2 (by omega) (by omega) (by rw [show ((k + 1 : Nat) : Int) = (k : Int) + 1 by omega]; exact R2)
      rw [show (6 : Int) * ((k + 1 : Nat) : Int) = 6 * (k : Int) + 6 by omega, show n0 + 8 * (k + 1) = n0 + 8 * k + 8 by omega, show s0 + 48 * (k + 1) = s0 + 48 * k + 48 by omega] at hh
      exact hh
end ZVS
