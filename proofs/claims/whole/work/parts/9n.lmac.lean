/-! THE LAW'S OWN BODY: turns that come again and again -/
abbrev mLaw : zM := (yL_law, code, 7, ret)
abbrev lwC (E : zE) (b : Nat) (p : Program) (e : Env) (s : State) (m : MethodId) (below : List Frame) (meth : Method) (c : Code) : zC := (E, mLaw, 0, 0, (fun _ _ => True), (fun _ _ => True), (p, e, s, m, #[Value.ref b], below, meth, c))
section ZVP
variable {C : zC} {n sl pc : Nat} {lv st : List Value} {h : zH}
theorem zL_null {i : Nat} (k : zVl C n sl pc (lv.set i .null) st h) : zVl C n sl pc lv st h := fun ok H locs ls hP hS hl =>
  k ok H locs ls hP hS ⟨hl.1, hl.2.1, fun q hq => hl.2.2 q (by
    obtain ⟨j, w⟩ := q
    obtain ⟨t, ht, h2, h3⟩ := zlp_mem.mp hq
    refine zlp_mem.mpr ⟨t, ht, ?_, h3⟩
    rw [List.getElem?_set] at h2
    split at h2
    · split at h2
      · cases h2; exact absurd rfl h3
      · cases h2
    · exact h2)⟩
theorem zL_lcmp0 {v : Int} (hd : decode (ccc C) pc = .ok (.lcmp, 1)) (k : zVl C n sl (pc + 1) lv (ziv 0 :: st) h) : zVl C n sl pc lv (zlv v :: zlv v :: st) h := fun ok H locs ls hP hS hl =>
  W.lcmp ok.1 ok.2.1 hd (by
    have e1 : lg_cmp (Int64.ofInt v) (Int64.ofInt v) = 0 := by simp [lg_cmp]
    rw [e1]
    exact k ok H locs ls hP hS hl)
/-- script[i + j] -/
theorem zL_arg {b L : Nat} {xs : Nat → Int} {i j : Int} (hs : zScr C b L xs) (hL : L ≤ 384) (hb : lv[0]? = some (.ref b)) (hi : lv[4]? = some (ziv i)) (hij : 0 ≤ i + j ∧ i + j < L) (d0 : decode (ccc C) pc = .ok (.aload_n 0, 1)) (d1 : decode (ccc C) (pc + 1) = .ok (.iload 4, 2)) (d3 : decode (ccc C) (pc + 3) = .ok (.iconst j, 1)) (d4 : decode (ccc C) (pc + 4) = .ok (.iadd, 1)) (d5 : decode (ccc C) (pc + 5) = .ok (.iaload, 1))
    (kk : zVl C n sl (pc + 6) lv (ziv (xs (i + j).toNat) :: st) h) : zVl C n sl pc lv st h := by
  refine zL_aload_n d0 rfl hb ?_
  refine zL_iload d1 hi ?_
  refine zL_iconst d3 ?_
  refine zL_iadd d4 ?_
  exact zL_sload hs hij hL d5 kk
end ZVP
/-- the locals at the head of the loop -/
abbrev lvL (E : zE) (b : Nat) (i : Int) : List Value := [.ref b, zrv E 0, zrv E 64, zrv E 103, ziv i, .null, .null]
def lwI (C : zC) (b L : Nat) (xs : Nat → Int) (i : Int) (nn sl : Nat) : Prop := zScr C b L xs ∧ L ≤ 384 ∧ va_Nc IAE NSE (as' C) ∧ (0 ≤ i ∧ i + 6 ≤ L) ∧ (∀ j, -2147483648 ≤ xs j ∧ xs j ≤ 2147483647) ∧ nn + 8 ≤ 600128 ∧ sl + 48 ≤ 7301098
def lwK (C : zC) (b : Nat) (i : Int) (nn sl : Nat) (B : Int) : Prop := ∀ h2 : zH, relB h2 (B + 1) → zVl C (nn + 8) (sl + 48) 2533 (lvL (cE C) b i) [] h2
section ZVQ
variable {E : zE} {b : Nat} {p : Program} {e : Env} {s : State} {m : MethodId} {below : List Frame} {meth : Method} {c : Code}
variable {nn sl pc : Nat} {h h2 : zH} {i B k : Int} {r2 : Option Value}
theorem zn_i (w : Int) : -2147483648 ≤ zn w ∧ zn w ≤ 2147483647 := ⟨zn_lo w, zn_hi w⟩
/-- behind the reference's call -/
theorem zL_tail {off : Int} (q : stp B k r2 h2) (hk : 0 ≤ k ∧ k ≤ 2) (hn : nn + 8 ≤ 600128 ∧ sl + 48 ≤ 7301098) (d0 : decode code pc = .ok (.istore 6, 2)) (d2 : decode code (pc + 2) = .ok (.aload_n 2, 1)) (d3 : decode code (pc + 3) = .ok (.invokevirtual 131, 3)) (d6 : decode code (pc + 6) = .ok (.iload 5, 2)) (d8 : decode code (pc + 8) = .ok (.if_icmp .eq 5, 3)) (d13 : decode code (pc + 13) = .ok (.iload 5, 2)) (d15 : decode code (pc + 15) = .ok (.ifCond .ne 15, 3))
    (d18 : decode code (pc + 18) = .ok (.aload_n 3, 1)) (d19 : decode code (pc + 19) = .ok (.iconst 0, 1)) (d20 : decode code (pc + 20) = .ok (.laload, 1)) (d21 : decode code (pc + 21) = .ok (.iload 6, 2)) (d23 : decode code (pc + 23) = .ok (.i2l, 1)) (d24 : decode code (pc + 24) = .ok (.lcmp, 1)) (d25 : decode code (pc + 25) = .ok (.ifCond .eq 5, 3)) (d30 : decode code (pc + 30) = .ok (.goto off, 3)) (ho : ((pc + 30 : Nat) : Int) + off = ((2533 : Nat) : Int))
    (K : lwK (lwC E b p e s m below meth c) b i nn sl B) : zVl (lwC E b p e s m below meth c) (nn + 4 + 4) (sl + 6 * 4 + 6 * 4) pc ((lvL E b i).set 5 (ziv k)) (r2.toList ++ []) h2 := by
  obtain ⟨w, rfl, e4, e0, R⟩ := q
  have KK : zVl (lwC E b p e s m below meth c) (nn + 8) (sl + 48) (pc + 30) (((lvL E b i).set 5 (ziv k)).set 6 (ziv w)) [] h2 := by
    refine zL_goto d30 ho ?_
    refine zL_null (i := 5) (zL_null (i := 6) ?_)
    exact K h2 R
  show zVl (lwC E b p e s m below meth c) (nn + 8) (sl + 48) pc ((lvL E b i).set 5 (ziv k)) [ziv w] h2
  refine zL_istore d0 (show 6 < 7 by decide) rfl ?_
  refine zL_aload_nr d2 rfl rfl ?_
  refine zL_callV (As := []) (k := 64) (st := []) lkL_131 rfl rfl rfl (c6_thrown 12 0) ⟨by decide, hn.1, hn.2⟩ rfl (by decide) d3 (fun r3 h3 q3 => ?_)
  obtain ⟨rfl, rfl⟩ := q3
  rw [e4]
  show zVl (lwC E b p e s m below meth c) (nn + 8) (sl + 48) (pc + 6) (((lvL E b i).set 5 (ziv k)).set 6 (ziv w)) [ziv k] h3
  refine zL_iload d6 (v := k) rfl ?_
  refine zS_icmp_eq (tgt := pc + 13) d8 (by omega) (by omega) (by omega) (fun _ => ?_) (fun z => absurd rfl z)
  refine zL_iload d13 (v := k) rfl ?_
  refine zS_if_ne (tgt := pc + 30) d15 (by omega) (by omega) (fun _ => KK) (fun z => ?_)
  refine zL_aload_nr d18 rfl rfl ?_
  refine zL_iconst d19 ?_
  refine zL_laload (N := 1) rfl (by decide) (by decide) d20 ?_
  refine zL_iload d21 (v := w) rfl ?_
  refine zL_teq (ziv_zn w) ?_
  refine zL_i2l d23 (zn_i w) ?_
  rw [show h3 103 (0 : Int).toNat = zn w from e0 z]
  refine zL_lcmp0 d24 ?_
  exact zS_if_eq (tgt := pc + 30) d25 (by omega) (by decide) (fun _ => KK) (fun z2 => absurd rfl z2)
/-- the same behind 'change' -/
theorem zL_tailZ {off : Int} (q : stp B k r2 h2 ∧ (r2 = some (ziv 0) ∨ r2 = some (ziv 1))) (hk : 0 ≤ k ∧ k ≤ 2) (hn : nn + 8 ≤ 600128 ∧ sl + 48 ≤ 7301098) (d0 : decode code pc = .ok (.istore 6, 2)) (d2 : decode code (pc + 2) = .ok (.aload_n 2, 1)) (d3 : decode code (pc + 3) = .ok (.invokevirtual 131, 3)) (d6 : decode code (pc + 6) = .ok (.iload 5, 2)) (d8 : decode code (pc + 8) = .ok (.if_icmp .eq 5, 3)) (d13 : decode code (pc + 13) = .ok (.iload 5, 2)) (d15 : decode code (pc + 15) = .ok (.ifCond .ne 22, 3))
    (d18 : decode code (pc + 18) = .ok (.aload_n 3, 1)) (d19 : decode code (pc + 19) = .ok (.iconst 0, 1)) (d20 : decode code (pc + 20) = .ok (.laload, 1)) (d21 : decode code (pc + 21) = .ok (.iload 6, 2)) (d23 : decode code (pc + 23) = .ok (.ifCond .eq 7, 3)) (d26 : decode code (pc + 26) = .ok (.lconst 1, 1)) (d27 : decode code (pc + 27) = .ok (.goto 4, 3)) (d30 : decode code (pc + 30) = .ok (.lconst 0, 1)) (d31 : decode code (pc + 31) = .ok (.lcmp, 1)) (d32 : decode code (pc + 32) = .ok (.ifCond .eq 5, 3)) (d37 : decode code (pc + 37) = .ok (.goto off, 3)) (ho : ((pc + 37 : Nat) : Int) + off = ((2533 : Nat) : Int))
    (K : lwK (lwC E b p e s m below meth c) b i nn sl B) : zVl (lwC E b p e s m below meth c) (nn + 4 + 4) (sl + 6 * 4 + 6 * 4) pc ((lvL E b i).set 5 (ziv k)) (r2.toList ++ []) h2 := by
  obtain ⟨⟨w, rfl, e4, e0, R⟩, hw⟩ := q
  have hw2 : zn w = 0 ∨ zn w = 1 := by
    rcases hw with e | e
    · left; rw [ziv_inj e]; decide
    · right; rw [ziv_inj e]; decide
  have KK : zVl (lwC E b p e s m below meth c) (nn + 8) (sl + 48) (pc + 37) (((lvL E b i).set 5 (ziv k)).set 6 (ziv w)) [] h2 := by
    refine zL_goto d37 ho ?_
    refine zL_null (i := 5) (zL_null (i := 6) ?_)
    exact K h2 R
  show zVl (lwC E b p e s m below meth c) (nn + 8) (sl + 48) pc ((lvL E b i).set 5 (ziv k)) [ziv w] h2
  refine zL_istore d0 (show 6 < 7 by decide) rfl ?_
  refine zL_aload_nr d2 rfl rfl ?_
  refine zL_callV (As := []) (k := 64) (st := []) lkL_131 rfl rfl rfl (c6_thrown 12 0) ⟨by decide, hn.1, hn.2⟩ rfl (by decide) d3 (fun r3 h3 q3 => ?_)
  obtain ⟨rfl, rfl⟩ := q3
  rw [e4]
  show zVl (lwC E b p e s m below meth c) (nn + 8) (sl + 48) (pc + 6) (((lvL E b i).set 5 (ziv k)).set 6 (ziv w)) [ziv k] h3
  refine zL_iload d6 (v := k) rfl ?_
  refine zS_icmp_eq (tgt := pc + 13) d8 (by omega) (by omega) (by omega) (fun _ => ?_) (fun z => absurd rfl z)
  refine zL_iload d13 (v := k) rfl ?_
  refine zS_if_ne (tgt := pc + 37) d15 (by omega) (by omega) (fun _ => KK) (fun z => ?_)
  refine zL_aload_nr d18 rfl rfl ?_
  refine zL_iconst d19 ?_
  refine zL_laload (N := 1) rfl (by decide) (by decide) d20 ?_
  rw [show h3 103 (0 : Int).toNat = zn w from e0 z]
  refine zL_iload d21 (v := w) rfl ?_
  have fin : ∀ v : Int, zn w = v → zVl (lwC E b p e s m below meth c) (nn + 8) (sl + 48) (pc + 31) (((lvL E b i).set 5 (ziv k)).set 6 (ziv w)) [zlv v, zlv (zn w)] h3 := by
    intro v hv
    rw [hv]
    refine zL_lcmp0 d31 ?_
    exact zS_if_eq (tgt := pc + 37) d32 (by omega) (by decide) (fun _ => KK) (fun z2 => absurd rfl z2)
  refine zL_if_eq (tgt := pc + 30) d23 (by omega) (fun z2 => ?_) (fun z2 => ?_)
  · refine zL_lconst d30 ?_
    exact fin 0 z2
  · refine zL_lconst d26 ?_
    refine zL_goto (tgt := pc + 31) d27 (by omega) ?_
    exact fin 1 (hw2.resolve_left z2)
end ZVQ
