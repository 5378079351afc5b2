/-! MORE ROWS: System.arraycopy; natural indices -/
theorem zws_set' {E : zE} {h h' : zH} {k : Nat} {kd : Nat ⊕ (Nat × Nat)} (hk : zsh[k]? = some kd) (ho : ∀ c, c ≠ k → h' c = h c) {q : va_E} (hq : q = zce E h' k kd) : (zws E h).set k (ead E k, q) = zws E h' := by
  apply List.ext_getElem?
  intro j
  rw [List.getElem?_set]
  by_cases hj : k = j
  · subst hj
    have hlt : k < (zws E h).length := by
      have := zws_at (E := E) (h := h) hk
      exact (List.getElem?_eq_some_iff.mp this).1
    rw [if_pos rfl, if_pos hlt, zws_at hk, hq]
  · rw [if_neg hj]
    cases hz : zsh[j]? with
    | none => rw [zws_none hz, zws_none hz]
    | some kd' =>
      rw [zws_at hz, zws_at hz, zce_congr (h := h) (h' := h') (fun i' => by rw [ho j (Ne.symm hj)])]
/-- n places of the cell k0 from sp on copied into k1 from dp on -/
def zcp (h : zH) (k0 sp k1 dp n : Nat) : zH := fun c i => if c = k1 ∧ dp ≤ i ∧ i < dp + n then h k0 (sp + (i - dp)) else h c i
section ZM
variable {C : zC} {n pc : Nat} {lv st : List Value} {h : zH}
theorem zV_copy {idx k0 k1 N0 N1 : Nat} {sp dp len : Int} (hl : Cond.methodLink (cown C) idx arraycopyName ∈ zTs) (hk0 : zsh[k0]? = some (.inr (0, N0))) (hk1 : zsh[k1]? = some (.inr (0, N1))) (hb : N0 ≤ 2147483647 ∧ N1 ≤ 2147483647) (h1 : 0 ≤ sp ∧ 0 ≤ dp ∧ 0 ≤ len ∧ sp + len ≤ N0 ∧ dp + len ≤ N1)
    (hd0 : 1 ≤ cd C) (hst : st = []) (hd : decode (ccc C) pc = .ok (.invokestatic idx, 3)) (kk : zV C n (pc + 3) lv st (zcp h k0 sp.toNat k1 dp.toNat len.toNat)) : zV C n pc lv (ziv len :: ziv dp :: zrv (cE C) k1 :: ziv sp :: zrv (cE C) k0 :: st) h := fun ok H locs ls hP hS hl0 => by
  have e1 : (Int32.ofInt sp).toInt = sp := zn_of (by omega) (by omega)
  have e2 : (Int32.ofInt dp).toInt = dp := zn_of (by omega) (by omega)
  have e3 : (Int32.ofInt len).toInt = len := zn_of (by omega) (by omega)
  have f1 : (Int32.ofInt sp).toNatClampNeg = sp.toNat := by show (Int32.ofInt sp).toInt.toNat = _; rw [e1]
  have f2 : (Int32.ofInt dp).toNatClampNeg = dp.toNat := by show (Int32.ofInt dp).toInt.toNat = _; rw [e2]
  have f3 : (Int32.ofInt len).toNatClampNeg = len.toNat := by show (Int32.ofInt len).toInt.toNat = _; rw [e3]
  have g1 : ∀ x : Int, (Int32.ofInt x).toInt = x → 0 ≤ x → ¬ Int32.ofInt x < 0 := fun x hx h0 hlt => by
    have := Int32.lt_iff_toInt_lt.mp hlt
    rw [hx] at this
    have h00 : (0 : Int32).toInt = 0 := rfl
    rw [h00] at this
    omega
  refine va_copyi (D := eD (cE C)) ok.1 ok.2.1 (by rw [ok.2.2.2.1]; exact hl0.1.symm) ok.2.2.2.2.1 (ok.2.2.2.2.2.1 _ hl) (ok.2.2.2.2.2.1 _ (zTs_of (by decide +kernel) rfl)) (ok.2.2.2.2.2.1 _ (zTs_of (by decide +kernel) rfl)) (ok.2.2.2.2.2.1 _ (zTs_of (by decide +kernel) rfl))
    ok.2.2.2.2.2.2.2.1.1 hP (zD_of ok.2.2.2.2.2.2.2.1 h) hS k0 k1 0 0 (zws_at hk0) (zws_at hk1) rfl rfl rfl (g1 sp e1 h1.1) (g1 dp e2 h1.2.1) (g1 len e3 h1.2.2.1) (by rw [f1, f3]; omega) (by rw [f2, f3]; omega) (fun i _ => rfl)
    hd0 (by subst hst; show 0 + (nativeFrameWords "java/lang/System" "arraycopy" 5 + 11) ≤ 64 * cd C; have : nativeFrameWords "java/lang/System" "arraycopy" 5 + 11 ≤ 64 := (by decide +kernel); omega) hd (fun H1 locs1 hP1 hD1 hS1 => ?_)
  rw [f1, f2, f3] at hP1
  have hq : ∀ j, va_cpy (fun j => Int32.ofInt (h k0 j)) (fun j => Int32.ofInt (h k1 j)) sp.toNat dp.toNat len.toNat j = Int32.ofInt (zcp h k0 sp.toNat k1 dp.toNat len.toNat k1 j) := by
    intro j
    unfold va_cpy zcp
    by_cases hj : dp.toNat ≤ j ∧ j < dp.toNat + len.toNat
    · rw [if_pos hj, if_pos ⟨rfl, hj⟩]
    · rw [if_neg hj, if_neg (fun z => hj z.2)]
  rw [zws_set' (h' := zcp h k0 sp.toNat k1 dp.toNat len.toNat) hk1 (fun c hc => by funext i; unfold zcp; rw [if_neg (fun z => hc z.1)]) (by rw [funext hq]; rfl)] at hP1
  exact kk ok H1 locs1 ls hP1 hS1 hl0
theorem zV_ialoadN {k N : Nat} {i : Nat} (hk : zsh[k]? = some (.inr (0, N))) (hi : i < N) (hb : N ≤ 2147483647) (hd : decode (ccc C) pc = .ok (.iaload, 1)) (kk : zV C n (pc + 1) lv (ziv (h k i) :: st) h) : zV C n pc lv (ziv (i : Int) :: zrv (cE C) k :: st) h :=
  zV_iaload hk (by omega) hb hd (by rw [Int.toNat_natCast]; exact kk)
theorem zV_zaloadN {k N : Nat} {i : Nat} (hk : zsh[k]? = some (.inr (1, N))) (hi : i < N) (hb : N ≤ 2147483647) (hd : decode (ccc C) pc = .ok (.baload, 1)) (kk : zV C n (pc + 1) lv (ziv (h k i) :: st) h) : zV C n pc lv (ziv (i : Int) :: zrv (cE C) k :: st) h :=
  zV_zaload hk (by omega) hb hd (by rw [Int.toNat_natCast]; exact kk)
theorem zV_iastoreN {k N : Nat} {i : Nat} {v : Int} (hk : zsh[k]? = some (.inr (0, N))) (hi : i < N) (hb : N ≤ 2147483647) (hd : decode (ccc C) pc = .ok (.iastore, 1)) (kk : zV C n (pc + 1) lv st (zup h k i v)) : zV C n pc lv (ziv v :: ziv (i : Int) :: zrv (cE C) k :: st) h :=
  zV_iastore hk (by omega) hb hd (by rw [Int.toNat_natCast]; exact kk)
theorem zV_zastoreN {k N : Nat} {i : Nat} {v : Int} (hk : zsh[k]? = some (.inr (1, N))) (hi : i < N) (hb : N ≤ 2147483647) (hv : v = 0 ∨ v = 1) (hd : decode (ccc C) pc = .ok (.bastore, 1)) (kk : zV C n (pc + 1) lv st (zup h k i v)) : zV C n pc lv (ziv v :: ziv (i : Int) :: zrv (cE C) k :: st) h :=
  zV_zastore hk (by omega) hb hv hd (by rw [Int.toNat_natCast]; exact kk)
/-- another state that is the same -/
theorem zV_heq {h' : zH} (e : h' = h) (k : zV C n pc lv st h') : zV C n pc lv st h := e ▸ k
theorem zV_teq {v w : Value} (e : w = v) (k : zV C n pc lv (w :: st) h) : zV C n pc lv (v :: st) h := e ▸ k
end ZM
