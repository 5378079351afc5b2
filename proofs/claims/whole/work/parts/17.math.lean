/-! a contract of a method whose class has natives, but not this one -/
theorem zvx_ofWF {l : Launch} {y : MethodName} {ws ws' : List Cond} {rm : Room} {Pc : Array Value → State → Prop} {Qc : Array Value → State → Outcome → State → Prop} {XC : String → State → State → Prop} {mc ms : Nat} {free : Addr → Prop} {cc : ByteArray} {maxL : Nat} {ret : Option FieldType}
    (hy : plainFor y = true) (hw : ws = Cond.code y cc maxL ret :: ws')
    (body : ∀ p e s m args below meth c s₁, BodyLoose p l y (headSpec ws rm) cc maxL ret e s m args below meth c s₁ → c.maxLocals = maxL → (∀ x ∈ c.exceptionTable.toList, False) → Pc args s →
      W p l e (headSpec ws rm).room s m args below meth c s.heap [] 0 0 (vx_MQ below Qc XC args s mc ms free) (entryFrame m args maxL)) : vx_Met l y ws rm Pc Qc XC mc ms free := by
  refine MetFree.of_bodySF (code := cc) (maxLocals := maxL) (ret := ret) hy ?_ ?_
  · intro args s m h hn
    obtain ⟨meth, c, h1, h2, h3, h4, h5, h6, -, -⟩ := Cond.code_spec hn (atoms_spec (ws := ws) h _ (by rw [hw]; exact List.mem_cons_self))
    exact ⟨meth, c, h1, h2, h3, h4, h5, h6⟩
  · intro p e s m args below meth c s₁ B hml hP _
    have hh0 : s₁.heap = s.heap := by rw [B.state]; rfl
    have ht : ∀ x ∈ c.exceptionTable.toList, False := by
      obtain ⟨meth9, c9, h1, h2, -, -, -, -, h7, -⟩ := Cond.code_spec B.named (atoms_spec (ws := ws) B.pre _ (by rw [hw]; exact List.mem_cons_self))
      cases Option.some.inj (h1.symm.trans B.method)
      cases Option.some.inj (h2.symm.trans (Stand.of_body B).code)
      intro x hx
      rw [Array.isEmpty_iff.mp h7] at hx
      cases hx
    obtain ⟨t, a1, o, b1, b2, b3⟩ := body p e s m args below meth c s₁ B hml ht hP s₁ hh0 (Stand.of_body B)
    exact ⟨t, o, a1, b1, b2, b3⟩
theorem zCal_ofF {E : zE} {M : zM} {d k : Nat} {av : List Value} {h : zH} {Q : Option Value → zH → Prop} {X : String → zH → Prop} (hy : plainFor M.1 = true) (hlen : (lg_sl av).length ≤ M.2.2.1)
    (body : ∀ a : zAct, zV (E, M, d, k, Q, X, a) 0 0 (zla av ++ List.replicate (M.2.2.1 - (zla av).length) .null) [] h) : zCal E M d k av h Q X := by
  refine zvx_ofWF (cc := M.2.1) (maxL := M.2.2.1) (ret := M.2.2.2) hy rfl ?_
  intro p e s m args below meth c s₁ B hml hnx hv
  obtain ⟨rfl, hP, hst⟩ := hv
  have hts := atoms_spec (ws := zwM M) B.pre
  have hown : s.vm.findClass M.1.cls = some m.cls := findClass_of_methodNamed B.named
  have hl := lv_entry av (n := M.2.2.1) hlen
  rw [lg_entry_eq]
  exact body (p, e, s, m, av.toArray, below, meth, c) ⟨B.exec, B.bytes, B.returns, hml, hown, fun w hw => hts w (List.mem_cons_of_mem _ hw), B.notSynchronized, hst, hnx⟩ s.heap [] _ hP va_S.rf
    ⟨hl.1, hl.2.1, fun q hq => hl.2.2 q (zla_sub _ av 0 q hq)⟩
/-! ARITHMETIC of the machine's ints as numbers; the JDK's own small methods -/
theorem zof {x : Int} (h1 : -2147483648 ≤ x) (h2 : x ≤ 2147483647) : (Int32.ofInt x).toInt = x := zn_of h1 h2
theorem zdiv_eq {x y : Int} (hx : -2147483648 ≤ x ∧ x ≤ 2147483647) (hy : 0 < y ∧ y ≤ 2147483647) : zdiv x y = x.tdiv y := by
  unfold zdiv
  rw [Int32.toInt_div, zof hx.1 hx.2, zof (by omega) (by omega)]
  have h1 : (x.tdiv y).natAbs ≤ x.natAbs := by rw [Int.natAbs_tdiv]; exact Nat.div_le_self _ _
  have h2 : -2147483647 ≤ x.tdiv y ∨ y = 1 := by
    by_cases h : y = 1
    · exact Or.inr h
    · left
      have h3 : (x.tdiv y).natAbs ≤ 1073741824 := by
        rw [Int.natAbs_tdiv]
        have : x.natAbs ≤ 2147483648 := by omega
        have h5 : 2 ≤ y.natAbs := by omega
        calc x.natAbs / y.natAbs ≤ x.natAbs / 2 := Nat.div_le_div_left h5 (by omega)
          _ ≤ 1073741824 := by omega
      omega
  have h4 : x.tdiv y ≤ 2147483647 := by
    rcases Int.lt_or_le x 0 with h | h
    · have := Int.tdiv_nonneg (a := -x) (b := y) (by omega) (by omega)
      rw [Int.neg_tdiv] at this
      omega
    · omega
  rcases h2 with h2 | rfl
  · exact Int.bmod_eq_of_le (by omega) (by omega)
  · rw [Int.tdiv_one]
    exact Int.bmod_eq_of_le (by omega) (by omega)
theorem zrem_eq {x y : Int} (hx : -2147483648 ≤ x ∧ x ≤ 2147483647) (hy : 0 < y ∧ y ≤ 2147483647) : zrem x y = x.tmod y := by
  have e : Int32.ofInt x - Int32.ofInt x / Int32.ofInt y * Int32.ofInt y = Int32.ofInt (x - x.tdiv y * y) := by
    have h1 : Int32.ofInt x / Int32.ofInt y = Int32.ofInt (x.tdiv y) := by
      apply Int32.toInt_inj.mp
      have := zdiv_eq hx hy
      unfold zdiv at this
      rw [this]
      have h1 : (x.tdiv y).natAbs ≤ x.natAbs := by rw [Int.natAbs_tdiv]; exact Nat.div_le_self _ _
      by_cases hm : x = -2147483648 ∧ y = 1
      · obtain ⟨rfl, rfl⟩ := hm; rfl
      · rw [zof]
        · omega
        · have h3 : x.tdiv y ≤ 2147483647 := by
            rcases Int.lt_or_le x 0 with h | h
            · have : x.tdiv y ≤ 0 := by
                have := Int.tdiv_nonneg (a := -x) (b := y) (by omega) (by omega)
                rw [Int.neg_tdiv] at this
                omega
              omega
            · omega
          exact h3
    rw [h1, ← Int32.ofInt_mul, ← Int32.ofInt_sub]
  unfold zrem
  rw [e, show x - x.tdiv y * y = x.tmod y by have := Int.tmod_def x y; rw [Int.mul_comm] at this; omega]
  have h2 := Int.tmod_lt_of_pos x hy.1
  have h3 : -y < x.tmod y := by
    have := Int.tmod_lt_of_pos (-x) hy.1
    rw [Int.neg_tmod] at this
    omega
  exact zof (by omega) (by omega)
section ZJ
variable {E : zE} {h : zH} {x y : Int}
set_option maxRecDepth 100000 in
theorem cJ_max (d k : Nat) (hx : -2147483648 ≤ x ∧ x ≤ 2147483647) (hy : -2147483648 ≤ y ∧ y ≤ 2147483647) : zCal E mJ9_max_7cf53 d k [ziv x, ziv y] h (fun r h' => r = some (ziv (max x y)) ∧ h' = h) (fun _ _ => False) := by
  refine zCal_ofF (by decide +kernel) (Nat.le_of_ble_eq_true rfl) (fun a => ?_)
  show zV _ 0 0 [ziv x, ziv y] [] _
  refine zV_iload_n dJ9_max_7cf53_0 rfl rfl ?_
  refine zV_iload_n dJ9_max_7cf53_1 rfl rfl ?_
  refine zR_icmp_lt (tgt := 9) dJ9_max_7cf53_2 (by decide) hx hy (fun h2 => ?_) (fun h2 => ?_)
  · refine zV_iload_n dJ9_max_7cf53_9 rfl rfl ?_
    exact zV_ireturn dJ9_max_7cf53_10 rfl (Nat.zero_le _) ⟨by rw [Int.max_eq_right (by omega)], rfl⟩
  · refine zV_iload_n dJ9_max_7cf53_5 rfl rfl ?_
    refine zV_goto (tgt := 10) dJ9_max_7cf53_6 (by decide) ?_
    exact zV_ireturn dJ9_max_7cf53_10 rfl (Nat.zero_le _) ⟨by rw [Int.max_eq_left (by omega)], rfl⟩
set_option maxRecDepth 100000 in
theorem cJ_min (d k : Nat) (hx : -2147483648 ≤ x ∧ x ≤ 2147483647) (hy : -2147483648 ≤ y ∧ y ≤ 2147483647) : zCal E mJ9_min_7cf53 d k [ziv x, ziv y] h (fun r h' => r = some (ziv (min x y)) ∧ h' = h) (fun _ _ => False) := by
  refine zCal_ofF (by decide +kernel) (Nat.le_of_ble_eq_true rfl) (fun a => ?_)
  show zV _ 0 0 [ziv x, ziv y] [] _
  refine zV_iload_n dJ9_min_7cf53_0 rfl rfl ?_
  refine zV_iload_n dJ9_min_7cf53_1 rfl rfl ?_
  refine zR_icmp_gt (tgt := 9) dJ9_min_7cf53_2 (by decide) hx hy (fun h2 => ?_) (fun h2 => ?_)
  · refine zV_iload_n dJ9_min_7cf53_9 rfl rfl ?_
    exact zV_ireturn dJ9_min_7cf53_10 rfl (Nat.zero_le _) ⟨by rw [Int.min_eq_right (by omega)], rfl⟩
  · refine zV_iload_n dJ9_min_7cf53_5 rfl rfl ?_
    refine zV_goto (tgt := 10) dJ9_min_7cf53_6 (by decide) ?_
    exact zV_ireturn dJ9_min_7cf53_10 rfl (Nat.zero_le _) ⟨by rw [Int.min_eq_left (by omega)], rfl⟩
set_option maxRecDepth 100000 in
theorem cJ_abs (d k : Nat) (hx : -2147483647 ≤ x ∧ x ≤ 2147483647) : zCal E mJ9_abs_0f7a4 d k [ziv x] h (fun r h' => r = some (ziv (if 0 ≤ x then x else -x)) ∧ h' = h) (fun _ _ => False) := by
  refine zCal_ofF (by decide +kernel) (Nat.le_of_ble_eq_true rfl) (fun a => ?_)
  show zV _ 0 0 [ziv x] [] _
  refine zV_iload_n dJ9_abs_0f7a4_0 rfl rfl ?_
  refine zR_if_ge (tgt := 9) dJ9_abs_0f7a4_1 (by decide) (by omega) (fun h2 => ?_) (fun h2 => ?_)
  · refine zV_iload_n dJ9_abs_0f7a4_9 rfl rfl ?_
    exact zV_ireturn dJ9_abs_0f7a4_10 rfl (Nat.zero_le _) ⟨by rw [if_pos h2], rfl⟩
  · refine zV_iload_n dJ9_abs_0f7a4_4 rfl rfl ?_
    refine zV_ineg dJ9_abs_0f7a4_5 ?_
    refine zV_goto (tgt := 10) dJ9_abs_0f7a4_6 (by decide) ?_
    exact zV_ireturn dJ9_abs_0f7a4_10 rfl (Nat.zero_le _) ⟨by rw [if_neg h2], rfl⟩
theorem zxor_neg {r y : Int} (hr : -2147483648 ≤ r ∧ r ≤ 2147483647) (hy : 0 < y ∧ y ≤ 2147483647) : 0 ≤ zn (zxor r y) ↔ 0 ≤ r := by
  have e : zn (zxor r y) = zxor r y := by unfold zn zxor; rw [Int32.ofInt_toInt]
  rw [e]
  unfold zxor
  have h1 : ∀ z : Int32, 0 ≤ z.toInt ↔ z.toBitVec.msb = false := fun z => by
    have : z.toInt = z.toBitVec.toInt := rfl
    rw [this]
    have := BitVec.msb_eq_toInt (x := z.toBitVec)
    rw [this]
    simp
  rw [h1, Int32.toBitVec_xor, BitVec.msb_xor]
  have h2 : (Int32.ofInt y).toBitVec.msb = false := (h1 _).mp (by rw [zof (by omega) (by omega)]; omega)
  rw [h2, Bool.xor_false, ← h1, zof hr.1 hr.2]
set_option maxRecDepth 100000 in
theorem cJ_floorMod (d k : Nat) (hx : -2147483648 ≤ x ∧ x ≤ 2147483647) (hy : 0 < y ∧ y ≤ 2147483647) : zCal E mJ9_floorMod_7cf53 d k [ziv x, ziv y] h (fun r h' => r = some (ziv (x % y)) ∧ h' = h) (fun _ _ => False) := by
  have h2 := Int.tmod_lt_of_pos x hy.1
  have h3 : -y < x.tmod y := by
    have := Int.tmod_lt_of_pos (-x) hy.1
    rw [Int.neg_tmod] at this
    omega
  have hem : x % y = if 0 ≤ x.tmod y then x.tmod y else x.tmod y + y := by
    have h5 := Int.tmod_eq_emod (a := x) (b := y)
    have h6 := Int.emod_nonneg x (show y ≠ 0 by omega)
    have h7 := Int.emod_lt_of_pos x hy.1
    split at h5 <;> split <;> omega
  refine zCal_ofF (by decide +kernel) (Nat.le_of_ble_eq_true rfl) (fun a => ?_)
  show zV _ 0 0 [ziv x, ziv y, .null] [] _
  refine zV_iload_n dJ9_floorMod_7cf53_0 rfl rfl ?_
  refine zV_iload_n dJ9_floorMod_7cf53_1 rfl rfl ?_
  refine zV_irem dJ9_floorMod_7cf53_2 (by rw [zn_of (by omega) (by omega)]; omega) ?_
  rw [zrem_eq hx hy]
  refine zV_istore_n dJ9_floorMod_7cf53_3 rfl (Nat.le_of_ble_eq_true rfl) rfl ?_
  refine zV_iload_n dJ9_floorMod_7cf53_4 rfl rfl ?_
  refine zV_iload_n dJ9_floorMod_7cf53_5 rfl rfl ?_
  refine zV_ixor dJ9_floorMod_7cf53_6 ?_
  refine zV_if_ge (tgt := 18) dJ9_floorMod_7cf53_7 (by decide) (fun h7 => ?_) (fun h7 => ?_)
  · have h7 := (zxor_neg (r := x) hx hy).mp h7
    refine zV_iload_n dJ9_floorMod_7cf53_18 rfl rfl ?_
    exact zV_ireturn dJ9_floorMod_7cf53_19 rfl (Nat.zero_le _) ⟨by rw [Int.tmod_eq_emod_of_nonneg h7], rfl⟩
  · have h7 : ¬ 0 ≤ x := fun z => h7 ((zxor_neg (r := x) hx hy).mpr z)
    have h8 : x.tmod y ≤ 0 := by
      have := Int.tmod_nonneg (a := -x) y (by omega)
      rw [Int.neg_tmod] at this
      omega
    refine zV_iload_n dJ9_floorMod_7cf53_10 rfl rfl ?_
    refine zR_if_eq (tgt := 18) dJ9_floorMod_7cf53_11 (by decide) (by omega) (fun h11 => ?_) (fun h11 => ?_)
    · refine zV_iload_n dJ9_floorMod_7cf53_18 rfl rfl ?_
      exact zV_ireturn dJ9_floorMod_7cf53_19 rfl (Nat.zero_le _) ⟨by rw [hem, if_pos (by omega)], rfl⟩
    · refine zV_iload_n dJ9_floorMod_7cf53_14 rfl rfl ?_
      refine zV_iload_n dJ9_floorMod_7cf53_15 rfl rfl ?_
      refine zV_iadd dJ9_floorMod_7cf53_16 ?_
      exact zV_ireturn dJ9_floorMod_7cf53_17 rfl (Nat.zero_le _) ⟨by rw [hem, if_neg (by omega)], rfl⟩
end ZJ
