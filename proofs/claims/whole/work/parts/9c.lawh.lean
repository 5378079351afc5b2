/-! A BODY WITH A TABLE: the judgement -/
def zOKh (C : zC) (hh : List (Nat × Nat × Nat × Nat)) : Prop :=
  (ap C).tables.exec = Jvm.exec ∧ (aco C).code = ccc C ∧ (ame C).sig.returnType = (cM C).2.2.2 ∧ (aco C).maxLocals = (cM C).2.2.1 ∧
  (as' C).vm.findClass (cown C) = some (am C).cls ∧ (∀ w ∈ zTs, w.before (aar C) (as' C) = true) ∧ (ame C).locks = false ∧ zSt (cE C) (as' C) (as' C).heap ∧ (aco C).exceptionTable.toList = tableOf hh ∧ va_Nc IAE NSE (as' C)
def zVh (C : zC) (hh : List (Nat × Nat × Nat × Nat)) (n pc : Nat) (lv st : List Value) (h : zH) : Prop :=
  zOKh C hh → ∀ (H : Heap) (locs : List Loc) (ls : Array Slot), va_P (eD (cE C)) vwCl (zws (cE C) h) H → va_S (zA (cE C)) (as' C).heap H locs → zl ls (cM C).2.2.1 lv →
    W (ap C) (el (cE C)) (ae C) (zRm (cd C) (ck C)) (as' C) (am C) (aar C) (abl C) (ame C) (aco C) H locs n (6 * n)
      (vx_MQ (abl C) (zQc (cE C) (cQ C)) (zXC (cE C) (cX C)) (aar C) (as' C) (ck C) (6 * ck C) (zA (cE C))) (F0 (am C) pc ls st)
section ZVH
variable {C : zC} {hh : List (Nat × Nat × Nat × Nat)} {n pc : Nat} {lv st : List Value} {h : zH}
theorem zH_iconst {v : Int} (hd : decode (ccc C) pc = .ok (.iconst v, 1)) (k : zVh C hh n (pc + 1) lv (ziv v :: st) h) : zVh C hh n pc lv st h := fun ok H locs ls hP hS hl =>
  lv_iconst ok.1 ok.2.1 hd rfl (k ok H locs ls hP hS hl)
theorem zH_iload_n {k : Fin 4} {i : Nat} {v : Int} (hd : decode (ccc C) pc = .ok (.iload_n k, 1)) (hi : (k : Nat) = i) (hv : lv[i]? = some (ziv v)) (kk : zVh C hh n (pc + 1) lv (ziv v :: st) h) : zVh C hh n pc lv st h := fun ok H locs ls hP hS hl =>
  lv_iload_n ok.1 ok.2.1 hd hi (zl_at hl hv (ziv_nn v)) (kk ok H locs ls hP hS hl)
theorem zH_aload_n {k : Fin 4} {i a : Nat} (hd : decode (ccc C) pc = .ok (.aload_n k, 1)) (hi : (k : Nat) = i) (hv : lv[i]? = some (.ref a)) (kk : zVh C hh n (pc + 1) lv (.ref a :: st) h) : zVh C hh n pc lv st h := fun ok H locs ls hP hS hl =>
  lv_aload_n ok.1 ok.2.1 hd hi (zl_at hl hv (fun q => by cases q)) (kk ok H locs ls hP hS hl)
theorem zH_aload_nr {k : Fin 4} {i a : Nat} (hd : decode (ccc C) pc = .ok (.aload_n k, 1)) (hi : (k : Nat) = i) (hv : lv[i]? = some (zrv (cE C) a)) (kk : zVh C hh n (pc + 1) lv (zrv (cE C) a :: st) h) : zVh C hh n pc lv st h := zH_aload_n hd hi hv kk
theorem zH_aload {i a : Nat} (hd : decode (ccc C) pc = .ok (.aload i, 2)) (hv : lv[i]? = some (.ref a)) (kk : zVh C hh n (pc + 2) lv (.ref a :: st) h) : zVh C hh n pc lv st h := fun ok H locs ls hP hS hl =>
  lv_aload ok.1 ok.2.1 hd (zl_at hl hv (fun q => by cases q)) (kk ok H locs ls hP hS hl)
theorem zH_aload_r {i a : Nat} (hd : decode (ccc C) pc = .ok (.aload i, 2)) (hv : lv[i]? = some (zrv (cE C) a)) (kk : zVh C hh n (pc + 2) lv (zrv (cE C) a :: st) h) : zVh C hh n pc lv st h := zH_aload hd hv kk
theorem zH_astore_n {k : Fin 4} {i a : Nat} (hd : decode (ccc C) pc = .ok (.astore_n k, 1)) (hi : (k : Nat) = i) (hn : i < (cM C).2.2.1) (hp : (lv.getD (i - 1) .null).category = 1) (kk : zVh C hh n (pc + 1) (lv.set i (.ref a)) st h) : zVh C hh n pc lv (.ref a :: st) h := fun ok H locs ls hP hS hl =>
  lv_astore_n ok.1 ok.2.1 hd hi hl hn rfl (fun ls' hl' => kk ok H locs ls' hP hS (zl_set hp hl'))
theorem zH_astore {i a : Nat} (hd : decode (ccc C) pc = .ok (.astore i, 2)) (hn : i < (cM C).2.2.1) (hp : (lv.getD (i - 1) .null).category = 1) (kk : zVh C hh n (pc + 2) (lv.set i (.ref a)) st h) : zVh C hh n pc lv (.ref a :: st) h := fun ok H locs ls hP hS hl =>
  lv_astore ok.1 ok.2.1 hd hl hn rfl (fun ls' hl' => kk ok H locs ls' hP hS (zl_set hp hl'))
theorem zH_goto {off : Int} {tgt : Nat} (hd : decode (ccc C) pc = .ok (.goto off, 3)) (ht : (pc : Int) + off = (tgt : Int)) (k : zVh C hh n tgt lv st h) : zVh C hh n pc lv st h := fun ok H locs ls hP hS hl =>
  lv_goto ok.1 ok.2.1 hd ht (k ok H locs ls hP hS hl)
theorem zH_lconst {v : Fin 2} (hd : decode (ccc C) pc = .ok (.lconst v, 1)) (k : zVh C hh n (pc + 1) lv (zlv ((v : Nat) : Int) :: st) h) : zVh C hh n pc lv st h := fun ok H locs ls hP hS hl =>
  lv_lconst ok.1 ok.2.1 hd rfl (by have := k ok H locs ls hP hS hl; unfold zlv at this; rw [Int64.ofInt_eq_ofNat] at this; exact this)
theorem zH_i2l {x : Int} (hd : decode (ccc C) pc = .ok (.i2l, 1)) (hx : -2147483648 ≤ x ∧ x ≤ 2147483647) (k : zVh C hh n (pc + 1) lv (zlv x :: st) h) : zVh C hh n pc lv (ziv x :: st) h := fun ok H locs ls hP hS hl =>
  lv_i2l ok.1 ok.2.1 hd (by
    apply Int64.toInt_inj.mp
    rw [Int32.toInt_toInt64, Int64.toInt_ofInt]
    rw [show (Int32.ofInt x).toInt = x from zn_of hx.1 hx.2]
    exact (Int.bmod_eq_of_le (by simp only [Int64.size]; omega) (by simp only [Int64.size]; omega)).symm) (k ok H locs ls hP hS hl)
theorem zH_ireturn {v : Int} (hd : decode (ccc C) pc = .ok (.ireturn, 1)) (hr : (cM C).2.2.2 = some .int) (hn : n ≤ ck C) (hQ : cQ C (some (ziv v)) h) : zVh C hh n pc lv [ziv v] h := fun ok H locs ls hP hS hl =>
  W.widen hn (Nat.mul_le_mul_left 6 hn) (vx_ret (W.iret (v := Int32.ofInt v) ok.1 ok.2.1 (ok.2.2.1.trans hr) (fun t ht hW => ⟨⟨some (ziv v), h, rfl, hQ, by rw [ht]; exact hP⟩, hS.F ht⟩) hS.2.2 hd ok.2.2.2.2.2.2.1))
theorem zH_lastore {k N : Nat} {i v : Int} (hk : zsh[k]? = some (.inr (2, N))) (hi : 0 ≤ i ∧ i < N) (hb : N ≤ 2147483647) (hd : decode (ccc C) pc = .ok (.lastore, 1)) (kk : zVh C hh n (pc + 1) lv st (zup h k i.toNat v)) : zVh C hh n pc lv (zlv v :: ziv i :: zrv (cE C) k :: st) h := fun ok H locs ls hP hS hl => by
  obtain ⟨h1, h2⟩ := zin hi.1 hi.2 hb
  refine va_last (D := eD (cE C)) ok.1 ok.2.1 ok.2.2.2.2.2.2.2.1.1 hP (zD_of ok.2.2.2.2.2.2.2.1 h) hS k 2 (zws_at hk) rfl h1 hd (fun H1 locs1 hP1 hD1 hS1 => ?_)
  have e : vp_updL (fun j => Int64.ofInt (h k j)) i.toNat (Int64.ofInt v) = fun j => Int64.ofInt (zup h k i.toNat v k j) := by
    funext j
    by_cases hj : j = i.toNat
    · subst hj; rw [zup_same, pk_uLs]
    · rw [pk_uLn hj, zup_ne (fun z => hj z.2)]
  rw [h2, zws_set (h := h) (i := i.toNat) (v := v) hk (by rw [e]; rfl)] at hP1
  exact kk ok H1 locs1 ls hP1 hS1 hl
/-- a row of the table takes a throw of the class Ex, at pc -/
def zRow (own : String) (hh : List (Nat × Nat × Nat × Nat)) (pc : Nat) (Ex : String) (hpc : Nat) : Prop :=
  ∃ (pre : List ExceptionTableEntry) (x : ExceptionTableEntry) (suf : List ExceptionTableEntry), tableOf hh = pre ++ x :: suf ∧
    (∀ z ∈ pre, covers z pc = false ∨ (z.catchType ≠ 0 ∧ Ex = IAE ∧ Cond.classLink own z.catchType NSE ∈ zTs)) ∧ covers x pc = true ∧ x.catchType ≠ 0 ∧ Cond.classLink own x.catchType Ex ∈ zTs ∧ Ex ∈ zBc ∧ x.handlerPc = hpc
theorem zH_callV {M : zM} {d' k' idx na k ci N : Nat} {Cn : String} {T : u_T} {As : List Value} {Q : Option Value → zH → Prop} {X : String → zH → Prop} (hL : zLV (cown C) idx na M) (hk : zsh[k]? = some (.inl ci)) (hc : vwCl[ci]? = some (Cn, T, N)) (hcn : Cn = M.1.cls)
    (hM : zCal (cE C) M d' k' (zrv (cE C) k :: As) h Q X) (hdk : d' + 1 ≤ cd C ∧ n + k' ≤ ck C) (hn : As.length = na) (hst : (st.map fun v => v.category).sum ≤ 8) (hd : decode (ccc C) pc = .ok (.invokevirtual idx, 3))
    (hX : ∀ Ex h', X Ex h' → ∃ hpc, zRow (cown C) hh pc Ex hpc ∧ ∀ a : Nat, zVh C hh (n + k') hpc lv [.ref a] h') (kk : ∀ r h', Q r h' → zVh C hh (n + k') (pc + 3) lv (r.toList ++ st) h') : zVh C hh n pc lv (As.reverse ++ zrv (cE C) k :: st) h := fun ok H locs ls hP hS hl => by
  have hrun := vx_runV (R := zRm (cd C) (ck C)) (H := H) (locs := locs) (cells := n) (slots := 6 * n) (e := ae C) (below := abl C) (meth := ame C) (As := As) (rest := st) (g := F0 (am C) pc ls (As.reverse ++ zrv (cE C) k :: st)) (Ts := zTs) (C := Cn) (b := ead (cE C) k) (n := na)
    ⟨ok.1, ok.2.1, ok.2.2.2.1, ok.2.2.2.2.1, ok.2.2.2.2.2.1⟩ hM ⟨zCB ⟨rfl, rfl⟩ ok.2.2.2.2.2.1 hL.1 hL.2.1 hdk.1, ok.2.2.2.2.2.1 _ hL.2.2.1, by rw [hcn]; exact ok.2.2.2.2.2.1 _ hL.2.2.2⟩
    ⟨zblind _ _ _, va_recv ok.2.2.2.2.2.2.2.1.1 hP hc (zws_at hk), fun U hU hW => ⟨rfl, by rw [hU]; exact hP, by rw [hU]; exact zSt_to ok.2.2.2.2.2.2.2.1 hW hS.2.1⟩⟩
    rfl hn hl.1 rfl (lv_room hst) hd ⟨hdk.2, by show 6 * n + 6 * k' ≤ 6 * ck C; have := hdk.2; omega⟩
  refine zcall hrun hS (fun Ex ce q9 h' H1 locs1 hx hP1 hS1 hce hcv hcl => ?_) (fun r h' H1 locs1 hq hP1 hS1 => ?_)
  · obtain ⟨hpc, ⟨pre, x, suf, r1, r2, r3, r4, r5, r6, r7⟩, hk9⟩ := hX Ex h' hx
    have hw := hk9 q9 ok H1 locs1 ls hP1 hS1 hl
    rw [Nat.mul_add, ← r7] at hw
    have hts := ok.2.2.2.2.2.1
    exact vx_catch (own := cown C) (name := Ex) ok.2.2.2.2.1 pre x suf (ok.2.2.2.2.2.2.2.2.1.trans r1)
      (fun z hz => by
        rcases r2 z hz with q | ⟨q1, q2, q3⟩
        · exact Or.inl q
        · exact Or.inr ⟨q1, NSE, hts _ q3, by rw [q2]; exact ok.2.2.2.2.2.2.2.2.2⟩) r3 r4 (hts _ r5) (va_Nw.use rfl (ok.2.2.2.2.2.2.2.1.2.2.2.2.2.2.2.2.2.2 Ex r6)) hce hcv hcl hw
  · have := kk r h' hq ok H1 locs1 ls hP1 hS1 hl
    rw [Nat.mul_add] at this
    exact this
/-- a contract of a body with a table -/
def zwMH (M : zM) (hh : List (Nat × Nat × Nat × Nat)) : List Cond := Cond.codeWith M.1 M.2.1 M.2.2.1 M.2.2.2 hh :: zTs
def zPcH (E : zE) (av : List Value) (h : zH) : Array Value → State → Prop := fun v U => zPc E av h v U ∧ va_Nc IAE NSE U
def zCalH (E : zE) (M : zM) (hh : List (Nat × Nat × Nat × Nat)) (d k : Nat) (av : List Value) (h : zH) (Q : Option Value → zH → Prop) (X : String → zH → Prop) : Prop :=
  vx_Met (el E) M.1 (zwMH M hh) (zRm d k) (zPcH E av h) (zQc E Q) (zXC E X) k (6 * k) (zA E)
theorem zCalH_of {E : zE} {M : zM} {hh : List (Nat × Nat × Nat × Nat)} {d k : Nat} {av : List Value} {h : zH} {Q : Option Value → zH → Prop} {X : String → zH → Prop} (hy : plainName M.1.cls = true) (hlen : (lg_sl av).length ≤ M.2.2.1)
    (body : ∀ a : zAct, zVh (E, M, d, k, Q, X, a) hh 0 0 (zla av ++ List.replicate (M.2.2.1 - (zla av).length) .null) [] h) : zCalH E M hh d k av h Q X := by
  refine vx_ofWH (cc := M.2.1) (maxL := M.2.2.1) (ret := M.2.2.2) (hh := hh) hy rfl ?_
  intro p e s m args below meth c s₁ B hml hv
  obtain ⟨⟨rfl, hP, hst⟩, hnc⟩ := hv
  have hts := atoms_spec (ws := zwMH M hh) B.pre
  have hown : s.vm.findClass M.1.cls = some m.cls := findClass_of_methodNamed B.named
  have hl := lv_entry av (n := M.2.2.1) hlen
  have htab : c.exceptionTable.toList = tableOf hh := vx_table (x := M.1) B (hts _ List.mem_cons_self)
  rw [lg_entry_eq]
  exact body (p, e, s, m, av.toArray, below, meth, c) ⟨B.exec, B.bytes, B.returns, hml, hown, fun w hw => hts w (List.mem_cons_of_mem _ hw), B.notSynchronized, hst, htab, hnc⟩ s.heap [] _ hP va_S.rf
    ⟨hl.1, hl.2.1, fun q hq => hl.2.2 q (zla_sub _ av 0 q hq)⟩
end ZVH
