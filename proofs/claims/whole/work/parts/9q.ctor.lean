/-! BODIES OVER A WORLD THAT GROWS: the constructors, and the law's head -/
/-- the constructors of nest mates, by the entry of the constant pool -/
def zNl : List (Nat × MethodName) := [(26, yX0_init), (33, yX4_init), (40, yX3_init)]
def zKx (U : State) : Prop := va_AO "java/lang/String" U ∧ ∀ w ∈ zNl, va_Nw (.methodLinkNest RX5 w.1 w.2 RX5) U
theorem zKx.warm {s U : State} (hW : s.WarmedH U.vm) (h : zKx s) : zKx U := ⟨va_AO.moved hW.alike h.1, fun w hw => va_Nw.warmM hW (h.2 w hw)⟩
abbrev zNC : Type := zE × zM × Room × (State → Prop) × (Nat → Prop) × zAct
abbrev ncE (G : zNC) : zE := G.1
abbrev ncM (G : zNC) : zM := G.2.1
abbrev ncR (G : zNC) : Room := G.2.2.1
abbrev ncQ (G : zNC) : State → Prop := G.2.2.2.1
abbrev ncA (G : zNC) : Nat → Prop := G.2.2.2.2.1
abbrev nca (G : zNC) : zAct := G.2.2.2.2.2
abbrev ncp (G : zNC) : Program := (nca G).1
abbrev nce (G : zNC) : Env := (nca G).2.1
abbrev ncs (G : zNC) : State := (nca G).2.2.1
abbrev ncm (G : zNC) : MethodId := (nca G).2.2.2.1
abbrev ncar (G : zNC) : Array Value := (nca G).2.2.2.2.1
abbrev ncbl (G : zNC) : List Frame := (nca G).2.2.2.2.2.1
abbrev ncme (G : zNC) : Method := (nca G).2.2.2.2.2.2.1
abbrev ncco (G : zNC) : Code := (nca G).2.2.2.2.2.2.2
abbrev ncc (G : zNC) : ByteArray := (ncM G).2.1
abbrev nco (G : zNC) : String := (ncM G).1.cls
def ncOK (G : zNC) : Prop :=
  (ncp G).tables.exec = Jvm.exec ∧ (ncco G).code = ncc G ∧ (ncco G).maxLocals = (ncM G).2.2.1 ∧ (ncs G).vm.findClass (nco G) = some (ncm G).cls ∧ (∀ w ∈ zTs, w.before (ncar G) (ncs G) = true) ∧ zSt (ncE G) (ncs G) (ncs G).heap ∧
  (∀ q : Nat, (ncs G).heap.size ≤ q → ncA G q) ∧ (∀ q : Nat, ncA G q → zA (ncE G) q) ∧ (ncme G).locks = false ∧ (ncme G).sig.returnType = (ncM G).2.2.2 ∧ zKx (ncs G)
def zB (G : zNC) (n sl pc : Nat) (lv st : List Value) (ws : va_W) : Prop :=
  ncOK G → ∀ (H : Heap) (locs : List Loc) (ls : Array Slot), va_P (eD (ncE G)) vwCl ws H → va_D (ncA G) ws → va_S (ncA G) (ncs G).heap H locs → zl ls (ncM G).2.2.1 lv →
    W (ncp G) (el (ncE G)) (nce G) (ncR G) (ncs G) (ncm G) (ncar G) (ncbl G) (ncme G) (ncco G) H locs n sl (ncQ G) (F0 (ncm G) pc ls st)
section ZBR
variable {G : zNC} {n sl pc : Nat} {lv st : List Value} {ws : va_W}
theorem zB_iconst {v : Int} (hd : decode (ncc G) pc = .ok (.iconst v, 1)) (k : zB G n sl (pc + 1) lv (ziv v :: st) ws) : zB G n sl pc lv st ws := fun ok H locs ls hP hD hS hl =>
  lv_iconst ok.1 ok.2.1 hd rfl (k ok H locs ls hP hD hS hl)
theorem zB_bipush {v : Int} (hd : decode (ncc G) pc = .ok (.bipush v, 2)) (hv : (Int8.ofInt v).toInt32 = Int32.ofInt v) (k : zB G n sl (pc + 2) lv (ziv v :: st) ws) : zB G n sl pc lv st ws := fun ok H locs ls hP hD hS hl =>
  lv_bipush ok.1 ok.2.1 hd hv (k ok H locs ls hP hD hS hl)
theorem zB_sipush {v : Int} (hd : decode (ncc G) pc = .ok (.sipush v, 3)) (hv : (Int16.ofInt v).toInt32 = Int32.ofInt v) (k : zB G n sl (pc + 3) lv (ziv v :: st) ws) : zB G n sl pc lv st ws := fun ok H locs ls hP hD hS hl =>
  lv_sipush ok.1 ok.2.1 hd hv (k ok H locs ls hP hD hS hl)
theorem zB_aload_n {k : Fin 4} {i a : Nat} (hd : decode (ncc G) pc = .ok (.aload_n k, 1)) (hi : (k : Nat) = i) (hv : lv[i]? = some (.ref a)) (kk : zB G n sl (pc + 1) lv (.ref a :: st) ws) : zB G n sl pc lv st ws := fun ok H locs ls hP hD hS hl =>
  lv_aload_n ok.1 ok.2.1 hd hi (zl_at hl hv (fun q => by cases q)) (kk ok H locs ls hP hD hS hl)
theorem zB_astore_n {k : Fin 4} {i a : Nat} (hd : decode (ncc G) pc = .ok (.astore_n k, 1)) (hi : (k : Nat) = i) (hn : i < (ncM G).2.2.1) (hp : (lv.getD (i - 1) .null).category = 1) (kk : zB G n sl (pc + 1) (lv.set i (.ref a)) st ws) : zB G n sl pc lv (.ref a :: st) ws := fun ok H locs ls hP hD hS hl =>
  lv_astore_n ok.1 ok.2.1 hd hi hl hn rfl (fun ls' hl' => kk ok H locs ls' hP hD hS (zl_set hp hl'))
theorem zB_istore {i : Nat} {v : Int} (hd : decode (ncc G) pc = .ok (.istore i, 2)) (hn : i < (ncM G).2.2.1) (hp : (lv.getD (i - 1) .null).category = 1) (kk : zB G n sl (pc + 2) (lv.set i (ziv v)) st ws) : zB G n sl pc lv (ziv v :: st) ws := fun ok H locs ls hP hD hS hl =>
  lv_istore ok.1 ok.2.1 hd hl hn rfl (fun ls' hl' => kk ok H locs ls' hP hD hS (zl_set hp hl'))
theorem zB_dup {v : Value} (hd : decode (ncc G) pc = .ok (.dup, 1)) (hv : v.category = 1) (k : zB G n sl (pc + 1) lv (v :: v :: st) ws) : zB G n sl pc lv (v :: st) ws := fun ok H locs ls hP hD hS hl =>
  lv_dup ok.1 ok.2.1 hd hv (k ok H locs ls hP hD hS hl)
theorem zB_eq {ws' : va_W} (e : ws = ws') (k : zB G n sl pc lv st ws') : zB G n sl pc lv st ws := e ▸ k
theorem zB_obj {idx a : Nat} (h1 : Cond.methodLink (nco G) idx Lib.objectInit ∈ zTs) (h2 : Cond.instanceMethod Lib.objectInit ∈ zTs) (h3 : Cond.code Lib.objectInit ⟨#[0xb1]⟩ 1 none ∈ zTs) (hr : 1 ≤ (ncR G).frames ∧ (st.map fun v => v.category).sum + 12 ≤ (ncR G).locals) (hd : decode (ncc G) pc = .ok (.invokespecial idx, 3)) (k : zB G n sl (pc + 3) lv st ws) : zB G n sl pc lv (.ref a :: st) ws := fun ok H locs ls hP hD hS hl =>
  W.objInit ok.1 ok.2.1 ok.2.2.2.1 (ok.2.2.2.2.1 _ h1) (ok.2.2.2.2.1 _ h2) (ok.2.2.2.2.1 _ h3) rfl (by rw [ok.2.2.1]; exact hl.1) rfl hd hr.1 (by show 2 * 0 + _ + 12 ≤ _; rw [Nat.mul_zero, Nat.zero_add]; exact hr.2) (W.eq (g2 := F0 (ncm G) (pc + 3) ls st) rfl (k ok H locs ls hP hD hS hl))
theorem va_RA_inj {U : State} {a b : ClassId} {ty : FieldType} (h1 : va_RA U a ty) (h2 : va_RA U b ty) : a = b := by
  cases ty with
  | object C =>
    obtain ⟨_, _, _, _, _, e1⟩ := h1
    obtain ⟨_, _, _, _, _, e2⟩ := h2
    exact Option.some.inj (e1.symm.trans e2)
  | _ => exact Option.some.inj (Eq.trans (Eq.symm h1) h2)
/-- a new array of ints, booleans or longs -/
theorem zB_newa {aty : ArrayType} {ty : FieldType} {t0 N : Nat} {v : Int} {a0 : vp_A} {ws' : Nat → va_W} (hty : newarray.typeOf aty = ty) (harr : Cond.arrayClass ty ∈ zTs) (ht : (ztys (ncE G))[t0]? = some (eC (ncE G) t0, ty)) (ha : ∀ cA : ClassId, vp_cell cA a0 = arrV cA N (fun _ => defaultValue ty)) (hv : ¬ Int32.ofInt v < 0 ∧ (Int32.ofInt v).toNatClampNeg = N ∧ N * componentBytes ty ≤ 536870912) (hr : n + 1 ≤ (ncR G).cells ∧ sl + N ≤ (ncR G).slots) (hd : decode (ncc G) pc = .ok (.newarray aty, 2))
    (hw : ∀ q, ws ++ [(q, .inl (eC (ncE G) t0, a0))] = ws' q) (kk : ∀ q : Nat, zB G (n + 1) (sl + N) (pc + 2) lv (.ref q :: st) (ws' q)) : zB G n sl pc lv (ziv v :: st) ws := fun ok H locs ls hP hD hS hl => by
  refine va_newa ok.1 ok.2.1 (by rw [hty]; exact ok.2.2.2.2.1 _ harr) hty ok.2.2.2.2.2.1.1 hP hD hS ok.2.2.2.2.2.2.1 ha hv.1 hv.2.1 hv.2.2 hr.1 hr.2 hd (fun q cA H1 hK1 hP1 hD1 hS1 => ?_)
  have e1 : cA = eC (ncE G) t0 := va_RA_inj (hK1.2 4 (cA, ty) rfl).2 (ok.2.2.2.2.2.1.1.2 t0 _ ht).2
  subst e1
  rw [hw q] at hP1 hD1
  exact kk q ok H1 locs ls hP1 hD1 hS1 hl
/-- a new array of Strings -/
theorem zB_newq {idx N : Nat} {v : Int} {ws' : Nat → va_W} (hcl : Cond.classLink (nco G) idx "java/lang/String" ∈ zTs) (hv : ¬ Int32.ofInt v < 0 ∧ (Int32.ofInt v).toNatClampNeg = N ∧ N * 4 ≤ 536870912) (hr : n + 1 ≤ (ncR G).cells ∧ sl + N ≤ (ncR G).slots) (hd : decode (ncc G) pc = .ok (.anewarray idx, 3))
    (hw : ∀ q, ws ++ [(q, .inl (eC (ncE G) 3, N, .inr (.inr (.inr (.inr (fun _ => none))))))] = ws' q) (kk : ∀ q : Nat, zB G (n + 1) (sl + N) (pc + 3) lv (.ref q :: st) (ws' q)) : zB G n sl pc lv (ziv v :: st) ws := fun ok H locs ls hP hD hS hl => by
  refine va_newq ok.1 ok.2.1 ok.2.2.2.1 (ok.2.2.2.2.1 _ hcl) ok.2.2.2.2.2.2.2.2.2.2.1 ok.2.2.2.2.2.1.1 hP hD hS ok.2.2.2.2.2.2.1 hv.1 hv.2.1 hv.2.2 hr.1 hr.2 hd (fun q cA H1 hK1 hP1 hD1 hS1 => ?_)
  have e1 : cA = eC (ncE G) 3 := va_RA_inj (hK1.2 4 (cA, .object "java/lang/String") rfl).2 (ok.2.2.2.2.2.1.1.2 3 _ rfl).2
  subst e1
  rw [hw q] at hP1 hD1
  exact kk q ok H1 locs ls hP1 hD1 hS1 hl
theorem zB_ldc {idx i : Nat} {tx : String} (hs : zstr[i]? = some (nco G, idx, tx)) (hd : decode (ncc G) pc = .ok (.ldc idx, 2)) (k : zB G n sl (pc + 2) lv (.ref (eK (ncE G) i) :: st) ws) : zB G n sl pc lv st ws := fun ok H locs ls hP hD hS hl =>
  va_ldcS ok.1 ok.2.1 ok.2.2.2.1 (ok.2.2.2.2.2.1.2.2.2.1 i _ hs) hd (k ok H locs ls hP hD hS hl)
/-- an int put into an array of ints -/
theorem zB_iast {k N a : Nat} {j v : Int} {f g : Nat → Int32} {ws' : va_W} (he : ws[k]? = some (a, .inl (eC (ncE G) 0, N, .inl f))) (hj : 0 ≤ j ∧ j < N ∧ N ≤ 2147483647) (hg : upd f j.toNat (Int32.ofInt v) = g) (hd : decode (ncc G) pc = .ok (.iastore, 1))
    (hw : ws.set k (a, .inl (eC (ncE G) 0, N, .inl g)) = ws') (kk : zB G n sl (pc + 1) lv st ws') : zB G n sl pc lv (ziv v :: ziv j :: .ref a :: st) ws := fun ok H locs ls hP hD hS hl => by
  obtain ⟨h1, h2⟩ := zin hj.1 hj.2.1 hj.2.2
  refine va_iast (D := eD (ncE G)) ok.1 ok.2.1 ok.2.2.2.2.2.1.1 hP hD hS k 0 he rfl h1 hd (fun H1 locs1 hP1 hD1 hS1 => ?_)
  have e9 : upd f (Int32.ofInt j).toNatClampNeg (Int32.ofInt v) = g := by rw [h2]; exact hg
  rw [e9, hw] at hP1 hD1
  exact kk ok H1 locs1 ls hP1 hD1 hS1 hl
/-- a String constant put into an array of Strings -/
theorem zB_aast {k i N a : Nat} {j : Int} {b : List Int} {f : Nat → Option Nat} {ws' : va_W} (he : ws[k]? = some (a, .inl (eC (ncE G) 3, N, .inr (.inr (.inr (.inr f)))))) (hb : zstb[i]? = some b) (hj : 0 ≤ j ∧ j < N ∧ N ≤ 2147483647) (hd : decode (ncc G) pc = .ok (.aastore, 1))
    (hw : ws.set k (a, .inl (eC (ncE G) 3, N, .inr (.inr (.inr (.inr (va_up f j.toNat (some (eK (ncE G) i)))))))) = ws') (kk : zB G n sl (pc + 1) lv st ws') : zB G n sl pc lv (.ref (eK (ncE G) i) :: ziv j :: .ref a :: st) ws := fun ok H locs ls hP hD hS hl => by
  obtain ⟨h1, h2⟩ := zin hj.1 hj.2.1 hj.2.2
  obtain ⟨cell, g1, g2, g3, g4⟩ := (ok.2.2.2.2.2.1.2.2.2.2.1 i b hb).1
  have hlt : eK (ncE G) i < (ncs G).heap.size := (Array.getElem?_eq_some_iff.mp g1).1
  have hr : ∃ cellV : Cell, H[eK (ncE G) i]? = some cellV ∧ cellV.vm.isStatics = false ∧ (ncs G).vm.findClass "java/lang/String" = some cellV.cls := ⟨cell, by rw [hS.2.1 _ hlt (fun z => g4 (ok.2.2.2.2.2.2.2.1 _ z))]; exact g1, g2, g3⟩
  refine vb_astq (D := eD (ncE G)) ok.1 ok.2.1 ok.2.2.2.2.2.1.1 hP hD hS k 3 he rfl hr (fun comp c0 x y => vb_asgS comp c0 x y) h1 hd (fun H1 locs1 hP1 hD1 hS1 => ?_)
  rw [h2, hw] at hP1 hD1
  exact kk ok H1 locs1 ls hP1 hD1 hS1 hl
/-- an array told otherwise -/
theorem zB_same {k N a : Nat} {f g : Nat → Option Nat} {ws' : va_W} (he : ws[k]? = some (a, .inl (eC (ncE G) 3, N, .inr (.inr (.inr (.inr f)))))) (hfg : ∀ j, j < N → f j = g j) (hw : ws.set k (a, .inl (eC (ncE G) 3, N, .inr (.inr (.inr (.inr g))))) = ws') (kk : zB G n sl pc lv st ws') : zB G n sl pc lv st ws := fun ok H locs ls hP hD hS hl => by
  have hce : vp_cell (eC (ncE G) 3) (N, .inr (.inr (.inr (.inr f)))) = vp_cell (eC (ncE G) 3) (N, .inr (.inr (.inr (.inr g)))) := by
    rw [vp_cell_q, vp_cell_q]
    unfold arrV
    congr 1
    apply Array.ext_getElem?
    intro j
    simp only [Array.getElem?_map, Array.getElem?_range, Array.getElem?_ofFn]
    split
    · rename_i hj
      first | (simp only [Option.map_some]; rw [hfg j hj]) | rw [hfg j hj]
    · rfl
  have hP1 : va_P (eD (ncE G)) vwCl ws' H := by
    rw [← hw]
    intro k2 q hq
    rw [List.getElem?_set] at hq
    split at hq
    · split at hq
      · cases hq
        have := hP k _ he
        show H[a]? = some (vp_cell _ _)
        rw [← hce]
        exact this
      · cases hq
    · exact hP k2 q hq
  have hD1 : va_D (ncA G) ws' := by rw [← hw]; exact hD.set he
  exact kk ok H locs ls hP1 hD1 hS hl
/-- a new object -/
theorem zB_new {ci idx N : Nat} {Cn : String} {T : u_T} {ty : Nat → FieldType} {fs : List Value} {ws' : Nat → va_W} (hc : vwCl[ci]? = some (Cn, T, N)) (hin : ∀ w ∈ u_ws Cn T N, w ∈ zTs) (hty : ∀ k, k < N → parseFieldDescriptor (T k).2.2.1 = some (ty k)) (h1 : Cond.classLink (nco G) idx Cn ∈ zTs ∧ Cond.instantiable Cn N ∈ zTs ∧ Cond.initialized Cn ∈ zTs) (hfs : ∀ j, j < N → defaultValue (ty j) = vp_V fs j) (hr : n + 1 ≤ (ncR G).cells ∧ sl + N ≤ (ncR G).slots) (hd : decode (ncc G) pc = .ok (.new idx, 3))
    (hw : ∀ q, ws ++ [(q, .inr (ci, fs))] = ws' q) (kk : ∀ q : Nat, zB G (n + 1) (sl + N) (pc + 3) lv (.ref q :: st) (ws' q)) : zB G n sl pc lv st ws := fun ok H locs ls hP hD hS hl => by
  refine va_new (ci := ci) ok.1 ok.2.1 ok.2.2.2.2.1 hin ty hty ok.2.2.2.1 (ok.2.2.2.2.1 _ h1.1) (ok.2.2.2.2.1 _ h1.2.1) (ok.2.2.2.2.1 _ h1.2.2) ok.2.2.2.2.2.1.1 hP hD hS ok.2.2.2.2.2.2.1 hc hfs hr.1 hr.2 hd (fun q H1 hP1 hD1 hS1 => ?_)
  rw [hw q] at hP1 hD1
  exact kk q ok H1 locs ls hP1 hD1 hS1 hl
/-- a field written: final or not -/
theorem zB_put {ci idx N k j a : Nat} {Cn : String} {T : u_T} {ty : Nat → FieldType} {fs : List Value} {v : Value} {ws' : va_W} (hc : vwCl[ci]? = some (Cn, T, N)) (hin : ∀ w ∈ u_ws Cn T N, w ∈ zTs) (hty : ∀ k, k < N → parseFieldDescriptor (T k).2.2.1 = some (ty k)) (hnm : ∀ a, a < N → ∀ b, b < N → a ≠ b → (T a).2.1 ≠ (T b).2.1) (hme : (ncme G).name = "<init>") (he : ws[k]? = some (a, .inr (ci, fs))) (hj : j < N ∧ j < fs.length)
    (hl0 : Cond.fieldLink (nco G) idx (T j).1 (T j).2.1 (T j).2.2.1 ∈ zTs) (hdecl : (T j).1 = nco G) (hnf : narrow (ty j) v = v ∧ fits (ty j) v = true) (hd : decode (ncc G) pc = .ok (.putfield idx, 3)) (hw : ws.set k (a, .inr (ci, fs.set j v)) = ws') (kk : zB G n sl (pc + 3) lv st ws') : zB G n sl pc lv (v :: .ref a :: st) ws := fun ok H locs ls hP hD hS hl => by
  cases hf : (T j).2.2.2 with
  | true =>
    refine va_putF (D := eD (ncE G)) (ci := ci) (ty := ty j) ok.1 ok.2.1 ok.2.2.2.2.1 hin ty hty hnm ok.2.2.2.1 ok.2.2.2.2.2.1.1 hP hD hS k he hc j hj.1 (ok.2.2.2.2.1 _ hl0) (fun _ h9 => h9) hf hme hdecl (hty j hj.1) hnf.1 hnf.2 hj.2 hd (fun H1 locs1 hP1 hD1 hS1 => ?_)
    rw [hw] at hP1 hD1
    exact kk ok H1 locs1 ls hP1 hD1 hS1 hl
  | false =>
    refine va_put (D := eD (ncE G)) (ci := ci) (ty := ty j) ok.1 ok.2.1 ok.2.2.2.2.1 hin ty hty hnm ok.2.2.2.1 ok.2.2.2.2.2.1.1 hP hD hS k he hc j hj.1 (ok.2.2.2.2.1 _ hl0) (fun _ h9 => h9) hf (hty j hj.1) hnf.1 hnf.2 hj.2 hd (fun H1 locs1 hP1 hD1 hS1 => ?_)
    rw [hw] at hP1 hD1
    exact kk ok H1 locs1 ls hP1 hD1 hS1 hl
theorem zB_get {ci idx N k j a : Nat} {Cn : String} {T : u_T} {fs : List Value} {v : Value} (hc : vwCl[ci]? = some (Cn, T, N)) (hin : ∀ w ∈ u_ws Cn T N, w ∈ zTs) (he : ws[k]? = some (a, .inr (ci, fs))) (hj : j < N) (hl0 : Cond.fieldLink (nco G) idx (T j).1 (T j).2.1 (T j).2.2.1 ∈ zTs) (hv : fs[j]? = some v) (hd : decode (ncc G) pc = .ok (.getfield idx, 3)) (kk : zB G n sl (pc + 3) lv (v :: st) ws) : zB G n sl pc lv (.ref a :: st) ws := fun ok H locs ls hP hD hS hl =>
  va_get (D := eD (ncE G)) (ci := ci) ok.1 ok.2.1 ok.2.2.2.2.1 hin ok.2.2.2.1 ok.2.2.2.2.2.1.1 hP k he hc j hj (ok.2.2.2.2.1 _ hl0) (fun _ h9 => h9) hv hd (kk ok H locs ls hP hD hS hl)
end ZBR
/-! a constructor's contract: the cell h0 with its fields as they are born, then the cells po -/
def zPn (E : zE) (ci : Nat) (fs : List Value) (h0 sz : Nat) : Array Value → State → Prop := va_Pc [.ref h0] (fun U => U.heap.size = sz ∧ va_P (eD E) vwCl [(h0, .inr (ci, fs))] U.heap ∧ zSt E U U.heap ∧ zKx U)
def zQn (E : zE) (ci : Nat) (fs : List Value) (po : Nat → (Nat → Nat) → va_W) (h0 sz : Nat) : Array Value → State → Outcome → State → Prop := va_Qv (fun _ : Nat → Nat => True) (fun q t => va_P (eD E) vwCl (po h0 q) t.heap ∧ va_D (va_A [(h0, .inr (ci, fs))] sz) (po h0 q)) (va_A [(h0, .inr (ci, fs))] sz)
def zRn (d mc ms : Nat) : Room := { frames := d, cells := mc, slots := ms, locals := 64 * d }
def zNew (E : zE) (M : zM) (ci d mc ms : Nat) (fs : List Value) (po : Nat → (Nat → Nat) → va_W) : Prop :=
  ∀ h0 sz : Nat, eb E ≤ h0 → eb E ≤ sz → Met (el E) M.1 (zwM M) (zRn d mc ms) (zPn E ci fs h0 sz) (zQn E ci fs po h0 sz) mc ms (va_A [(h0, .inr (ci, fs))] sz)
def zLI (own : String) (idx : Nat) (M : zM) : Prop :=
  (Cond.code M.1 M.2.1 M.2.2.1 none ∈ zTs ∧ Cond.initialized M.1.cls ∈ zTs ∧ Cond.methodLink own idx M.1 ∈ zTs ∧ Cond.instanceMethod M.1 ∈ zTs) ∧ (M.1.name = "<init>" ∧ M.2.2.2 = none) ∧ M.1.cls ≠ "java/lang/invoke/MethodHandle" ∧ M.1.cls ≠ "java/lang/invoke/VarHandle" ∧ (parseMethodDescriptor M.1.desc).map (fun d => d.parameters.length) = some 0
def zLN (idx : Nat) (M : zM) : Prop :=
  (Cond.code M.1 M.2.1 M.2.2.1 none ∈ zTs ∧ Cond.initialized M.1.cls ∈ zTs ∧ (idx, M.1) ∈ zNl ∧ Cond.instanceMethod M.1 ∈ zTs) ∧ (M.1.name = "<init>" ∧ M.2.2.2 = none) ∧ M.1.cls ≠ "java/lang/invoke/MethodHandle" ∧ M.1.cls ≠ "java/lang/invoke/VarHandle" ∧ (parseMethodDescriptor M.1.desc).map (fun d => d.parameters.length) = some 0
theorem zjoin {A0 : Nat → Prop} {D : va_G} {cl : List vw_C} {wr w1 : va_W} {x : Nat × va_E} {H H1 : Heap} (hP : va_P D cl (wr ++ [x]) H) (hD : va_D A0 (wr ++ [x])) (hk : ∀ q : Nat, q < H.size → ¬ va_A [x] H.size q → H1[q]? = H[q]?) (hF : ∀ q, va_A [x] H.size q → A0 q) (hP1 : va_P D cl w1 H1) (hD1 : va_D (va_A [x] H.size) w1) : va_P D cl (wr ++ w1) H1 ∧ va_D A0 (wr ++ w1) := by
  have at' : ∀ (k : Nat) (q : Nat × va_E), wr[k]? = some q → (wr ++ [x])[k]? = some q := fun k q hq => by rw [List.getElem?_append_left (List.getElem?_eq_some_iff.mp hq).1]; exact hq
  have hx : (wr ++ [x])[wr.length]? = some x := by simp
  have apart : ∀ (k : Nat) (q : Nat × va_E), wr[k]? = some q → q.1 < H.size ∧ ¬ va_A [x] H.size q.1 := by
    intro k q hq
    have hl := (hP k q (at' k q hq)).lt
    refine ⟨hl, fun h => ?_⟩
    rcases h with ⟨k2, e, h⟩ | h
    · have hk2 : k2 < 1 := (List.getElem?_eq_some_iff.mp h).1
      rw [show k2 = 0 by omega] at h
      have e1 : x = (q.1, e) := Option.some.inj h
      have hij := hD.1 k wr.length q x (at' k q hq) hx (by rw [e1])
      have := (List.getElem?_eq_some_iff.mp hq).1
      omega
    · omega
  refine ⟨va_P.app (fun k q hq => (hP k q (at' k q hq)).kept (hk q.1 (apart k q hq).1 (apart k q hq).2)) hP1, va_D.app ⟨fun i j p q hi hj e => hD.1 i j p q (at' i p hi) (at' j q hj) e, fun k q hq => hD.2 k q (at' k q hq)⟩ (hD1.weaken (fun k q _ h => hF q.1 h)) (fun i j y z hy hz hyz => ?_)⟩
  exact (apart i y hy).2 (by rw [hyz]; exact hD1.2 j z hz)
section ZBC
variable {G : zNC} {n sl pc : Nat} {lv st : List Value} {ws : va_W}
theorem zB_callI {M : zM} {ci d mc ms idx h0 : Nat} {fs : List Value} {po : Nat → (Nat → Nat) → va_W} {wr : va_W} {ws' : (Nat → Nat) → va_W} (hN : zNew (ncE G) M ci d mc ms fs po) (hL : zLI (nco G) idx M) (hR : d + 1 ≤ (ncR G).frames ∧ 8 + (M.2.2.1 + 11) + 64 * d ≤ (ncR G).locals) (hr : n + mc ≤ (ncR G).cells ∧ sl + ms ≤ (ncR G).slots) (hst : (st.map fun v => v.category).sum ≤ 8) (hd : decode (ncc G) pc = .ok (.invokespecial idx, 3))
    (hw : ∀ q, wr ++ po h0 q = ws' q) (kk : ∀ q : Nat → Nat, zB G (n + mc) (sl + ms) (pc + 3) lv st (ws' q)) : zB G n sl pc lv (.ref h0 :: st) (wr ++ [(h0, .inr (ci, fs))]) := fun ok H locs ls hP hD hS hl => by
  have hx : (wr ++ [((h0, .inr (ci, fs)) : Nat × va_E)])[wr.length]? = some (h0, .inr (ci, fs)) := by simp
  have hFc : ∀ q, va_A [(h0, .inr (ci, fs))] H.size q → ncA G q := by
    intro q h
    rcases h with ⟨k2, e, h⟩ | h
    · have hk2 : k2 < 1 := (List.getElem?_eq_some_iff.mp h).1
      rw [show k2 = 0 by omega] at h
      cases h
      exact hD.2 _ _ hx
    · exact ok.2.2.2.2.2.2.1 q (Nat.le_trans hS.1 h)
  have e1 : eb (ncE G) ≤ h0 := ok.2.2.2.2.2.2.2.1 h0 (hD.2 _ _ hx)
  have e2 : eb (ncE G) ≤ H.size := ok.2.2.2.2.2.2.2.1 H.size (ok.2.2.2.2.2.2.1 _ hS.1)
  have hPc : va_P (eD (ncE G)) vwCl [(h0, .inr (ci, fs))] H := by
    intro k2 q hq
    have hk2 : k2 < 1 := (List.getElem?_eq_some_iff.mp hq).1
    rw [show k2 = 0 by omega] at hq
    cases hq
    exact hP _ _ hx
  have hin : GoodIn zTs (zwM M) := fun w hw => by
    rcases List.mem_cons.mp hw with e | hw
    · rw [e, hL.2.1.2]; exact zTs_good _ hL.1.1
    · exact zTs_good _ hw
  have hst' : ∀ U : State, U.heap = H → (ncs G).WarmedH U.vm → zSt (ncE G) U U.heap := fun U hU hW => by
    rw [hU]
    exact zSt_to ok.2.2.2.2.2.1 hW (fun q h1 h2 => hS.2.1 q h1 (fun z => h2 (ok.2.2.2.2.2.2.2.1 q z)))
  have hrun := va_runI (As := []) (rest := st) (b := h0) (e := nce G) (below := ncbl G) (meth := ncme G) (H := H) (locs := locs) (cells := n) (slots := sl) (g := F0 (ncm G) pc ls (.ref h0 :: st)) (n := 0) (R := ncR G)
    ⟨ok.1, ok.2.1, ok.2.2.1, ok.2.2.2.1, ok.2.2.2.2.1⟩ (hN h0 H.size e1 e2)
    (cwI 0 ok.2.2.2.2.1 hin (by show Cond.code M.1 M.2.1 M.2.2.1 M.2.2.2 :: zTs = _; rw [hL.2.1.2]) rfl rfl (ok.2.2.2.2.1 _ hL.1.2.1) (ok.2.2.2.2.1 _ hL.1.2.2.1) (ok.2.2.2.2.1 _ hL.1.2.2.2) hL.2.1.1 hL.2.2 hR)
    ⟨fun a U g mk q => ⟨q.1, q.2.1, q.2.2.1, zSt_call g mk a q.2.2.2.1, zKx.warm (s := U) (U := U.calling g mk a) (State.WarmedH.refl U) q.2.2.2.2⟩, fun U hU hW => ⟨rfl, by rw [hU], by rw [hU]; exact hPc, hst' U hU hW, zKx.warm hW ok.2.2.2.2.2.2.2.2.2.2⟩⟩
    rfl rfl hl.1 rfl (lv_room hst) hd hr
  refine va_callv hrun hS (fun q _ h => hFc q h) hFc (fun u t H1 locs1 ht hvm h5 hB hz1 hk1 hS1 => ?_)
  obtain ⟨hP1, hD1⟩ := hB
  rw [ht] at hP1
  obtain ⟨hP2, hD2⟩ := zjoin hP hD hk1 hFc hP1 hD1
  rw [hw u] at hP2 hD2
  exact kk u ok H1 locs1 ls hP2 hD2 hS1 hl
theorem zB_callN {M : zM} {ci d mc ms idx h0 : Nat} {fs : List Value} {po : Nat → (Nat → Nat) → va_W} {wr : va_W} {ws' : (Nat → Nat) → va_W} (hN : zNew (ncE G) M ci d mc ms fs po) (hL : zLN idx M) (hown : nco G = RX5) (hR : d + 1 ≤ (ncR G).frames ∧ 8 + (M.2.2.1 + 11) + 64 * d ≤ (ncR G).locals) (hr : n + mc ≤ (ncR G).cells ∧ sl + ms ≤ (ncR G).slots) (hst : (st.map fun v => v.category).sum ≤ 8) (hd : decode (ncc G) pc = .ok (.invokespecial idx, 3))
    (hw : ∀ q, wr ++ po h0 q = ws' q) (kk : ∀ q : Nat → Nat, zB G (n + mc) (sl + ms) (pc + 3) lv st (ws' q)) : zB G n sl pc lv (.ref h0 :: st) (wr ++ [(h0, .inr (ci, fs))]) := fun ok H locs ls hP hD hS hl => by
  have hx : (wr ++ [((h0, .inr (ci, fs)) : Nat × va_E)])[wr.length]? = some (h0, .inr (ci, fs)) := by simp
  have hFc : ∀ q, va_A [(h0, .inr (ci, fs))] H.size q → ncA G q := by
    intro q h
    rcases h with ⟨k2, e, h⟩ | h
    · have hk2 : k2 < 1 := (List.getElem?_eq_some_iff.mp h).1
      rw [show k2 = 0 by omega] at h
      cases h
      exact hD.2 _ _ hx
    · exact ok.2.2.2.2.2.2.1 q (Nat.le_trans hS.1 h)
  have e1 : eb (ncE G) ≤ h0 := ok.2.2.2.2.2.2.2.1 h0 (hD.2 _ _ hx)
  have e2 : eb (ncE G) ≤ H.size := ok.2.2.2.2.2.2.2.1 H.size (ok.2.2.2.2.2.2.1 _ hS.1)
  have hPc : va_P (eD (ncE G)) vwCl [(h0, .inr (ci, fs))] H := by
    intro k2 q hq
    have hk2 : k2 < 1 := (List.getElem?_eq_some_iff.mp hq).1
    rw [show k2 = 0 by omega] at hq
    cases hq
    exact hP _ _ hx
  have hin : GoodIn zTs (zwM M) := fun w hw => by
    rcases List.mem_cons.mp hw with e | hw
    · rw [e, hL.2.1.2]; exact zTs_good _ hL.1.1
    · exact zTs_good _ hw
  have hst' : ∀ U : State, U.heap = H → (ncs G).WarmedH U.vm → zSt (ncE G) U U.heap := fun U hU hW => by
    rw [hU]
    exact zSt_to ok.2.2.2.2.2.1 hW (fun q h1 h2 => hS.2.1 q h1 (fun z => h2 (ok.2.2.2.2.2.2.2.1 q z)))
  have hrun := va_runIN (host := RX5) (own := nco G) (As := []) (rest := st) (b := h0) (e := nce G) (below := ncbl G) (meth := ncme G) (H := H) (locs := locs) (cells := n) (slots := sl) (g := F0 (ncm G) pc ls (.ref h0 :: st)) (n := 0) (R := ncR G)
    ⟨ok.1, ok.2.1, ok.2.2.1, ok.2.2.2.1, ok.2.2.2.2.1⟩ (hN h0 H.size e1 e2)
    ⟨va_cnB 0 ok.2.2.2.2.1 hin (by show Cond.code M.1 M.2.1 M.2.2.1 M.2.2.2 :: zTs = _; rw [hL.2.1.2]) rfl rfl (by rw [hown]; exact ok.2.2.2.2.2.2.2.2.2.2.2 _ hL.1.2.2.1) (ok.2.2.2.2.1 _ hL.1.2.1) hL.2.2 hR, hL.2.1.1, ok.2.2.2.2.1 _ hL.1.2.2.2⟩
    ⟨fun a U g mk q => ⟨q.1, q.2.1, q.2.2.1, zSt_call g mk a q.2.2.2.1, zKx.warm (s := U) (U := U.calling g mk a) (State.WarmedH.refl U) q.2.2.2.2⟩, fun U hU hW => ⟨rfl, by rw [hU], by rw [hU]; exact hPc, hst' U hU hW, zKx.warm hW ok.2.2.2.2.2.2.2.2.2.2⟩⟩
    rfl rfl hl.1 rfl (lv_room hst) hd hr
  refine va_callv hrun hS (fun q _ h => hFc q h) hFc (fun u t H1 locs1 ht hvm h5 hB hz1 hk1 hS1 => ?_)
  obtain ⟨hP1, hD1⟩ := hB
  rw [ht] at hP1
  obtain ⟨hP2, hD2⟩ := zjoin hP hD hk1 hFc hP1 hD1
  rw [hw u] at hP2 hD2
  exact kk u ok H1 locs1 ls hP2 hD2 hS1 hl
end ZBC
abbrev zGn (E : zE) (M : zM) (ci d mc ms : Nat) (fs : List Value) (po : Nat → (Nat → Nat) → va_W) (h0 sz : Nat) (a : zAct) : zNC :=
  (E, M, zRn d mc ms, MQ a.2.2.2.2.2.1 (zQn E ci fs po h0 sz) a.2.2.2.2.1 a.2.2.1 mc ms (va_A [(h0, .inr (ci, fs))] sz), va_A [(h0, .inr (ci, fs))] sz, a)
/-- a constructor's end -/
theorem zB_ret {E : zE} {M : zM} {ci d mc ms n sl pc h0 sz : Nat} {fs : List Value} {po : Nat → (Nat → Nat) → va_W} {lv : List Value} {ws : va_W} {a : zAct} (q : Nat → Nat) (hw : ws = po h0 q) (hr : n ≤ mc ∧ sl ≤ ms) (hM : M.2.2.2 = none) (hd : decode M.2.1 pc = .ok (.return_, 1)) : zB (zGn E M ci d mc ms fs po h0 sz a) n sl pc lv [] ws := fun ok H locs ls hP hD hS hl => by
  rw [hw] at hP hD
  refine W.widen hr.1 hr.2 ?_
  exact W.vret ok.1 ok.2.1 (ok.2.2.2.2.2.2.2.2.2.1.trans hM) (fun t ht hW => ⟨⟨q, rfl, trivial, by rw [ht]; exact hP, hD⟩, hS.F ht⟩) hS.2.2 hd ok.2.2.2.2.2.2.2.2.1
theorem zNew_of {E : zE} {M : zM} {ci d mc ms : Nat} {fs : List Value} {po : Nat → (Nat → Nat) → va_W} (hy : plainName M.1.cls = true) (hm : M.2.2.1 = 1) (hnm : M.1.name = "<init>")
    (body : ∀ (h0 sz : Nat) (a : zAct), (a.2.2.2.2.2.2.1).name = "<init>" → zB (zGn E M ci d mc ms fs po h0 sz a) 0 0 0 [.ref h0] [] [(h0, .inr (ci, fs))]) : zNew E M ci d mc ms fs po := by
  intro h0 sz hb0 hbz
  refine Met.ofW (cc := M.2.1) (maxL := M.2.2.1) (ret := M.2.2.2) hy rfl ?_
  intro p e s m args below meth c s₁ B hml hv
  obtain ⟨rfl, hsz, hP, hst, hao⟩ := hv
  have hts := atoms_spec (ws := zwM M) B.pre
  have hown : s.vm.findClass M.1.cls = some m.cls := findClass_of_methodNamed B.named
  have hin : meth.name = "<init>" := (name_of_methodNamed B.named B.method).1.trans hnm
  have hl := lv_entry ([.ref h0] : List Value) (n := M.2.2.1) (by rw [hm]; exact Nat.le_of_ble_eq_true rfl)
  have hD : va_D (va_A [(h0, .inr (ci, fs))] sz) [((h0, .inr (ci, fs)) : Nat × va_E)] := by
    refine ⟨fun i j p q hi hj _ => ?_, fun k q hq => va_A.in hq⟩
    have a1 : i < 1 := (List.getElem?_eq_some_iff.mp hi).1
    have a2 : j < 1 := (List.getElem?_eq_some_iff.mp hj).1
    omega
  rw [lg_entry_eq]
  subst hsz
  exact body h0 s.heap.size (p, e, s, m, ([.ref h0] : List Value).toArray, below, meth, c) hin ⟨B.exec, B.bytes, hml, hown, fun w hw => hts w (List.mem_cons_of_mem _ hw), hst, fun q h => Or.inr h, fun q h => by
      rcases h with ⟨k2, e2, h⟩ | h
      · have hk2 : k2 < 1 := (List.getElem?_eq_some_iff.mp h).1
        rw [show k2 = 0 by omega] at h
        cases h
        exact hb0
      · exact Nat.le_trans hbz h, B.notSynchronized, B.returns, hao⟩ s.heap [] _ hP hD va_S.rf
    ⟨hl.1, hl.2.1, fun q hq => hl.2.2 q (zla_sub 0 [.ref h0] 0 q hq)⟩
