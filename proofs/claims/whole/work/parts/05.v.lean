/-! THE JUDGEMENT: what stands around a method's body (zOK), the machine at a pc (zV), a contract (zCal). -/
def zA (E : zE) : Nat → Prop := fun q => eb E ≤ q
def ztys (E : zE) : List (ClassId × FieldType) := [(eC E 0, .int), (eC E 1, .boolean), (eC E 2, .long), (eC E 3, .object "java/lang/String")]
/-- the String constants: whose, which entry, the text -/
def zstr : List (String × Nat × String) := [("DregsVerdict", 79, "the tape has not so many bytes"), ("DregsVerdict", 136, "no such count"), ("DregsVerdict", 165, "no such thing of a leaf"), ("DregsVerdict", 190, "no such thing of a judge"), ("DregsVerdict", 192, "no such seat"), ("DregsVerdict", 219, "no such leaf"), ("DregsVerdict", 221, "no such judge"), ("DregsVerdict", 223, "no such place"), ("DregsVerdict", 225, "no such verdict"), ("DregsVerdict", 227, "no such answer"), ("DregsVerdict", 229, "a number that is not as told"), ("DregsVerdict", 331, "both are one"), ("DregsVerdict$Clerk", 98, "leaf"), ("DregsVerdict$Clerk", 107, "judge"), ("DregsVerdict$Clerk", 109, "barrister"), ("DregsVerdict$Clerk", 115, "pot"), ("DregsVerdict$Clerk", 120, "drinks"), ("DregsVerdict$Clerk", 125, "reads"), ("DregsVerdict$Clerk", 183, "or"), ("DregsVerdict$Clerk", 192, "and"), ("DregsVerdict$Clerk", 194, "not"), ("DregsVerdict$Clerk", 214, "level"), ("DregsVerdict$Clerk", 216, "most"), ("DregsVerdict$Clerk", 218, "where"), ("DregsVerdict$Clerk", 220, "odd"), ("DregsVerdict$Clerk", 222, "case"), ("DregsVerdict$Clerk", 224, "thirst"), ("DregsVerdict$Clerk", 226, "seat"), ("DregsVerdictModel", 11, "judge"), ("DregsVerdictModel", 13, "barrister"), ("DregsVerdictModel", 19, "level"), ("DregsVerdictModel", 21, "most"), ("DregsVerdictModel", 23, "where"), ("DregsVerdictModel", 25, "odd"), ("DregsVerdictModel", 27, "case"), ("DregsVerdictModel", 29, "thirst"), ("DregsVerdictModel", 31, "seat"), ("DregsVerdictModel", 264, "not"), ("DregsVerdictModel", 272, "and"), ("DregsVerdictModel", 277, "or"), ("DregsVerdictModel", 283, "pot"), ("DregsVerdictModel", 285, "drinks"), ("DregsVerdictModel", 287, "reads"), ("DregsVerdictModel", 295, "leaf")]
/-- their letters -/
def zstb : List (List Int) := [[116, 104, 101, 32, 116, 97, 112, 101, 32, 104, 97, 115, 32, 110, 111, 116, 32, 115, 111, 32, 109, 97, 110, 121, 32, 98, 121, 116, 101, 115], [110, 111, 32, 115, 117, 99, 104, 32, 99, 111, 117, 110, 116], [110, 111, 32, 115, 117, 99, 104, 32, 116, 104, 105, 110, 103, 32, 111, 102, 32, 97, 32, 108, 101, 97, 102], [110, 111, 32, 115, 117, 99, 104, 32, 116, 104, 105, 110, 103, 32, 111, 102, 32, 97, 32, 106, 117, 100, 103, 101], [110, 111, 32, 115, 117, 99, 104, 32, 115, 101, 97, 116], [110, 111, 32, 115, 117, 99, 104, 32, 108, 101, 97, 102], [110, 111, 32, 115, 117, 99, 104, 32, 106, 117, 100, 103, 101], [110, 111, 32, 115, 117, 99, 104, 32, 112, 108, 97, 99, 101], [110, 111, 32, 115, 117, 99, 104, 32, 118, 101, 114, 100, 105, 99, 116], [110, 111, 32, 115, 117, 99, 104, 32, 97, 110, 115, 119, 101, 114], [97, 32, 110, 117, 109, 98, 101, 114, 32, 116, 104, 97, 116, 32, 105, 115, 32, 110, 111, 116, 32, 97, 115, 32, 116, 111, 108, 100], [98, 111, 116, 104, 32, 97, 114, 101, 32, 111, 110, 101], [108, 101, 97, 102], [106, 117, 100, 103, 101], [98, 97, 114, 114, 105, 115, 116, 101, 114], [112, 111, 116], [100, 114, 105, 110, 107, 115], [114, 101, 97, 100, 115], [111, 114], [97, 110, 100], [110, 111, 116], [108, 101, 118, 101, 108], [109, 111, 115, 116], [119, 104, 101, 114, 101], [111, 100, 100], [99, 97, 115, 101], [116, 104, 105, 114, 115, 116], [115, 101, 97, 116], [106, 117, 100, 103, 101], [98, 97, 114, 114, 105, 115, 116, 101, 114], [108, 101, 118, 101, 108], [109, 111, 115, 116], [119, 104, 101, 114, 101], [111, 100, 100], [99, 97, 115, 101], [116, 104, 105, 114, 115, 116], [115, 101, 97, 116], [110, 111, 116], [97, 110, 100], [111, 114], [112, 111, 116], [100, 114, 105, 110, 107, 115], [114, 101, 97, 100, 115], [108, 101, 97, 102]]
/-- the words of a throw that a state hands on by itself -/
def zBd : List MethodName := [⟨"java/lang/RuntimeException", "<init>", "(Ljava/lang/String;)V"⟩, ⟨"java/lang/Exception", "<init>", "(Ljava/lang/String;)V"⟩, ⟨"java/lang/Throwable", "<init>", "(Ljava/lang/String;)V"⟩]
def zBc : List String := ["java/lang/IllegalArgumentException", "java/util/NoSuchElementException"]
/-- what the tables and the old heap say, at a state U -/
def zSt (E : zE) (U : State) (H : Heap) : Prop :=
  va_K (eD E) vwCl (ztys E) U ∧
  (∀ i j, i < 104 → j < 104 → ead E i = ead E j → i = j) ∧ (∀ i, i < 104 → eb E ≤ ead E i) ∧
  (∀ i r, zstr[i]? = some r → vk_R r.1 r.2.1 r.2.2 (eK E i) U) ∧
  (∀ i b, zstb[i]? = some b → va_O "java/lang/String" (eK E i) (zA E) U H ∧ va_OF "java/lang/String" "coder" "B" (.int 0) (eK E i) (zA E) U H ∧ va_OF "java/lang/String" "value" "[B" (.ref (eV E i)) (eK E i) (zA E) U H ∧ va_T .byte (eV E i) b.length (fun j => .int (Int32.ofInt (b.getD j 0))) (zA E) U H) ∧
  (va_Z "java/lang/String" "COMPACT_STRINGS" "Z" (.int 1) (zA E) U H ∧ va_Zq "jdk/internal/util/Preconditions" "SIOOBE_FORMATTER" "Ljava/util/function/BiFunction;" (zA E) U H) ∧
  vx_Zq Bundle.tN "UNASSIGNED_STACK" Bundle.steD (zA E) U H ∧ vx_Zq Bundle.tN "SUPPRESSED_SENTINEL" Bundle.listD (zA E) U H ∧
  (el E).stackTraces = false ∧ (∀ x ∈ zBd, va_Nw (.declares x) U) ∧ (∀ c ∈ zBc, va_Nw (.castable c c) U)
theorem zSt_to {E : zE} {s U : State} {H : Heap} (h : zSt E s s.heap) (hW : s.WarmedH U.vm) (hH : ∀ q : Nat, q < s.heap.size → ¬ zA E q → H[q]? = s.heap[q]?) : zSt E U H := by
  obtain ⟨h1, h2, h3, h4, h5, h6, h7, h8, h9, h10, h11⟩ := h
  have ha := hW.alike
  exact ⟨va_K.moved ha h1, h2, h3, fun i r hr => vk_R.warm hW (h4 i r hr),
    fun i b hb => ⟨va_O.kept (va_O.moved ha (h5 i b hb).1) hH, va_OF.kept (va_OF.moved ha (h5 i b hb).2.1) hH, va_OF.kept (va_OF.moved ha (h5 i b hb).2.2.1) hH, va_T.kept (va_T.moved ha (h5 i b hb).2.2.2) hH⟩,
    ⟨va_Z.kept (va_Z.moved ha h6.1) hH, va_Zq.kept (va_Zq.moved ha h6.2) hH⟩, vx_Zq.kept (vx_Zq.moved ha h7) hH, vx_Zq.kept (vx_Zq.moved ha h8) hH, h9, fun x hx => va_Nw.warmD hW (h10 x hx), fun c hc => va_Nw.warmC hW (h11 c hc)⟩
def zTs : List Cond := lw_tbl.filter goodWord
theorem zTs_of {w : Cond} (h : w ∈ lw_tbl) (hg : goodWord w = true) : w ∈ zTs := List.mem_filter.mpr ⟨h, hg⟩
theorem zTs_good : GoodIn zTs zTs := fun w h => ⟨h, good_of_word (List.mem_filter.mp h).2⟩
/-- a method: its name, its code, its locals, what it returns -/
abbrev zM : Type := MethodName × ByteArray × Nat × Option FieldType
def zwM (M : zM) : List Cond := Cond.code M.1 M.2.1 M.2.2.1 M.2.2.2 :: zTs
def zRm (d k : Nat) : Room := { frames := d, cells := k, slots := 6 * k, locals := 64 * d }
def zPc (E : zE) (av : List Value) (h : zH) : Array Value → State → Prop := fun v U => v = av.toArray ∧ va_P (eD E) vwCl (zws E h) U.heap ∧ zSt E U U.heap
def zQc (E : zE) (Q : Option Value → zH → Prop) : Array Value → State → Outcome → State → Prop := fun _ st oc t => (∃ (r : Option Value) (h' : zH), oc = .returned r ∧ Q r h' ∧ va_P (eD E) vwCl (zws E h') t.heap) ∧ va_F (zA E) st t
def zXC (E : zE) (X : String → zH → Prop) : String → State → State → Prop := fun Ex st t => ∃ h' : zH, X Ex h' ∧ va_P (eD E) vwCl (zws E h') t.heap ∧ va_F (zA E) st t
/-- THE CONTRACT: from h, with the arguments av, the method returns r and leaves h' with Q r h', or throws an exception of the class e and leaves h' with X e h'; d calls deep at most, k objects (exceptions) at most -/
def zCal (E : zE) (M : zM) (d k : Nat) (av : List Value) (h : zH) (Q : Option Value → zH → Prop) (X : String → zH → Prop) : Prop :=
  vx_Met (el E) M.1 (zwM M) (zRm d k) (zPc E av h) (zQc E Q) (zXC E X) k (6 * k) (zA E)
abbrev zAct : Type := Program × Env × State × MethodId × Array Value × List Frame × Method × Code
abbrev zC : Type := zE × zM × Nat × Nat × (Option Value → zH → Prop) × (String → zH → Prop) × zAct
abbrev cE (C : zC) : zE := C.1
abbrev cM (C : zC) : zM := C.2.1
abbrev cd (C : zC) : Nat := C.2.2.1
abbrev ck (C : zC) : Nat := C.2.2.2.1
abbrev cQ (C : zC) : Option Value → zH → Prop := C.2.2.2.2.1
abbrev cX (C : zC) : String → zH → Prop := C.2.2.2.2.2.1
abbrev ca (C : zC) : zAct := C.2.2.2.2.2.2
abbrev ccc (C : zC) : ByteArray := (cM C).2.1
abbrev cown (C : zC) : String := (cM C).1.cls
abbrev ap (C : zC) : Program := (ca C).1
abbrev ae (C : zC) : Env := (ca C).2.1
abbrev as' (C : zC) : State := (ca C).2.2.1
abbrev am (C : zC) : MethodId := (ca C).2.2.2.1
abbrev aar (C : zC) : Array Value := (ca C).2.2.2.2.1
abbrev abl (C : zC) : List Frame := (ca C).2.2.2.2.2.1
abbrev ame (C : zC) : Method := (ca C).2.2.2.2.2.2.1
abbrev aco (C : zC) : Code := (ca C).2.2.2.2.2.2.2
def zOK (C : zC) : Prop :=
  (ap C).tables.exec = Jvm.exec ∧ (aco C).code = ccc C ∧ (ame C).sig.returnType = (cM C).2.2.2 ∧ (aco C).maxLocals = (cM C).2.2.1 ∧
  (as' C).vm.findClass (cown C) = some (am C).cls ∧ (∀ w ∈ zTs, w.before (aar C) (as' C) = true) ∧ (ame C).locks = false ∧ zSt (cE C) (as' C) (as' C).heap ∧ (∀ x ∈ (aco C).exceptionTable.toList, False)
/-- the locals by their places; .null stands for 'whatever' -/
def zlp : Nat → List Value → List (Nat × Value)
  | _, [] => []
  | i, .null :: vs => zlp (i + 1) vs
  | i, v :: vs => (i, v) :: zlp (i + 1) vs
theorem zlp_null (i : Nat) (vs : List Value) : zlp i (.null :: vs) = zlp (i + 1) vs := rfl
theorem zlp_cons {v : Value} (i : Nat) (vs : List Value) (hv : v ≠ .null) : zlp i (v :: vs) = (i, v) :: zlp (i + 1) vs := by
  cases v <;> first | rfl | exact absurd rfl hv
theorem zlp_mem {lv : List Value} : ∀ {i j : Nat} {v : Value}, (j, v) ∈ zlp i lv ↔ ∃ t, j = i + t ∧ lv[t]? = some v ∧ v ≠ .null := by
  induction lv with
  | nil => intro i j v; simp [zlp]
  | cons a vs ih =>
    intro i j v
    by_cases ha : a = .null
    · subst ha
      rw [zlp_null, ih]
      constructor
      · rintro ⟨t, rfl, h2, h3⟩
        exact ⟨t + 1, by omega, by simpa using h2, h3⟩
      · rintro ⟨t, rfl, h2, h3⟩
        cases t with
        | zero => simp at h2; exact absurd h2.symm h3
        | succ t => exact ⟨t, by omega, by simpa using h2, h3⟩
    · rw [zlp_cons i vs ha, List.mem_cons, ih]
      constructor
      · rintro (h | ⟨t, rfl, h2, h3⟩)
        · cases h
          exact ⟨0, rfl, rfl, ha⟩
        · exact ⟨t + 1, by omega, by simpa using h2, h3⟩
      · rintro ⟨t, rfl, h2, h3⟩
        cases t with
        | zero => simp at h2; subst h2; exact Or.inl rfl
        | succ t => exact Or.inr ⟨t, by omega, by simpa using h2, h3⟩
def zl (ls : Array Slot) (nL : Nat) (lv : List Value) : Prop := lv_has ls nL (zlp 0 lv)
theorem zl_at {ls : Array Slot} {nL : Nat} {lv : List Value} (h : zl ls nL lv) {i : Nat} {v : Value} (hi : lv[i]? = some v) (hv : v ≠ .null) : ls[i]? = some (.val v) :=
  h.2.2 (i, v) (zlp_mem.mpr ⟨i, (Nat.zero_add i).symm, hi, hv⟩)
/-- behind a store of one word -/
theorem zl_set {ls' : Array Slot} {nL : Nat} {lv : List Value} {i : Nat} {v : Value} (hp : (lv.getD (i - 1) .null).category = 1)
    (h : lv_has ls' nL ((i, v) :: (zlp 0 lv).filter (fun q => !(q.1 == i) && !(q.1 + 1 == i && q.2.category == 2)))) : zl ls' nL (lv.set i v) := by
  refine ⟨h.1, h.2.1, fun q hq => h.2.2 q ?_⟩
  obtain ⟨j, w⟩ := q
  obtain ⟨t, ht, h2, h3⟩ := zlp_mem.mp hq
  rw [Nat.zero_add] at ht
  subst ht
  rw [List.getElem?_set] at h2
  by_cases hj : i = j
  · subst hj
    rw [if_pos rfl] at h2
    split at h2
    · cases h2; exact List.mem_cons_self
    · cases h2
  · rw [if_neg hj] at h2
    refine List.mem_cons_of_mem _ (List.mem_filter.mpr ⟨zlp_mem.mpr ⟨j, (Nat.zero_add j).symm, h2, h3⟩, ?_⟩)
    have h4 : (j == i) = false := by simp; omega
    simp only [h4, Bool.not_false, Bool.true_and, Bool.not_eq_true', Bool.and_eq_false_iff]
    by_cases h5 : j + 1 = i
    · right
      have h6 : i - 1 = j := by omega
      rw [h6, List.getD_eq_getElem?_getD, h2] at hp
      simp at hp
      simp [hp]
    · left; simpa using h5
def zV (C : zC) (n pc : Nat) (lv st : List Value) (h : zH) : Prop :=
  zOK C → ∀ (H : Heap) (locs : List Loc) (ls : Array Slot), va_P (eD (cE C)) vwCl (zws (cE C) h) H → va_S (zA (cE C)) (as' C).heap H locs → zl ls (cM C).2.2.1 lv →
    W (ap C) (el (cE C)) (ae C) (zRm (cd C) (ck C)) (as' C) (am C) (aar C) (abl C) (ame C) (aco C) H locs n (6 * n)
      (vx_MQ (abl C) (zQc (cE C) (cQ C)) (zXC (cE C) (cX C)) (aar C) (as' C) (ck C) (6 * ck C) (zA (cE C))) (F0 (am C) pc ls st)
/-- the cells are apart, and new -/
theorem zD_of {E : zE} {U : State} {H0 : Heap} (hs : zSt E U H0) (h : zH) : va_D (zA E) (zws E h) := by
  obtain ⟨-, h2, h3, -⟩ := hs
  have hz : ∀ (k : Nat) (q : Nat × va_E), (zws E h)[k]? = some q → k < 104 ∧ q.1 = ead E k := by
    intro k q hq
    cases hk : zsh[k]? with
    | none => rw [zws_none hk] at hq; cases hq
    | some kd =>
      rw [zws_at hk] at hq
      cases hq
      exact ⟨(List.getElem?_eq_some_iff.mp hk).1, rfl⟩
  refine ⟨fun i j p q hi hj he => ?_, fun k q hq => ?_⟩
  · obtain ⟨a1, a2⟩ := hz i p hi
    obtain ⟨b1, b2⟩ := hz j q hj
    exact h2 i j a1 b1 (by rw [← a2, ← b2]; exact he)
  · obtain ⟨a1, a2⟩ := hz k q hq
    show eb E ≤ q.1
    rw [a2]; exact h3 k a1
/-- the locals at the entry -/
def zla : List Value → List Value
  | [] => []
  | v :: vs => if v.category = 2 then v :: .null :: zla vs else v :: zla vs
theorem zla_sub (k : Nat) : ∀ (vs : List Value) (i : Nat), ∀ q ∈ zlp i (zla vs ++ List.replicate k .null), q ∈ lv_args i vs := by
  intro vs
  induction vs with
  | nil =>
    intro i q hq
    obtain ⟨j, w⟩ := q
    obtain ⟨t, -, h2, h3⟩ := zlp_mem.mp hq
    simp only [zla, List.nil_append, List.getElem?_replicate] at h2
    split at h2
    · cases h2; exact absurd rfl h3
    · cases h2
  | cons v vs ih =>
    intro i q hq
    unfold lv_args
    by_cases hc : v.category = 2
    · rw [if_pos hc]
      unfold zla at hq
      rw [if_pos hc] at hq
      have hv : v ≠ .null := by rintro rfl; simp [Value.category] at hc
      rw [List.cons_append, List.cons_append, zlp_cons _ _ hv, zlp_null] at hq
      rcases List.mem_cons.mp hq with h | h
      · exact List.mem_cons.mpr (Or.inl h)
      · exact List.mem_cons_of_mem _ (ih (i + 2) q h)
    · rw [if_neg hc]
      unfold zla at hq
      rw [if_neg hc] at hq
      rw [List.cons_append] at hq
      by_cases hv : v = .null
      · subst hv
        rw [zlp_null] at hq
        exact List.mem_cons_of_mem _ (ih (i + 1) q hq)
      · rw [zlp_cons _ _ hv] at hq
        rcases List.mem_cons.mp hq with h | h
        · exact List.mem_cons.mpr (Or.inl h)
        · exact List.mem_cons_of_mem _ (ih (i + 1) q h)
/-- a contract out of the body's walk -/
theorem zCal_of {E : zE} {M : zM} {d k : Nat} {av : List Value} {h : zH} {Q : Option Value → zH → Prop} {X : String → zH → Prop} (hy : plainName M.1.cls = true) (hlen : (lg_sl av).length ≤ M.2.2.1)
    (body : ∀ a : zAct, zV (E, M, d, k, Q, X, a) 0 0 (zla av ++ List.replicate (M.2.2.1 - (zla av).length) .null) [] h) : zCal E M d k av h Q X := by
  refine vx_ofW (cc := M.2.1) (maxL := M.2.2.1) (ret := M.2.2.2) hy rfl ?_
  intro p e s m args below meth c s₁ B hml hnx hv
  obtain ⟨rfl, hP, hst⟩ := hv
  have hts := atoms_spec (ws := zwM M) B.pre
  have hown : s.vm.findClass M.1.cls = some m.cls := findClass_of_methodNamed B.named
  have hl := lv_entry av (n := M.2.2.1) hlen
  rw [lg_entry_eq]
  exact body (p, e, s, m, av.toArray, below, meth, c) ⟨B.exec, B.bytes, B.returns, hml, hown, fun w hw => hts w (List.mem_cons_of_mem _ hw), B.notSynchronized, hst, hnx⟩ s.heap [] _ hP va_S.rf
    ⟨hl.1, hl.2.1, fun q hq => hl.2.2 q (zla_sub _ av 0 q hq)⟩
