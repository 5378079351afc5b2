/-! THE CELLS: fields and arrays over a state h -/
section ZF
variable {C : zC} {n pc : Nat} {lv st : List Value} {h : zH}
theorem zV_get {ci j idx k N : Nat} {Cn : String} {T : u_T} (hc : vwCl[ci]? = some (Cn, T, N)) (hin : ∀ w ∈ u_ws Cn T N, w ∈ zTs) (hj : j < N ∧ j < znf ci) (hl : Cond.fieldLink (cown C) idx (T j).1 (T j).2.1 (T j).2.2.1 ∈ zTs) (hk : zsh[k]? = some (.inl ci)) (hd : decode (ccc C) pc = .ok (.getfield idx, 3))
    (kk : zV C n (pc + 3) lv (zfv (cE C) h k ci j :: st) h) : zV C n pc lv (zrv (cE C) k :: st) h := fun ok H locs ls hP hS hl0 =>
  va_get (D := eD (cE C)) (ci := ci) (v := zfv (cE C) h k ci j) ok.1 ok.2.1 ok.2.2.2.2.2.1 hin ok.2.2.2.2.1 ok.2.2.2.2.2.2.2.1.1 hP k (zws_at hk) hc j hj.1 (ok.2.2.2.2.2.1 _ hl) (fun _ h9 => h9) (by simp [hj.2]) hd (kk ok H locs ls hP hS hl0)
theorem zfv_set (E : zE) (h : zH) (k ci j : Nat) (v : Int) (N : Nat) (w : Value) (hw : w = zfv E (zup h k j v) k ci j) :
    ((List.range N).map (zfv E h k ci)).set j w = (List.range N).map (zfv E (zup h k j v) k ci) := by
  apply List.ext_getElem?
  intro i
  rw [List.getElem?_set]
  by_cases hj : j = i
  · subst hj
    rw [if_pos rfl]
    by_cases hl : j < N
    · rw [if_pos (by simpa using hl), hw]; simp [hl]
    · rw [if_neg (by simpa using hl)]; simp [hl]
  · rw [if_neg hj]
    by_cases hi : i < N
    · have e : zfv E (zup h k j v) k ci i = zfv E h k ci i := by
        unfold zfv
        rw [zup_ne (h := h) (c := k) (i := j) (c' := k) (i' := i) (v := v) (fun z => hj z.2.symm)]
      simp [hi, e]
    · simp [hi]
/-- a field of ints written -/
theorem zV_puti {ci j idx k N : Nat} {v : Int} {Cn : String} {T : u_T} {ty0 : Nat → FieldType} (hc : vwCl[ci]? = some (Cn, T, N)) (hin : ∀ w ∈ u_ws Cn T N, w ∈ zTs) (hty : ∀ k, k < N → parseFieldDescriptor (T k).2.2.1 = some (ty0 k)) (hnm : ∀ a, a < N → ∀ b, b < N → a ≠ b → (T a).2.1 ≠ (T b).2.1)
    (hj : j < N ∧ j < znf ci) (hl : Cond.fieldLink (cown C) idx (T j).1 (T j).2.1 (T j).2.2.1 ∈ zTs) (hf : (T j).2.2.2 = false) (ht : ty0 j = .int ∧ (zft ci j).1 = 0) (hk : zsh[k]? = some (.inl ci)) (hd : decode (ccc C) pc = .ok (.putfield idx, 3))
    (kk : zV C n (pc + 3) lv st (zup h k j v)) : zV C n pc lv (ziv v :: zrv (cE C) k :: st) h := fun ok H locs ls hP hS hl0 => by
  refine va_put (D := eD (cE C)) (ci := ci) (v := ziv v) (ty := .int) ok.1 ok.2.1 ok.2.2.2.2.2.1 hin ty0 hty hnm ok.2.2.2.2.1 ok.2.2.2.2.2.2.2.1.1 hP (zD_of ok.2.2.2.2.2.2.2.1 h) hS k (zws_at hk) hc j hj.1 (ok.2.2.2.2.2.1 _ hl) (fun _ h9 => h9) hf (by rw [hty j hj.1, ht.1]) rfl rfl (by simp [hj.2]) hd (fun H1 locs1 hP1 hD1 hS1 => ?_)
  rw [zws_set (h := h) (i := j) (v := v) hk (by rw [zfv_set _ _ _ _ _ v _ _ (by unfold zfv; rw [ht.2, zup_same]; rfl)]; rfl)] at hP1
  exact kk ok H1 locs1 ls hP1 hS1 hl0
/-- a field of booleans written -/
theorem zV_putz {ci j idx k N : Nat} {v : Int} {Cn : String} {T : u_T} {ty0 : Nat → FieldType} (hc : vwCl[ci]? = some (Cn, T, N)) (hin : ∀ w ∈ u_ws Cn T N, w ∈ zTs) (hty : ∀ k, k < N → parseFieldDescriptor (T k).2.2.1 = some (ty0 k)) (hnm : ∀ a, a < N → ∀ b, b < N → a ≠ b → (T a).2.1 ≠ (T b).2.1)
    (hj : j < N ∧ j < znf ci) (hl : Cond.fieldLink (cown C) idx (T j).1 (T j).2.1 (T j).2.2.1 ∈ zTs) (hf : (T j).2.2.2 = false) (ht : ty0 j = .boolean ∧ (zft ci j).1 = 1) (hk : zsh[k]? = some (.inl ci)) (hv : v = 0 ∨ v = 1) (hd : decode (ccc C) pc = .ok (.putfield idx, 3))
    (kk : zV C n (pc + 3) lv st (zup h k j v)) : zV C n pc lv (ziv v :: zrv (cE C) k :: st) h := fun ok H locs ls hP hS hl0 => by
  refine va_put (D := eD (cE C)) (ci := ci) (v := ziv v) (ty := .boolean) ok.1 ok.2.1 ok.2.2.2.2.2.1 hin ty0 hty hnm ok.2.2.2.2.1 ok.2.2.2.2.2.2.2.1.1 hP (zD_of ok.2.2.2.2.2.2.2.1 h) hS k (zws_at hk) hc j hj.1 (ok.2.2.2.2.2.1 _ hl) (fun _ h9 => h9) hf (by rw [hty j hj.1, ht.1]) (znar_z hv) (by rcases hv with rfl | rfl <;> rfl) (by simp [hj.2]) hd (fun H1 locs1 hP1 hD1 hS1 => ?_)
  rw [zws_set (h := h) (i := j) (v := v) hk (by rw [zfv_set _ _ _ _ _ v _ _ (by unfold zfv; rw [ht.2, zup_same]; rfl)]; rfl)] at hP1
  exact kk ok H1 locs1 ls hP1 hS1 hl0
/-- a field of cells written: h names the cell -/
theorem zV_putr {ci j idx k N t : Nat} {Cn : String} {T : u_T} {ty0 : Nat → FieldType} (hc : vwCl[ci]? = some (Cn, T, N)) (hin : ∀ w ∈ u_ws Cn T N, w ∈ zTs) (hty : ∀ k, k < N → parseFieldDescriptor (T k).2.2.1 = some (ty0 k)) (hnm : ∀ a, a < N → ∀ b, b < N → a ≠ b → (T a).2.1 ≠ (T b).2.1)
    (hj : j < N ∧ j < znf ci) (hl : Cond.fieldLink (cown C) idx (T j).1 (T j).2.1 (T j).2.2.1 ∈ zTs) (hf : (T j).2.2.2 = false) (ht : narrow (ty0 j) (.ref 0) = .ref 0 ∧ (∀ a, narrow (ty0 j) (.ref a) = .ref a) ∧ (∀ a, fits (ty0 j) (.ref a) = true) ∧ (zft ci j).1 = 3) (hk : zsh[k]? = some (.inl ci)) (hd : decode (ccc C) pc = .ok (.putfield idx, 3))
    (kk : zV C n (pc + 3) lv st (zup h k j (t : Int))) : zV C n pc lv (zrv (cE C) t :: zrv (cE C) k :: st) h := fun ok H locs ls hP hS hl0 => by
  refine va_put (D := eD (cE C)) (ci := ci) (v := zrv (cE C) t) (ty := ty0 j) ok.1 ok.2.1 ok.2.2.2.2.2.1 hin ty0 hty hnm ok.2.2.2.2.1 ok.2.2.2.2.2.2.2.1.1 hP (zD_of ok.2.2.2.2.2.2.2.1 h) hS k (zws_at hk) hc j hj.1 (ok.2.2.2.2.2.1 _ hl) (fun _ h9 => h9) hf (hty j hj.1) (ht.2.1 _) (ht.2.2.1 _) (by simp [hj.2]) hd (fun H1 locs1 hP1 hD1 hS1 => ?_)
  rw [zws_set (h := h) (i := j) (v := (t : Int)) hk (by rw [zfv_set _ _ _ _ _ (t : Int) _ _ (by unfold zfv; rw [ht.2.2.2, zup_same]; rfl)]; rfl)] at hP1
  exact kk ok H1 locs1 ls hP1 hS1 hl0
/-! arrays -/
theorem zin {i : Int} {N : Nat} (h0 : 0 ≤ i) (hN : i < N) (hb : N ≤ 2147483647) : vp_in (Int32.ofInt i) N ∧ (Int32.ofInt i).toNatClampNeg = i.toNat := by
  have e : (Int32.ofInt i).toInt = i := zn_of (by omega) (by omega)
  refine ⟨vp_in_iff.mpr ⟨by rw [e]; exact h0, by rw [e]; exact hN⟩, ?_⟩
  show (Int32.ofInt i).toInt.toNat = i.toNat
  rw [e]
theorem zV_iaload {k N : Nat} {i : Int} (hk : zsh[k]? = some (.inr (0, N))) (hi : 0 ≤ i ∧ i < N) (hb : N ≤ 2147483647) (hd : decode (ccc C) pc = .ok (.iaload, 1)) (kk : zV C n (pc + 1) lv (ziv (h k i.toNat) :: st) h) : zV C n pc lv (ziv i :: zrv (cE C) k :: st) h := fun ok H locs ls hP hS hl => by
  obtain ⟨h1, h2⟩ := zin hi.1 hi.2 hb
  refine va_iald (D := eD (cE C)) ok.1 ok.2.1 ok.2.2.2.2.2.2.2.1.1 hP k 0 (zws_at hk) rfl h1 hd ?_
  rw [h2]
  exact kk ok H locs ls hP hS hl
theorem zV_zaload {k N : Nat} {i : Int} (hk : zsh[k]? = some (.inr (1, N))) (hi : 0 ≤ i ∧ i < N) (hb : N ≤ 2147483647) (hd : decode (ccc C) pc = .ok (.baload, 1)) (kk : zV C n (pc + 1) lv (ziv (h k i.toNat) :: st) h) : zV C n pc lv (ziv i :: zrv (cE C) k :: st) h := fun ok H locs ls hP hS hl => by
  obtain ⟨h1, h2⟩ := zin hi.1 hi.2 hb
  refine va_zald (D := eD (cE C)) ok.1 ok.2.1 ok.2.2.2.2.2.2.2.1.1 hP k 1 (zws_at hk) rfl h1 hd ?_
  rw [h2]
  exact kk ok H locs ls hP hS hl
theorem zV_laload {k N : Nat} {i : Int} (hk : zsh[k]? = some (.inr (2, N))) (hi : 0 ≤ i ∧ i < N) (hb : N ≤ 2147483647) (hd : decode (ccc C) pc = .ok (.laload, 1)) (kk : zV C n (pc + 1) lv (zlv (h k i.toNat) :: st) h) : zV C n pc lv (ziv i :: zrv (cE C) k :: st) h := fun ok H locs ls hP hS hl => by
  obtain ⟨h1, h2⟩ := zin hi.1 hi.2 hb
  refine va_lald (D := eD (cE C)) ok.1 ok.2.1 ok.2.2.2.2.2.2.2.1.1 hP k 2 (zws_at hk) rfl h1 hd ?_
  rw [h2]
  exact kk ok H locs ls hP hS hl
theorem zV_saload {k N : Nat} {i : Int} (hk : zsh[k]? = some (.inr (3, N))) (hi : 0 ≤ i ∧ i < N) (hb : N ≤ 2147483647) (hd : decode (ccc C) pc = .ok (.aaload, 1)) (kk : zV C n (pc + 1) lv (.ref (eK (cE C) (h k i.toNat).toNat) :: st) h) : zV C n pc lv (ziv i :: zrv (cE C) k :: st) h := fun ok H locs ls hP hS hl => by
  obtain ⟨h1, h2⟩ := zin hi.1 hi.2 hb
  refine va_aldq (D := eD (cE C)) (C := "java/lang/String") ok.1 ok.2.1 ok.2.2.2.2.2.2.2.1.1 hP k 3 (zws_at hk) rfl h1 hd ?_
  rw [h2]
  exact kk ok H locs ls hP hS hl
theorem zupd (h : zH) (k i : Nat) (v : Int) : upd (fun j => Int32.ofInt (h k j)) i (Int32.ofInt v) = fun j => Int32.ofInt (zup h k i v k j) := by
  funext j
  by_cases hj : j = i
  · subst hj; rw [zup_same, pk_us]
  · rw [pk_un hj, zup_ne (fun z => hj z.2)]
theorem zV_iastore {k N : Nat} {i v : Int} (hk : zsh[k]? = some (.inr (0, N))) (hi : 0 ≤ i ∧ i < N) (hb : N ≤ 2147483647) (hd : decode (ccc C) pc = .ok (.iastore, 1)) (kk : zV C n (pc + 1) lv st (zup h k i.toNat v)) : zV C n pc lv (ziv v :: ziv i :: zrv (cE C) k :: st) h := fun ok H locs ls hP hS hl => by
  obtain ⟨h1, h2⟩ := zin hi.1 hi.2 hb
  refine va_iast (D := eD (cE C)) ok.1 ok.2.1 ok.2.2.2.2.2.2.2.1.1 hP (zD_of ok.2.2.2.2.2.2.2.1 h) hS k 0 (zws_at hk) rfl h1 hd (fun H1 locs1 hP1 hD1 hS1 => ?_)
  rw [h2, zws_set (h := h) (i := i.toNat) (v := v) hk (by rw [zupd]; rfl)] at hP1
  exact kk ok H1 locs1 ls hP1 hS1 hl
theorem zV_zastore {k N : Nat} {i v : Int} (hk : zsh[k]? = some (.inr (1, N))) (hi : 0 ≤ i ∧ i < N) (hb : N ≤ 2147483647) (hv : v = 0 ∨ v = 1) (hd : decode (ccc C) pc = .ok (.bastore, 1)) (kk : zV C n (pc + 1) lv st (zup h k i.toNat v)) : zV C n pc lv (ziv v :: ziv i :: zrv (cE C) k :: st) h := fun ok H locs ls hP hS hl => by
  obtain ⟨h1, h2⟩ := zin hi.1 hi.2 hb
  refine va_zast (D := eD (cE C)) ok.1 ok.2.1 ok.2.2.2.2.2.2.2.1.1 hP (zD_of ok.2.2.2.2.2.2.2.1 h) hS k 1 (zws_at hk) rfl h1 hd (fun H1 locs1 hP1 hD1 hS1 => ?_)
  have hnar : vp_nar .boolean (Int32.ofInt v) = Int32.ofInt v := by rcases hv with rfl | rfl <;> rfl
  rw [h2, hnar, zws_set (h := h) (i := i.toNat) (v := v) hk (by rw [zupd]; rfl)] at hP1
  exact kk ok H1 locs1 ls hP1 hS1 hl
theorem zV_lastore {k N : Nat} {i v : Int} (hk : zsh[k]? = some (.inr (2, N))) (hi : 0 ≤ i ∧ i < N) (hb : N ≤ 2147483647) (hd : decode (ccc C) pc = .ok (.lastore, 1)) (kk : zV C n (pc + 1) lv st (zup h k i.toNat v)) : zV C n pc lv (zlv v :: ziv i :: zrv (cE C) k :: st) h := fun ok H locs ls hP hS hl => by
  obtain ⟨h1, h2⟩ := zin hi.1 hi.2 hb
  refine va_last (D := eD (cE C)) ok.1 ok.2.1 ok.2.2.2.2.2.2.2.1.1 hP (zD_of ok.2.2.2.2.2.2.2.1 h) hS k 2 (zws_at hk) rfl h1 hd (fun H1 locs1 hP1 hD1 hS1 => ?_)
  have e : vp_updL (fun j => Int64.ofInt (h k j)) i.toNat (Int64.ofInt v) = fun j => Int64.ofInt (zup h k i.toNat v k j) := by
    funext j
    by_cases hj : j = i.toNat
    · subst hj; rw [zup_same, pk_uLs]
    · rw [pk_uLn hj, zup_ne (fun z => hj z.2)]
  rw [h2, zws_set (h := h) (i := i.toNat) (v := v) hk (by rw [e]; rfl)] at hP1
  exact kk ok H1 locs1 ls hP1 hS1 hl
theorem zV_alen {k N t : Nat} (hk : zsh[k]? = some (.inr (t, N))) (hd : decode (ccc C) pc = .ok (.arraylength, 1)) (kk : zV C n (pc + 1) lv (ziv (N : Int) :: st) h) : zV C n pc lv (zrv (cE C) k :: st) h := fun ok H locs ls hP hS hl => by
  have e : ∀ N : Nat, Int32.ofNat N = Int32.ofInt (N : Int) := fun N => (Int32.ofInt_eq_ofNat).symm
  match t, hk with
  | 0, hk => exact va_alen (D := eD (cE C)) ok.1 ok.2.1 ok.2.2.2.2.2.2.2.1.1 hP k 0 (zws_at hk) (ty := .int) rfl (e N) hd (kk ok H locs ls hP hS hl)
  | 1, hk => exact va_alen (D := eD (cE C)) ok.1 ok.2.1 ok.2.2.2.2.2.2.2.1.1 hP k 1 (zws_at hk) (ty := .boolean) rfl (e N) hd (kk ok H locs ls hP hS hl)
  | 2, hk => exact va_alen (D := eD (cE C)) ok.1 ok.2.1 ok.2.2.2.2.2.2.2.1.1 hP k 2 (zws_at hk) (ty := .long) rfl (e N) hd (kk ok H locs ls hP hS hl)
  | t + 3, hk => exact va_alen (D := eD (cE C)) ok.1 ok.2.1 ok.2.2.2.2.2.2.2.1.1 hP k 3 (zws_at hk) (ty := .object "java/lang/String") rfl (e N) hd (kk ok H locs ls hP hS hl)
/-- a number of the constant pool -/
theorem zV_ldc {idx : Nat} {v : Int} (hc : Cond.constant (cown C) idx (Int32.ofInt v) ∈ zTs) (hd : decode (ccc C) pc = .ok (.ldc idx, 2)) (kk : zV C n (pc + 2) lv (ziv v :: st) h) : zV C n pc lv st h := fun ok H locs ls hP hS hl =>
  lv_ldc ok.1 ok.2.1 ok.2.2.2.2.1 (ok.2.2.2.2.2.1 _ hc) hd (kk ok H locs ls hP hS hl)
theorem zV_ldc2 {idx : Nat} {v : Int} (hc : Cond.constantLong (cown C) idx (Int64.ofInt v) ∈ zTs) (hd : decode (ccc C) pc = .ok (.ldc2_w idx, 3)) (kk : zV C n (pc + 3) lv (zlv v :: st) h) : zV C n pc lv st h := fun ok H locs ls hP hS hl =>
  lv_ldc2 ok.1 ok.2.1 ok.2.2.2.2.1 (ok.2.2.2.2.2.1 _ hc) hd (kk ok H locs ls hP hS hl)
end ZF
