/-! THE LAW'S OWN BODY: the judgement -/
def zVl (C : zC) (n sl pc : Nat) (lv st : List Value) (h : zH) : Prop :=
  zOK C → ∀ (H : Heap) (locs : List Loc) (ls : Array Slot), va_P (eD (cE C)) vwCl (zws (cE C) h) H → va_S (zA (cE C)) (as' C).heap H locs → zl ls (cM C).2.2.1 lv →
    W (ap C) (el (cE C)) (ae C) room_1 (as' C) (am C) (aar C) (abl C) (ame C) (aco C) H locs n sl (lw_Z (abl C) (aar C) (as' C)) (F0 (am C) pc ls st)
section ZVL
variable {C : zC} {n sl pc : Nat} {lv st : List Value} {h : zH}
theorem zL_iconst {v : Int} (hd : decode (ccc C) pc = .ok (.iconst v, 1)) (k : zVl C n sl (pc + 1) lv (ziv v :: st) h) : zVl C n sl pc lv st h := fun ok H locs ls hP hS hl =>
  lv_iconst ok.1 ok.2.1 hd rfl (k ok H locs ls hP hS hl)
theorem zL_bipush {v : Int} (hd : decode (ccc C) pc = .ok (.bipush v, 2)) (hv : (Int8.ofInt v).toInt32 = Int32.ofInt v) (k : zVl C n sl (pc + 2) lv (ziv v :: st) h) : zVl C n sl pc lv st h := fun ok H locs ls hP hS hl =>
  lv_bipush ok.1 ok.2.1 hd hv (k ok H locs ls hP hS hl)
theorem zL_sipush {v : Int} (hd : decode (ccc C) pc = .ok (.sipush v, 3)) (hv : (Int16.ofInt v).toInt32 = Int32.ofInt v) (k : zVl C n sl (pc + 3) lv (ziv v :: st) h) : zVl C n sl pc lv st h := fun ok H locs ls hP hS hl =>
  lv_sipush ok.1 ok.2.1 hd hv (k ok H locs ls hP hS hl)
theorem zL_iload_n {k : Fin 4} {i : Nat} {v : Int} (hd : decode (ccc C) pc = .ok (.iload_n k, 1)) (hi : (k : Nat) = i) (hv : lv[i]? = some (ziv v)) (kk : zVl C n sl (pc + 1) lv (ziv v :: st) h) : zVl C n sl pc lv st h := fun ok H locs ls hP hS hl =>
  lv_iload_n ok.1 ok.2.1 hd hi (zl_at hl hv (ziv_nn v)) (kk ok H locs ls hP hS hl)
theorem zL_iload {i : Nat} {v : Int} (hd : decode (ccc C) pc = .ok (.iload i, 2)) (hv : lv[i]? = some (ziv v)) (kk : zVl C n sl (pc + 2) lv (ziv v :: st) h) : zVl C n sl pc lv st h := fun ok H locs ls hP hS hl =>
  lv_iload ok.1 ok.2.1 hd (zl_at hl hv (ziv_nn v)) (kk ok H locs ls hP hS hl)
theorem zL_lload_n {k : Fin 4} {i : Nat} {v : Int} (hd : decode (ccc C) pc = .ok (.lload_n k, 1)) (hi : (k : Nat) = i) (hv : lv[i]? = some (zlv v)) (kk : zVl C n sl (pc + 1) lv (zlv v :: st) h) : zVl C n sl pc lv st h := fun ok H locs ls hP hS hl =>
  lv_lload_n ok.1 ok.2.1 hd hi (zl_at hl hv (zlv_nn v)) (kk ok H locs ls hP hS hl)
theorem zL_lload {i : Nat} {v : Int} (hd : decode (ccc C) pc = .ok (.lload i, 2)) (hv : lv[i]? = some (zlv v)) (kk : zVl C n sl (pc + 2) lv (zlv v :: st) h) : zVl C n sl pc lv st h := fun ok H locs ls hP hS hl =>
  lv_lload ok.1 ok.2.1 hd (zl_at hl hv (zlv_nn v)) (kk ok H locs ls hP hS hl)
theorem zL_aload_n {k : Fin 4} {i a : Nat} (hd : decode (ccc C) pc = .ok (.aload_n k, 1)) (hi : (k : Nat) = i) (hv : lv[i]? = some (.ref a)) (kk : zVl C n sl (pc + 1) lv (.ref a :: st) h) : zVl C n sl pc lv st h := fun ok H locs ls hP hS hl =>
  lv_aload_n ok.1 ok.2.1 hd hi (zl_at hl hv (fun q => by cases q)) (kk ok H locs ls hP hS hl)
theorem zL_aload {i a : Nat} (hd : decode (ccc C) pc = .ok (.aload i, 2)) (hv : lv[i]? = some (.ref a)) (kk : zVl C n sl (pc + 2) lv (.ref a :: st) h) : zVl C n sl pc lv st h := fun ok H locs ls hP hS hl =>
  lv_aload ok.1 ok.2.1 hd (zl_at hl hv (fun q => by cases q)) (kk ok H locs ls hP hS hl)
theorem zL_aload_nr {k : Fin 4} {i a : Nat} (hd : decode (ccc C) pc = .ok (.aload_n k, 1)) (hi : (k : Nat) = i) (hv : lv[i]? = some (zrv (cE C) a)) (kk : zVl C n sl (pc + 1) lv (zrv (cE C) a :: st) h) : zVl C n sl pc lv st h := zL_aload_n hd hi hv kk
theorem zL_aload_r {i a : Nat} (hd : decode (ccc C) pc = .ok (.aload i, 2)) (hv : lv[i]? = some (zrv (cE C) a)) (kk : zVl C n sl (pc + 2) lv (zrv (cE C) a :: st) h) : zVl C n sl pc lv st h := zL_aload hd hv kk
theorem zL_istore_n {k : Fin 4} {i : Nat} {v : Int} (hd : decode (ccc C) pc = .ok (.istore_n k, 1)) (hi : (k : Nat) = i) (hn : i < (cM C).2.2.1) (hp : (lv.getD (i - 1) .null).category = 1) (kk : zVl C n sl (pc + 1) (lv.set i (ziv v)) st h) : zVl C n sl pc lv (ziv v :: st) h := fun ok H locs ls hP hS hl =>
  lv_istore_n ok.1 ok.2.1 hd hi hl hn rfl (fun ls' hl' => kk ok H locs ls' hP hS (zl_set hp hl'))
theorem zL_istore {i : Nat} {v : Int} (hd : decode (ccc C) pc = .ok (.istore i, 2)) (hn : i < (cM C).2.2.1) (hp : (lv.getD (i - 1) .null).category = 1) (kk : zVl C n sl (pc + 2) (lv.set i (ziv v)) st h) : zVl C n sl pc lv (ziv v :: st) h := fun ok H locs ls hP hS hl =>
  lv_istore ok.1 ok.2.1 hd hl hn rfl (fun ls' hl' => kk ok H locs ls' hP hS (zl_set hp hl'))
theorem zL_astore_n {k : Fin 4} {i a : Nat} (hd : decode (ccc C) pc = .ok (.astore_n k, 1)) (hi : (k : Nat) = i) (hn : i < (cM C).2.2.1) (hp : (lv.getD (i - 1) .null).category = 1) (kk : zVl C n sl (pc + 1) (lv.set i (.ref a)) st h) : zVl C n sl pc lv (.ref a :: st) h := fun ok H locs ls hP hS hl =>
  lv_astore_n ok.1 ok.2.1 hd hi hl hn rfl (fun ls' hl' => kk ok H locs ls' hP hS (zl_set hp hl'))
theorem zL_astore {i a : Nat} (hd : decode (ccc C) pc = .ok (.astore i, 2)) (hn : i < (cM C).2.2.1) (hp : (lv.getD (i - 1) .null).category = 1) (kk : zVl C n sl (pc + 2) (lv.set i (.ref a)) st h) : zVl C n sl pc lv (.ref a :: st) h := fun ok H locs ls hP hS hl =>
  lv_astore ok.1 ok.2.1 hd hl hn rfl (fun ls' hl' => kk ok H locs ls' hP hS (zl_set hp hl'))
theorem zL_astore_nr {k : Fin 4} {i a : Nat} (hd : decode (ccc C) pc = .ok (.astore_n k, 1)) (hi : (k : Nat) = i) (hn : i < (cM C).2.2.1) (hp : (lv.getD (i - 1) .null).category = 1) (kk : zVl C n sl (pc + 1) (lv.set i (zrv (cE C) a)) st h) : zVl C n sl pc lv (zrv (cE C) a :: st) h := zL_astore_n hd hi hn hp kk
theorem zL_astore_r {i a : Nat} (hd : decode (ccc C) pc = .ok (.astore i, 2)) (hn : i < (cM C).2.2.1) (hp : (lv.getD (i - 1) .null).category = 1) (kk : zVl C n sl (pc + 2) (lv.set i (zrv (cE C) a)) st h) : zVl C n sl pc lv (zrv (cE C) a :: st) h := zL_astore hd hn hp kk
theorem zL_iinc {i : Nat} {v w : Int} (hd : decode (ccc C) pc = .ok (.iinc i w, 3)) (hv : lv[i]? = some (ziv v)) (hn : i < (cM C).2.2.1) (hp : (lv.getD (i - 1) .null).category = 1) (kk : zVl C n sl (pc + 3) (lv.set i (ziv (v + w))) st h) : zVl C n sl pc lv st h := fun ok H locs ls hP hS hl => by
  obtain ⟨t, ht⟩ := List.getElem?_of_mem (zlp_mem.mpr ⟨i, (Nat.zero_add i).symm, hv, ziv_nn v⟩ : (i, ziv v) ∈ zlp 0 lv)
  exact lv_iinc ok.1 ok.2.1 hd hl ht (Int32.ofInt_add v w).symm hn rfl (fun ls' hl' => kk ok H locs ls' hP hS (zl_set hp hl'))
theorem zL_iadd {x y : Int} (hd : decode (ccc C) pc = .ok (.iadd, 1)) (k : zVl C n sl (pc + 1) lv (ziv (x + y) :: st) h) : zVl C n sl pc lv (ziv y :: ziv x :: st) h := fun ok H locs ls hP hS hl =>
  lv_iadd ok.1 ok.2.1 hd (by rw [← Int32.ofInt_add]; exact k ok H locs ls hP hS hl)
theorem zL_isub {x y : Int} (hd : decode (ccc C) pc = .ok (.isub, 1)) (k : zVl C n sl (pc + 1) lv (ziv (x - y) :: st) h) : zVl C n sl pc lv (ziv y :: ziv x :: st) h := fun ok H locs ls hP hS hl =>
  lv_isub ok.1 ok.2.1 hd (by rw [← Int32.ofInt_sub]; exact k ok H locs ls hP hS hl)
theorem zL_imul {x y : Int} (hd : decode (ccc C) pc = .ok (.imul, 1)) (k : zVl C n sl (pc + 1) lv (ziv (x * y) :: st) h) : zVl C n sl pc lv (ziv y :: ziv x :: st) h := fun ok H locs ls hP hS hl =>
  lv_imul ok.1 ok.2.1 hd (by rw [← Int32.ofInt_mul]; exact k ok H locs ls hP hS hl)
theorem zL_ineg {x : Int} (hd : decode (ccc C) pc = .ok (.ineg, 1)) (k : zVl C n sl (pc + 1) lv (ziv (-x) :: st) h) : zVl C n sl pc lv (ziv x :: st) h := fun ok H locs ls hP hS hl =>
  lv_ineg ok.1 ok.2.1 hd (by rw [← Int32.ofInt_neg]; exact k ok H locs ls hP hS hl)
theorem zL_iand {x y : Int} (hd : decode (ccc C) pc = .ok (.iand, 1)) (k : zVl C n sl (pc + 1) lv (ziv (zand x y) :: st) h) : zVl C n sl pc lv (ziv y :: ziv x :: st) h := fun ok H locs ls hP hS hl =>
  lv_iand ok.1 ok.2.1 hd (by have := k ok H locs ls hP hS hl; rw [zand, ziv_toInt] at this; exact this)
theorem zL_ior {x y : Int} (hd : decode (ccc C) pc = .ok (.ior, 1)) (k : zVl C n sl (pc + 1) lv (ziv (zor x y) :: st) h) : zVl C n sl pc lv (ziv y :: ziv x :: st) h := fun ok H locs ls hP hS hl =>
  lv_ior ok.1 ok.2.1 hd (by have := k ok H locs ls hP hS hl; rw [zor, ziv_toInt] at this; exact this)
theorem zL_ixor {x y : Int} (hd : decode (ccc C) pc = .ok (.ixor, 1)) (k : zVl C n sl (pc + 1) lv (ziv (zxor x y) :: st) h) : zVl C n sl pc lv (ziv y :: ziv x :: st) h := fun ok H locs ls hP hS hl =>
  lv_ixor ok.1 ok.2.1 hd (by have := k ok H locs ls hP hS hl; rw [zxor, ziv_toInt] at this; exact this)
theorem zL_ishl {x y : Int} (hd : decode (ccc C) pc = .ok (.ishl, 1)) (k : zVl C n sl (pc + 1) lv (ziv (zshl x y) :: st) h) : zVl C n sl pc lv (ziv y :: ziv x :: st) h := fun ok H locs ls hP hS hl =>
  lv_ishl ok.1 ok.2.1 hd (by have := k ok H locs ls hP hS hl; rw [zshl, ziv_toInt] at this; exact this)
theorem zL_ishr {x y : Int} (hd : decode (ccc C) pc = .ok (.ishr, 1)) (k : zVl C n sl (pc + 1) lv (ziv (zshr x y) :: st) h) : zVl C n sl pc lv (ziv y :: ziv x :: st) h := fun ok H locs ls hP hS hl =>
  lv_ishr ok.1 ok.2.1 hd (by have := k ok H locs ls hP hS hl; rw [zshr, ziv_toInt] at this; exact this)
theorem zL_iushr {x y : Int} (hd : decode (ccc C) pc = .ok (.iushr, 1)) (k : zVl C n sl (pc + 1) lv (ziv (zushr x y) :: st) h) : zVl C n sl pc lv (ziv y :: ziv x :: st) h := fun ok H locs ls hP hS hl =>
  lv_iushr ok.1 ok.2.1 hd rfl (by have := k ok H locs ls hP hS hl; rw [zushr, ziv_toInt] at this; exact this)
theorem zL_idiv {x y : Int} (hd : decode (ccc C) pc = .ok (.idiv, 1)) (hy : zn y ≠ 0) (k : zVl C n sl (pc + 1) lv (ziv (zdiv x y) :: st) h) : zVl C n sl pc lv (ziv y :: ziv x :: st) h := fun ok H locs ls hP hS hl =>
  lv_idiv ok.1 ok.2.1 hd (zne0 hy) (by have := k ok H locs ls hP hS hl; rw [zdiv, ziv_toInt] at this; exact this)
theorem zL_irem {x y : Int} (hd : decode (ccc C) pc = .ok (.irem, 1)) (hy : zn y ≠ 0) (k : zVl C n sl (pc + 1) lv (ziv (zrem x y) :: st) h) : zVl C n sl pc lv (ziv y :: ziv x :: st) h := fun ok H locs ls hP hS hl =>
  lv_irem ok.1 ok.2.1 hd (zne0 hy) (by have := k ok H locs ls hP hS hl; rw [zrem, ziv_toInt] at this; exact this)
theorem zL_dup {v : Value} (hd : decode (ccc C) pc = .ok (.dup, 1)) (hv : v.category = 1) (k : zVl C n sl (pc + 1) lv (v :: v :: st) h) : zVl C n sl pc lv (v :: st) h := fun ok H locs ls hP hS hl =>
  lv_dup ok.1 ok.2.1 hd hv (k ok H locs ls hP hS hl)
theorem zL_dup2 {v w : Value} (hd : decode (ccc C) pc = .ok (.dup2, 1)) (hv : v.category = 1) (hw : w.category = 1) (k : zVl C n sl (pc + 1) lv (v :: w :: v :: w :: st) h) : zVl C n sl pc lv (v :: w :: st) h := fun ok H locs ls hP hS hl =>
  lv_dup2_11 ok.1 ok.2.1 hd hv hw (k ok H locs ls hP hS hl)
theorem zL_pop {v : Value} (hd : decode (ccc C) pc = .ok (.pop, 1)) (hv : v.category = 1) (k : zVl C n sl (pc + 1) lv st h) : zVl C n sl pc lv (v :: st) h := fun ok H locs ls hP hS hl =>
  lv_pop ok.1 ok.2.1 hd hv (k ok H locs ls hP hS hl)
theorem zL_goto {off : Int} {tgt : Nat} (hd : decode (ccc C) pc = .ok (.goto off, 3)) (ht : (pc : Int) + off = (tgt : Int)) (k : zVl C n sl tgt lv st h) : zVl C n sl pc lv st h := fun ok H locs ls hP hS hl =>
  lv_goto ok.1 ok.2.1 hd ht (k ok H locs ls hP hS hl)
theorem zL_icmp_eq {x y : Int} {off : Int} {tgt : Nat} (hd : decode (ccc C) pc = .ok (.if_icmp .eq off, 3)) (ht : (pc : Int) + off = (tgt : Int)) (kt : zn x = zn y → zVl C n sl tgt lv st h) (kf : ¬ zn x = zn y → zVl C n sl (pc + 3) lv st h) : zVl C n sl pc lv (ziv y :: ziv x :: st) h := fun ok H locs ls hP hS hl =>
  lv_icmp_eq ok.1 ok.2.1 hd ht (fun q => kt ((zo_eq x y).mp q) ok H locs ls hP hS hl) (fun q => kf (fun z => q ((zo_eq x y).mpr z)) ok H locs ls hP hS hl)
theorem zS_icmp_eq {x y : Int} {off : Int} {tgt : Nat} (hd : decode (ccc C) pc = .ok (.if_icmp .eq off, 3)) (ht : (pc : Int) + off = (tgt : Int)) (hx : -2147483648 ≤ x ∧ x ≤ 2147483647) (hy : -2147483648 ≤ y ∧ y ≤ 2147483647) (kt : x = y → zVl C n sl tgt lv st h) (kf : ¬ x = y → zVl C n sl (pc + 3) lv st h) : zVl C n sl pc lv (ziv y :: ziv x :: st) h :=
  zL_icmp_eq hd ht (by rw [zn_of hx.1 hx.2, zn_of hy.1 hy.2]; exact kt) (by rw [zn_of hx.1 hx.2, zn_of hy.1 hy.2]; exact kf)
theorem zL_icmp_lt {x y : Int} {off : Int} {tgt : Nat} (hd : decode (ccc C) pc = .ok (.if_icmp .lt off, 3)) (ht : (pc : Int) + off = (tgt : Int)) (kt : zn x < zn y → zVl C n sl tgt lv st h) (kf : ¬ zn x < zn y → zVl C n sl (pc + 3) lv st h) : zVl C n sl pc lv (ziv y :: ziv x :: st) h := fun ok H locs ls hP hS hl =>
  lv_icmp_lt ok.1 ok.2.1 hd ht (fun q => kt ((zo_lt x y).mp q) ok H locs ls hP hS hl) (fun q => kf (fun z => q ((zo_lt x y).mpr z)) ok H locs ls hP hS hl)
theorem zS_icmp_lt {x y : Int} {off : Int} {tgt : Nat} (hd : decode (ccc C) pc = .ok (.if_icmp .lt off, 3)) (ht : (pc : Int) + off = (tgt : Int)) (hx : -2147483648 ≤ x ∧ x ≤ 2147483647) (hy : -2147483648 ≤ y ∧ y ≤ 2147483647) (kt : x < y → zVl C n sl tgt lv st h) (kf : ¬ x < y → zVl C n sl (pc + 3) lv st h) : zVl C n sl pc lv (ziv y :: ziv x :: st) h :=
  zL_icmp_lt hd ht (by rw [zn_of hx.1 hx.2, zn_of hy.1 hy.2]; exact kt) (by rw [zn_of hx.1 hx.2, zn_of hy.1 hy.2]; exact kf)
theorem zL_icmp_ge {x y : Int} {off : Int} {tgt : Nat} (hd : decode (ccc C) pc = .ok (.if_icmp .ge off, 3)) (ht : (pc : Int) + off = (tgt : Int)) (kt : zn y ≤ zn x → zVl C n sl tgt lv st h) (kf : ¬ zn y ≤ zn x → zVl C n sl (pc + 3) lv st h) : zVl C n sl pc lv (ziv y :: ziv x :: st) h := fun ok H locs ls hP hS hl =>
  lv_icmp_ge ok.1 ok.2.1 hd ht (fun q => kt ((zo_le y x).mp q) ok H locs ls hP hS hl) (fun q => kf (fun z => q ((zo_le y x).mpr z)) ok H locs ls hP hS hl)
theorem zS_icmp_ge {x y : Int} {off : Int} {tgt : Nat} (hd : decode (ccc C) pc = .ok (.if_icmp .ge off, 3)) (ht : (pc : Int) + off = (tgt : Int)) (hx : -2147483648 ≤ x ∧ x ≤ 2147483647) (hy : -2147483648 ≤ y ∧ y ≤ 2147483647) (kt : y ≤ x → zVl C n sl tgt lv st h) (kf : ¬ y ≤ x → zVl C n sl (pc + 3) lv st h) : zVl C n sl pc lv (ziv y :: ziv x :: st) h :=
  zL_icmp_ge hd ht (by rw [zn_of hx.1 hx.2, zn_of hy.1 hy.2]; exact kt) (by rw [zn_of hx.1 hx.2, zn_of hy.1 hy.2]; exact kf)
theorem zL_icmp_gt {x y : Int} {off : Int} {tgt : Nat} (hd : decode (ccc C) pc = .ok (.if_icmp .gt off, 3)) (ht : (pc : Int) + off = (tgt : Int)) (kt : zn y < zn x → zVl C n sl tgt lv st h) (kf : ¬ zn y < zn x → zVl C n sl (pc + 3) lv st h) : zVl C n sl pc lv (ziv y :: ziv x :: st) h := fun ok H locs ls hP hS hl =>
  lv_icmp_gt ok.1 ok.2.1 hd ht (fun q => kt ((zo_lt y x).mp q) ok H locs ls hP hS hl) (fun q => kf (fun z => q ((zo_lt y x).mpr z)) ok H locs ls hP hS hl)
theorem zS_icmp_gt {x y : Int} {off : Int} {tgt : Nat} (hd : decode (ccc C) pc = .ok (.if_icmp .gt off, 3)) (ht : (pc : Int) + off = (tgt : Int)) (hx : -2147483648 ≤ x ∧ x ≤ 2147483647) (hy : -2147483648 ≤ y ∧ y ≤ 2147483647) (kt : y < x → zVl C n sl tgt lv st h) (kf : ¬ y < x → zVl C n sl (pc + 3) lv st h) : zVl C n sl pc lv (ziv y :: ziv x :: st) h :=
  zL_icmp_gt hd ht (by rw [zn_of hx.1 hx.2, zn_of hy.1 hy.2]; exact kt) (by rw [zn_of hx.1 hx.2, zn_of hy.1 hy.2]; exact kf)
theorem zL_icmp_le {x y : Int} {off : Int} {tgt : Nat} (hd : decode (ccc C) pc = .ok (.if_icmp .le off, 3)) (ht : (pc : Int) + off = (tgt : Int)) (kt : zn x ≤ zn y → zVl C n sl tgt lv st h) (kf : ¬ zn x ≤ zn y → zVl C n sl (pc + 3) lv st h) : zVl C n sl pc lv (ziv y :: ziv x :: st) h := fun ok H locs ls hP hS hl =>
  lv_icmp_le ok.1 ok.2.1 hd ht (fun q => kt ((zo_le x y).mp q) ok H locs ls hP hS hl) (fun q => kf (fun z => q ((zo_le x y).mpr z)) ok H locs ls hP hS hl)
theorem zS_icmp_le {x y : Int} {off : Int} {tgt : Nat} (hd : decode (ccc C) pc = .ok (.if_icmp .le off, 3)) (ht : (pc : Int) + off = (tgt : Int)) (hx : -2147483648 ≤ x ∧ x ≤ 2147483647) (hy : -2147483648 ≤ y ∧ y ≤ 2147483647) (kt : x ≤ y → zVl C n sl tgt lv st h) (kf : ¬ x ≤ y → zVl C n sl (pc + 3) lv st h) : zVl C n sl pc lv (ziv y :: ziv x :: st) h :=
  zL_icmp_le hd ht (by rw [zn_of hx.1 hx.2, zn_of hy.1 hy.2]; exact kt) (by rw [zn_of hx.1 hx.2, zn_of hy.1 hy.2]; exact kf)
theorem zL_icmp_ne {x y : Int} {off : Int} {tgt : Nat} (hd : decode (ccc C) pc = .ok (.if_icmp .ne off, 3)) (ht : (pc : Int) + off = (tgt : Int)) (kt : ¬ zn x = zn y → zVl C n sl tgt lv st h) (kf : zn x = zn y → zVl C n sl (pc + 3) lv st h) : zVl C n sl pc lv (ziv y :: ziv x :: st) h := fun ok H locs ls hP hS hl =>
  lv_icmp_ne ok.1 ok.2.1 hd ht (fun q => kt (((not_congr (zo_eq x y))).mp q) ok H locs ls hP hS hl) (fun q => kf (((zo_eq x y)).mp q) ok H locs ls hP hS hl)
theorem zS_icmp_ne {x y : Int} {off : Int} {tgt : Nat} (hd : decode (ccc C) pc = .ok (.if_icmp .ne off, 3)) (ht : (pc : Int) + off = (tgt : Int)) (hx : -2147483648 ≤ x ∧ x ≤ 2147483647) (hy : -2147483648 ≤ y ∧ y ≤ 2147483647) (kt : ¬ x = y → zVl C n sl tgt lv st h) (kf : x = y → zVl C n sl (pc + 3) lv st h) : zVl C n sl pc lv (ziv y :: ziv x :: st) h :=
  zL_icmp_ne hd ht (by rw [zn_of hx.1 hx.2, zn_of hy.1 hy.2]; exact kt) (by rw [zn_of hx.1 hx.2, zn_of hy.1 hy.2]; exact kf)
theorem zL_if_eq {x : Int} {off : Int} {tgt : Nat} (hd : decode (ccc C) pc = .ok (.ifCond .eq off, 3)) (ht : (pc : Int) + off = (tgt : Int)) (kt : zn x = 0 → zVl C n sl tgt lv st h) (kf : ¬ zn x = 0 → zVl C n sl (pc + 3) lv st h) : zVl C n sl pc lv (ziv x :: st) h := fun ok H locs ls hP hS hl =>
  lv_if_eq ok.1 ok.2.1 hd ht (fun q => kt ((zo_eq0 x).mp q) ok H locs ls hP hS hl) (fun q => kf (fun z => q ((zo_eq0 x).mpr z)) ok H locs ls hP hS hl)
theorem zS_if_eq {x : Int} {off : Int} {tgt : Nat} (hd : decode (ccc C) pc = .ok (.ifCond .eq off, 3)) (ht : (pc : Int) + off = (tgt : Int)) (hx : -2147483648 ≤ x ∧ x ≤ 2147483647) (kt : x = 0 → zVl C n sl tgt lv st h) (kf : ¬ x = 0 → zVl C n sl (pc + 3) lv st h) : zVl C n sl pc lv (ziv x :: st) h :=
  zL_if_eq hd ht (by rw [zn_of hx.1 hx.2]; exact kt) (by rw [zn_of hx.1 hx.2]; exact kf)
theorem zL_if_lt {x : Int} {off : Int} {tgt : Nat} (hd : decode (ccc C) pc = .ok (.ifCond .lt off, 3)) (ht : (pc : Int) + off = (tgt : Int)) (kt : zn x < 0 → zVl C n sl tgt lv st h) (kf : ¬ zn x < 0 → zVl C n sl (pc + 3) lv st h) : zVl C n sl pc lv (ziv x :: st) h := fun ok H locs ls hP hS hl =>
  lv_if_lt ok.1 ok.2.1 hd ht (fun q => kt ((zo_lt0 x).mp q) ok H locs ls hP hS hl) (fun q => kf (fun z => q ((zo_lt0 x).mpr z)) ok H locs ls hP hS hl)
theorem zS_if_lt {x : Int} {off : Int} {tgt : Nat} (hd : decode (ccc C) pc = .ok (.ifCond .lt off, 3)) (ht : (pc : Int) + off = (tgt : Int)) (hx : -2147483648 ≤ x ∧ x ≤ 2147483647) (kt : x < 0 → zVl C n sl tgt lv st h) (kf : ¬ x < 0 → zVl C n sl (pc + 3) lv st h) : zVl C n sl pc lv (ziv x :: st) h :=
  zL_if_lt hd ht (by rw [zn_of hx.1 hx.2]; exact kt) (by rw [zn_of hx.1 hx.2]; exact kf)
theorem zL_if_ge {x : Int} {off : Int} {tgt : Nat} (hd : decode (ccc C) pc = .ok (.ifCond .ge off, 3)) (ht : (pc : Int) + off = (tgt : Int)) (kt : 0 ≤ zn x → zVl C n sl tgt lv st h) (kf : ¬ 0 ≤ zn x → zVl C n sl (pc + 3) lv st h) : zVl C n sl pc lv (ziv x :: st) h := fun ok H locs ls hP hS hl =>
  lv_if_ge ok.1 ok.2.1 hd ht (fun q => kt ((zo_0le x).mp q) ok H locs ls hP hS hl) (fun q => kf (fun z => q ((zo_0le x).mpr z)) ok H locs ls hP hS hl)
theorem zS_if_ge {x : Int} {off : Int} {tgt : Nat} (hd : decode (ccc C) pc = .ok (.ifCond .ge off, 3)) (ht : (pc : Int) + off = (tgt : Int)) (hx : -2147483648 ≤ x ∧ x ≤ 2147483647) (kt : 0 ≤ x → zVl C n sl tgt lv st h) (kf : ¬ 0 ≤ x → zVl C n sl (pc + 3) lv st h) : zVl C n sl pc lv (ziv x :: st) h :=
  zL_if_ge hd ht (by rw [zn_of hx.1 hx.2]; exact kt) (by rw [zn_of hx.1 hx.2]; exact kf)
theorem zL_if_gt {x : Int} {off : Int} {tgt : Nat} (hd : decode (ccc C) pc = .ok (.ifCond .gt off, 3)) (ht : (pc : Int) + off = (tgt : Int)) (kt : 0 < zn x → zVl C n sl tgt lv st h) (kf : ¬ 0 < zn x → zVl C n sl (pc + 3) lv st h) : zVl C n sl pc lv (ziv x :: st) h := fun ok H locs ls hP hS hl =>
  lv_if_gt ok.1 ok.2.1 hd ht (fun q => kt ((zo_0lt x).mp q) ok H locs ls hP hS hl) (fun q => kf (fun z => q ((zo_0lt x).mpr z)) ok H locs ls hP hS hl)
theorem zS_if_gt {x : Int} {off : Int} {tgt : Nat} (hd : decode (ccc C) pc = .ok (.ifCond .gt off, 3)) (ht : (pc : Int) + off = (tgt : Int)) (hx : -2147483648 ≤ x ∧ x ≤ 2147483647) (kt : 0 < x → zVl C n sl tgt lv st h) (kf : ¬ 0 < x → zVl C n sl (pc + 3) lv st h) : zVl C n sl pc lv (ziv x :: st) h :=
  zL_if_gt hd ht (by rw [zn_of hx.1 hx.2]; exact kt) (by rw [zn_of hx.1 hx.2]; exact kf)
theorem zL_if_le {x : Int} {off : Int} {tgt : Nat} (hd : decode (ccc C) pc = .ok (.ifCond .le off, 3)) (ht : (pc : Int) + off = (tgt : Int)) (kt : zn x ≤ 0 → zVl C n sl tgt lv st h) (kf : ¬ zn x ≤ 0 → zVl C n sl (pc + 3) lv st h) : zVl C n sl pc lv (ziv x :: st) h := fun ok H locs ls hP hS hl =>
  lv_if_le ok.1 ok.2.1 hd ht (fun q => kt ((zo_le0 x).mp q) ok H locs ls hP hS hl) (fun q => kf (fun z => q ((zo_le0 x).mpr z)) ok H locs ls hP hS hl)
theorem zS_if_le {x : Int} {off : Int} {tgt : Nat} (hd : decode (ccc C) pc = .ok (.ifCond .le off, 3)) (ht : (pc : Int) + off = (tgt : Int)) (hx : -2147483648 ≤ x ∧ x ≤ 2147483647) (kt : x ≤ 0 → zVl C n sl tgt lv st h) (kf : ¬ x ≤ 0 → zVl C n sl (pc + 3) lv st h) : zVl C n sl pc lv (ziv x :: st) h :=
  zL_if_le hd ht (by rw [zn_of hx.1 hx.2]; exact kt) (by rw [zn_of hx.1 hx.2]; exact kf)
theorem zL_if_ne {x : Int} {off : Int} {tgt : Nat} (hd : decode (ccc C) pc = .ok (.ifCond .ne off, 3)) (ht : (pc : Int) + off = (tgt : Int)) (kt : ¬ zn x = 0 → zVl C n sl tgt lv st h) (kf : zn x = 0 → zVl C n sl (pc + 3) lv st h) : zVl C n sl pc lv (ziv x :: st) h := fun ok H locs ls hP hS hl =>
  lv_if_ne ok.1 ok.2.1 hd ht (fun q => kt (((not_congr (zo_eq0 x))).mp q) ok H locs ls hP hS hl) (fun q => kf (((zo_eq0 x)).mp q) ok H locs ls hP hS hl)
theorem zS_if_ne {x : Int} {off : Int} {tgt : Nat} (hd : decode (ccc C) pc = .ok (.ifCond .ne off, 3)) (ht : (pc : Int) + off = (tgt : Int)) (hx : -2147483648 ≤ x ∧ x ≤ 2147483647) (kt : ¬ x = 0 → zVl C n sl tgt lv st h) (kf : x = 0 → zVl C n sl (pc + 3) lv st h) : zVl C n sl pc lv (ziv x :: st) h :=
  zL_if_ne hd ht (by rw [zn_of hx.1 hx.2]; exact kt) (by rw [zn_of hx.1 hx.2]; exact kf)
theorem zL_tableOut {dflt lo hi : Int} {offs : Array Int} {len : Nat} {x : Int} {tgt : Nat} (hd : decode (ccc C) pc = .ok (.tableswitch dflt lo hi offs, len)) (hx : zn x < lo ∨ hi < zn x) (ht : (pc : Int) + dflt = (tgt : Int)) (k : zVl C n sl tgt lv st h) : zVl C n sl pc lv (ziv x :: st) h := fun ok H locs ls hP hS hl =>
  lv_tableOut ok.1 ok.2.1 hd hx ht (k ok H locs ls hP hS hl)
theorem zL_tableIn {dflt lo hi : Int} {offs : Array Int} {len : Nat} {x off : Int} {tgt : Nat} (hd : decode (ccc C) pc = .ok (.tableswitch dflt lo hi offs, len)) (h1 : ¬ zn x < lo) (h2 : ¬ hi < zn x) (ho : offs[(zn x - lo).toNat]? = some off) (ht : (pc : Int) + off = (tgt : Int)) (k : zVl C n sl tgt lv st h) : zVl C n sl pc lv (ziv x :: st) h := fun ok H locs ls hP hS hl =>
  lv_tableIn ok.1 ok.2.1 hd h1 h2 ho ht (k ok H locs ls hP hS hl)
theorem zL_lookup {dflt : Int} {ps : Array (Int × Int)} {len : Nat} {x off : Int} {tgt : Nat} (hd : decode (ccc C) pc = .ok (.lookupswitch dflt ps, len)) (hp : (ps.toList.zip (ps.toList.drop 1)).all (fun (a, next) => a.1 < next.1) = true) (ho : Op.lookupswitch.offset ps.toList dflt (zn x) = off) (ht : (pc : Int) + off = (tgt : Int)) (k : zVl C n sl tgt lv st h) : zVl C n sl pc lv (ziv x :: st) h := fun ok H locs ls hP hS hl =>
  lv_lookup ok.1 ok.2.1 hd hp ho ht (k ok H locs ls hP hS hl)
theorem zL_lconst {v : Fin 2} (hd : decode (ccc C) pc = .ok (.lconst v, 1)) (k : zVl C n sl (pc + 1) lv (zlv ((v : Nat) : Int) :: st) h) : zVl C n sl pc lv st h := fun ok H locs ls hP hS hl =>
  lv_lconst ok.1 ok.2.1 hd rfl (by have := k ok H locs ls hP hS hl; unfold zlv at this; rw [Int64.ofInt_eq_ofNat] at this; exact this)
theorem zL_i2l {x : Int} (hd : decode (ccc C) pc = .ok (.i2l, 1)) (hx : -2147483648 ≤ x ∧ x ≤ 2147483647) (k : zVl C n sl (pc + 1) lv (zlv x :: st) h) : zVl C n sl pc lv (ziv x :: st) h := fun ok H locs ls hP hS hl =>
  lv_i2l ok.1 ok.2.1 hd (by
    apply Int64.toInt_inj.mp
    rw [Int32.toInt_toInt64, Int64.toInt_ofInt]
    rw [show (Int32.ofInt x).toInt = x from zn_of hx.1 hx.2]
    exact (Int.bmod_eq_of_le (by simp only [Int64.size]; omega) (by simp only [Int64.size]; omega)).symm) (k ok H locs ls hP hS hl)
theorem zL_widen {n' sl' : Nat} (hn : n ≤ n') (hs : sl ≤ sl') (k : zVl C n' sl' pc lv st h) : zVl C n sl pc lv st h := fun ok H locs ls hP hS hl =>
  W.widen hn hs (k ok H locs ls hP hS hl)
theorem zL_teq {v w : Value} (e : w = v) (k : zVl C n sl pc lv (w :: st) h) : zVl C n sl pc lv (v :: st) h := e ▸ k
theorem zCBl {M : zM} {own : String} {idx na d' k' : Nat} {s : State} {args : Array Value} (hts : ∀ w ∈ zTs, w.before args s = true)
    (h1 : Cond.code M.1 M.2.1 M.2.2.1 M.2.2.2 ∈ zTs ∧ Cond.initialized M.1.cls ∈ zTs ∧ Cond.methodLink own idx M.1 ∈ zTs) (h2 : M.1.cls ≠ "java/lang/invoke/MethodHandle" ∧ M.1.cls ≠ "java/lang/invoke/VarHandle" ∧ (parseMethodDescriptor M.1.desc).map (fun d => d.parameters.length) = some na ∧ M.2.2.1 ≤ 45) (hd : d' ≤ 1000) :
    CallB room_1 s args own idx M.1 M.2.1 M.2.2.1 M.2.2.2 (zwM M) (zRm d' k') k' (6 * k') na := by
  have hin : GoodIn zTs (zwM M) := fun w hw => by
    rcases List.mem_cons.mp hw with e | hw
    · rw [e]; exact zTs_good _ h1.1
    · exact zTs_good _ hw
  exact callB_of na hts hin rfl rfl rfl (hts _ h1.2.1) (hts _ h1.2.2) ⟨h2.1, h2.2.1, h2.2.2.1⟩ ⟨by show d' + 1 ≤ 2048; omega, by
    show 8 + (M.2.2.1 + 11) + 64 * d' ≤ 84000
    have := h2.2.2.2
    omega⟩
/-- a call of the law's that cannot throw -/
theorem zL_callV {M : zM} {d' k' idx na k ci N : Nat} {Cn : String} {T : u_T} {As : List Value} {Q : Option Value → zH → Prop} (hL : zLV (cown C) idx na M) (hk : zsh[k]? = some (.inl ci)) (hc : vwCl[ci]? = some (Cn, T, N)) (hcn : Cn = M.1.cls)
    (hM : zCal (cE C) M d' k' (zrv (cE C) k :: As) h Q (fun _ _ => False)) (hdk : d' ≤ 1000 ∧ n + k' ≤ 600128 ∧ sl + 6 * k' ≤ 7301098) (hn : As.length = na) (hst : (st.map fun v => v.category).sum ≤ 8) (hd : decode (ccc C) pc = .ok (.invokevirtual idx, 3))
    (kk : ∀ r h', Q r h' → zVl C (n + k') (sl + 6 * k') (pc + 3) lv (r.toList ++ st) h') : zVl C n sl pc lv (As.reverse ++ zrv (cE C) k :: st) h := fun ok H locs ls hP hS hl => by
  have hrun := vx_runV (R := room_1) (H := H) (locs := locs) (cells := n) (slots := sl) (e := ae C) (below := abl C) (meth := ame C) (As := As) (rest := st) (g := F0 (am C) pc ls (As.reverse ++ zrv (cE C) k :: st)) (Ts := zTs) (C := Cn) (b := ead (cE C) k) (n := na)
    ⟨ok.1, ok.2.1, ok.2.2.2.1, ok.2.2.2.2.1, ok.2.2.2.2.2.1⟩ hM ⟨zCBl ok.2.2.2.2.2.1 hL.1 hL.2.1 hdk.1, ok.2.2.2.2.2.1 _ hL.2.2.1, by rw [hcn]; exact ok.2.2.2.2.2.1 _ hL.2.2.2⟩
    ⟨zblind _ _ _, va_recv ok.2.2.2.2.2.2.2.1.1 hP hc (zws_at hk), fun U hU hW => ⟨rfl, by rw [hU]; exact hP, by rw [hU]; exact zSt_to ok.2.2.2.2.2.2.2.1 hW hS.2.1⟩⟩
    rfl hn hl.1 rfl (lv_room hst) hd ⟨hdk.2.1, hdk.2.2⟩
  refine zcall hrun hS (fun Ex ce q9 h' H1 locs1 hx hP1 hS1 hce hcv hcl => hx.elim) (fun r h' H1 locs1 hq hP1 hS1 => ?_)
  exact kk r h' hq ok H1 locs1 ls hP1 hS1 hl
end ZVL
