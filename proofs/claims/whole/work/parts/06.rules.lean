/-! THE INSTRUCTIONS, over a state h: a row each. -/
section ZR
variable {C : zC} {n pc : Nat} {lv st : List Value} {h : zH}
theorem ziv_nn (a : Int) : ziv a ≠ .null := by unfold ziv; intro q; cases q
theorem zlv_nn (a : Int) : zlv a ≠ .null := by unfold zlv; intro q; cases q
theorem zrv_nn (E : zE) (k : Nat) : zrv E k ≠ .null := by unfold zrv; intro q; cases q
theorem zV_iconst {v : Int} (hd : decode (ccc C) pc = .ok (.iconst v, 1)) (k : zV C n (pc + 1) lv (ziv v :: st) h) : zV C n pc lv st h := fun ok H locs ls hP hS hl =>
  lv_iconst ok.1 ok.2.1 hd rfl (k ok H locs ls hP hS hl)
theorem zV_bipush {v : Int} (hd : decode (ccc C) pc = .ok (.bipush v, 2)) (hv : (Int8.ofInt v).toInt32 = Int32.ofInt v) (k : zV C n (pc + 2) lv (ziv v :: st) h) : zV C n pc lv st h := fun ok H locs ls hP hS hl =>
  lv_bipush ok.1 ok.2.1 hd hv (k ok H locs ls hP hS hl)
theorem zV_sipush {v : Int} (hd : decode (ccc C) pc = .ok (.sipush v, 3)) (hv : (Int16.ofInt v).toInt32 = Int32.ofInt v) (k : zV C n (pc + 3) lv (ziv v :: st) h) : zV C n pc lv st h := fun ok H locs ls hP hS hl =>
  lv_sipush ok.1 ok.2.1 hd hv (k ok H locs ls hP hS hl)
theorem zV_iload_n {k : Fin 4} {i : Nat} {v : Int} (hd : decode (ccc C) pc = .ok (.iload_n k, 1)) (hi : (k : Nat) = i) (hv : lv[i]? = some (ziv v)) (kk : zV C n (pc + 1) lv (ziv v :: st) h) : zV C n pc lv st h := fun ok H locs ls hP hS hl =>
  lv_iload_n ok.1 ok.2.1 hd hi (zl_at hl hv (ziv_nn v)) (kk ok H locs ls hP hS hl)
theorem zV_iload {i : Nat} {v : Int} (hd : decode (ccc C) pc = .ok (.iload i, 2)) (hv : lv[i]? = some (ziv v)) (kk : zV C n (pc + 2) lv (ziv v :: st) h) : zV C n pc lv st h := fun ok H locs ls hP hS hl =>
  lv_iload ok.1 ok.2.1 hd (zl_at hl hv (ziv_nn v)) (kk ok H locs ls hP hS hl)
theorem zV_lload_n {k : Fin 4} {i : Nat} {v : Int} (hd : decode (ccc C) pc = .ok (.lload_n k, 1)) (hi : (k : Nat) = i) (hv : lv[i]? = some (zlv v)) (kk : zV C n (pc + 1) lv (zlv v :: st) h) : zV C n pc lv st h := fun ok H locs ls hP hS hl =>
  lv_lload_n ok.1 ok.2.1 hd hi (zl_at hl hv (zlv_nn v)) (kk ok H locs ls hP hS hl)
theorem zV_lload {i : Nat} {v : Int} (hd : decode (ccc C) pc = .ok (.lload i, 2)) (hv : lv[i]? = some (zlv v)) (kk : zV C n (pc + 2) lv (zlv v :: st) h) : zV C n pc lv st h := fun ok H locs ls hP hS hl =>
  lv_lload ok.1 ok.2.1 hd (zl_at hl hv (zlv_nn v)) (kk ok H locs ls hP hS hl)
theorem zV_aload_n {k : Fin 4} {i a : Nat} (hd : decode (ccc C) pc = .ok (.aload_n k, 1)) (hi : (k : Nat) = i) (hv : lv[i]? = some (.ref a)) (kk : zV C n (pc + 1) lv (.ref a :: st) h) : zV C n pc lv st h := fun ok H locs ls hP hS hl =>
  lv_aload_n ok.1 ok.2.1 hd hi (zl_at hl hv (fun q => by cases q)) (kk ok H locs ls hP hS hl)
theorem zV_aload {i a : Nat} (hd : decode (ccc C) pc = .ok (.aload i, 2)) (hv : lv[i]? = some (.ref a)) (kk : zV C n (pc + 2) lv (.ref a :: st) h) : zV C n pc lv st h := fun ok H locs ls hP hS hl =>
  lv_aload ok.1 ok.2.1 hd (zl_at hl hv (fun q => by cases q)) (kk ok H locs ls hP hS hl)
theorem zV_aload_nr {k : Fin 4} {i a : Nat} (hd : decode (ccc C) pc = .ok (.aload_n k, 1)) (hi : (k : Nat) = i) (hv : lv[i]? = some (zrv (cE C) a)) (kk : zV C n (pc + 1) lv (zrv (cE C) a :: st) h) : zV C n pc lv st h := zV_aload_n hd hi hv kk
theorem zV_aload_r {i a : Nat} (hd : decode (ccc C) pc = .ok (.aload i, 2)) (hv : lv[i]? = some (zrv (cE C) a)) (kk : zV C n (pc + 2) lv (zrv (cE C) a :: st) h) : zV C n pc lv st h := zV_aload hd hv kk
theorem zV_istore_n {k : Fin 4} {i : Nat} {v : Int} (hd : decode (ccc C) pc = .ok (.istore_n k, 1)) (hi : (k : Nat) = i) (hn : i < (cM C).2.2.1) (hp : (lv.getD (i - 1) .null).category = 1) (kk : zV C n (pc + 1) (lv.set i (ziv v)) st h) : zV C n pc lv (ziv v :: st) h := fun ok H locs ls hP hS hl =>
  lv_istore_n ok.1 ok.2.1 hd hi hl hn rfl (fun ls' hl' => kk ok H locs ls' hP hS (zl_set hp hl'))
theorem zV_istore {i : Nat} {v : Int} (hd : decode (ccc C) pc = .ok (.istore i, 2)) (hn : i < (cM C).2.2.1) (hp : (lv.getD (i - 1) .null).category = 1) (kk : zV C n (pc + 2) (lv.set i (ziv v)) st h) : zV C n pc lv (ziv v :: st) h := fun ok H locs ls hP hS hl =>
  lv_istore ok.1 ok.2.1 hd hl hn rfl (fun ls' hl' => kk ok H locs ls' hP hS (zl_set hp hl'))
theorem zV_astore_n {k : Fin 4} {i a : Nat} (hd : decode (ccc C) pc = .ok (.astore_n k, 1)) (hi : (k : Nat) = i) (hn : i < (cM C).2.2.1) (hp : (lv.getD (i - 1) .null).category = 1) (kk : zV C n (pc + 1) (lv.set i (.ref a)) st h) : zV C n pc lv (.ref a :: st) h := fun ok H locs ls hP hS hl =>
  lv_astore_n ok.1 ok.2.1 hd hi hl hn rfl (fun ls' hl' => kk ok H locs ls' hP hS (zl_set hp hl'))
theorem zV_astore {i a : Nat} (hd : decode (ccc C) pc = .ok (.astore i, 2)) (hn : i < (cM C).2.2.1) (hp : (lv.getD (i - 1) .null).category = 1) (kk : zV C n (pc + 2) (lv.set i (.ref a)) st h) : zV C n pc lv (.ref a :: st) h := fun ok H locs ls hP hS hl =>
  lv_astore ok.1 ok.2.1 hd hl hn rfl (fun ls' hl' => kk ok H locs ls' hP hS (zl_set hp hl'))
theorem zV_astore_nr {k : Fin 4} {i a : Nat} (hd : decode (ccc C) pc = .ok (.astore_n k, 1)) (hi : (k : Nat) = i) (hn : i < (cM C).2.2.1) (hp : (lv.getD (i - 1) .null).category = 1) (kk : zV C n (pc + 1) (lv.set i (zrv (cE C) a)) st h) : zV C n pc lv (zrv (cE C) a :: st) h := zV_astore_n hd hi hn hp kk
theorem zV_astore_r {i a : Nat} (hd : decode (ccc C) pc = .ok (.astore i, 2)) (hn : i < (cM C).2.2.1) (hp : (lv.getD (i - 1) .null).category = 1) (kk : zV C n (pc + 2) (lv.set i (zrv (cE C) a)) st h) : zV C n pc lv (zrv (cE C) a :: st) h := zV_astore hd hn hp kk
theorem zV_iinc {i : Nat} {v w : Int} (hd : decode (ccc C) pc = .ok (.iinc i w, 3)) (hv : lv[i]? = some (ziv v)) (hn : i < (cM C).2.2.1) (hp : (lv.getD (i - 1) .null).category = 1) (kk : zV C n (pc + 3) (lv.set i (ziv (v + w))) st h) : zV C n pc lv st h := fun ok H locs ls hP hS hl => by
  obtain ⟨t, ht⟩ := List.getElem?_of_mem (zlp_mem.mpr ⟨i, (Nat.zero_add i).symm, hv, ziv_nn v⟩ : (i, ziv v) ∈ zlp 0 lv)
  exact lv_iinc ok.1 ok.2.1 hd hl ht (Int32.ofInt_add v w).symm hn rfl (fun ls' hl' => kk ok H locs ls' hP hS (zl_set hp hl'))
theorem zV_iadd {x y : Int} (hd : decode (ccc C) pc = .ok (.iadd, 1)) (k : zV C n (pc + 1) lv (ziv (x + y) :: st) h) : zV C n pc lv (ziv y :: ziv x :: st) h := fun ok H locs ls hP hS hl =>
  lv_iadd ok.1 ok.2.1 hd (by rw [← Int32.ofInt_add]; exact k ok H locs ls hP hS hl)
theorem zV_isub {x y : Int} (hd : decode (ccc C) pc = .ok (.isub, 1)) (k : zV C n (pc + 1) lv (ziv (x - y) :: st) h) : zV C n pc lv (ziv y :: ziv x :: st) h := fun ok H locs ls hP hS hl =>
  lv_isub ok.1 ok.2.1 hd (by rw [← Int32.ofInt_sub]; exact k ok H locs ls hP hS hl)
theorem zV_imul {x y : Int} (hd : decode (ccc C) pc = .ok (.imul, 1)) (k : zV C n (pc + 1) lv (ziv (x * y) :: st) h) : zV C n pc lv (ziv y :: ziv x :: st) h := fun ok H locs ls hP hS hl =>
  lv_imul ok.1 ok.2.1 hd (by rw [← Int32.ofInt_mul]; exact k ok H locs ls hP hS hl)
theorem zV_ineg {x : Int} (hd : decode (ccc C) pc = .ok (.ineg, 1)) (k : zV C n (pc + 1) lv (ziv (-x) :: st) h) : zV C n pc lv (ziv x :: st) h := fun ok H locs ls hP hS hl =>
  lv_ineg ok.1 ok.2.1 hd (by rw [← Int32.ofInt_neg]; exact k ok H locs ls hP hS hl)
def zand (x y : Int) : Int := (Int32.ofInt x &&& Int32.ofInt y).toInt
def zor (x y : Int) : Int := (Int32.ofInt x ||| Int32.ofInt y).toInt
def zxor (x y : Int) : Int := (Int32.ofInt x ^^^ Int32.ofInt y).toInt
def zshl (x y : Int) : Int := (Int32.ofInt x <<< (Int32.ofInt y &&& 31)).toInt
def zshr (x y : Int) : Int := (Int32.ofInt x >>> (Int32.ofInt y &&& 31)).toInt
def zushr (x y : Int) : Int := ((Int32.ofInt x).toUInt32 >>> ((Int32.ofInt y).toUInt32 &&& Int32.toUInt32 31)).toInt32.toInt
def zdiv (x y : Int) : Int := (Int32.ofInt x / Int32.ofInt y).toInt
def zrem (x y : Int) : Int := (Int32.ofInt x - Int32.ofInt x / Int32.ofInt y * Int32.ofInt y).toInt
theorem zV_iand {x y : Int} (hd : decode (ccc C) pc = .ok (.iand, 1)) (k : zV C n (pc + 1) lv (ziv (zand x y) :: st) h) : zV C n pc lv (ziv y :: ziv x :: st) h := fun ok H locs ls hP hS hl =>
  lv_iand ok.1 ok.2.1 hd (by have := k ok H locs ls hP hS hl; rw [zand, ziv_toInt] at this; exact this)
theorem zV_ior {x y : Int} (hd : decode (ccc C) pc = .ok (.ior, 1)) (k : zV C n (pc + 1) lv (ziv (zor x y) :: st) h) : zV C n pc lv (ziv y :: ziv x :: st) h := fun ok H locs ls hP hS hl =>
  lv_ior ok.1 ok.2.1 hd (by have := k ok H locs ls hP hS hl; rw [zor, ziv_toInt] at this; exact this)
theorem zV_ixor {x y : Int} (hd : decode (ccc C) pc = .ok (.ixor, 1)) (k : zV C n (pc + 1) lv (ziv (zxor x y) :: st) h) : zV C n pc lv (ziv y :: ziv x :: st) h := fun ok H locs ls hP hS hl =>
  lv_ixor ok.1 ok.2.1 hd (by have := k ok H locs ls hP hS hl; rw [zxor, ziv_toInt] at this; exact this)
theorem zV_ishl {x y : Int} (hd : decode (ccc C) pc = .ok (.ishl, 1)) (k : zV C n (pc + 1) lv (ziv (zshl x y) :: st) h) : zV C n pc lv (ziv y :: ziv x :: st) h := fun ok H locs ls hP hS hl =>
  lv_ishl ok.1 ok.2.1 hd (by have := k ok H locs ls hP hS hl; rw [zshl, ziv_toInt] at this; exact this)
theorem zV_ishr {x y : Int} (hd : decode (ccc C) pc = .ok (.ishr, 1)) (k : zV C n (pc + 1) lv (ziv (zshr x y) :: st) h) : zV C n pc lv (ziv y :: ziv x :: st) h := fun ok H locs ls hP hS hl =>
  lv_ishr ok.1 ok.2.1 hd (by have := k ok H locs ls hP hS hl; rw [zshr, ziv_toInt] at this; exact this)
theorem zV_iushr {x y : Int} (hd : decode (ccc C) pc = .ok (.iushr, 1)) (k : zV C n (pc + 1) lv (ziv (zushr x y) :: st) h) : zV C n pc lv (ziv y :: ziv x :: st) h := fun ok H locs ls hP hS hl =>
  lv_iushr ok.1 ok.2.1 hd rfl (by have := k ok H locs ls hP hS hl; rw [zushr, ziv_toInt] at this; exact this)
theorem zne0 {y : Int} (hy : zn y ≠ 0) : ¬ Int32.ofInt y = 0 := fun e => hy (by unfold zn; rw [e]; rfl)
theorem zV_idiv {x y : Int} (hd : decode (ccc C) pc = .ok (.idiv, 1)) (hy : zn y ≠ 0) (k : zV C n (pc + 1) lv (ziv (zdiv x y) :: st) h) : zV C n pc lv (ziv y :: ziv x :: st) h := fun ok H locs ls hP hS hl =>
  lv_idiv ok.1 ok.2.1 hd (zne0 hy) (by have := k ok H locs ls hP hS hl; rw [zdiv, ziv_toInt] at this; exact this)
theorem zV_irem {x y : Int} (hd : decode (ccc C) pc = .ok (.irem, 1)) (hy : zn y ≠ 0) (k : zV C n (pc + 1) lv (ziv (zrem x y) :: st) h) : zV C n pc lv (ziv y :: ziv x :: st) h := fun ok H locs ls hP hS hl =>
  lv_irem ok.1 ok.2.1 hd (zne0 hy) (by have := k ok H locs ls hP hS hl; rw [zrem, ziv_toInt] at this; exact this)
theorem zV_dup {v : Value} (hd : decode (ccc C) pc = .ok (.dup, 1)) (hv : v.category = 1) (k : zV C n (pc + 1) lv (v :: v :: st) h) : zV C n pc lv (v :: st) h := fun ok H locs ls hP hS hl =>
  lv_dup ok.1 ok.2.1 hd hv (k ok H locs ls hP hS hl)
theorem zV_dup2 {v w : Value} (hd : decode (ccc C) pc = .ok (.dup2, 1)) (hv : v.category = 1) (hw : w.category = 1) (k : zV C n (pc + 1) lv (v :: w :: v :: w :: st) h) : zV C n pc lv (v :: w :: st) h := fun ok H locs ls hP hS hl =>
  lv_dup2_11 ok.1 ok.2.1 hd hv hw (k ok H locs ls hP hS hl)
theorem zV_pop {v : Value} (hd : decode (ccc C) pc = .ok (.pop, 1)) (hv : v.category = 1) (k : zV C n (pc + 1) lv st h) : zV C n pc lv (v :: st) h := fun ok H locs ls hP hS hl =>
  lv_pop ok.1 ok.2.1 hd hv (k ok H locs ls hP hS hl)
theorem zV_goto {off : Int} {tgt : Nat} (hd : decode (ccc C) pc = .ok (.goto off, 3)) (ht : (pc : Int) + off = (tgt : Int)) (k : zV C n tgt lv st h) : zV C n pc lv st h := fun ok H locs ls hP hS hl =>
  lv_goto ok.1 ok.2.1 hd ht (k ok H locs ls hP hS hl)
theorem zo_eq (x y : Int) : Int32.ofInt x = Int32.ofInt y ↔ zn x = zn y := by
  unfold zn
  exact Int32.toInt_inj.symm
theorem zo_lt (x y : Int) : Int32.ofInt x < Int32.ofInt y ↔ zn x < zn y := by unfold zn; exact Int32.lt_iff_toInt_lt
theorem zo_le (x y : Int) : Int32.ofInt x ≤ Int32.ofInt y ↔ zn x ≤ zn y := by unfold zn; exact Int32.le_iff_toInt_le
theorem zn_0 : zn 0 = 0 := by decide
theorem zo_eq0 (x : Int) : Int32.ofInt x = 0 ↔ zn x = 0 := by have := zo_eq x 0; rw [zn_0] at this; exact this
theorem zo_lt0 (x : Int) : Int32.ofInt x < 0 ↔ zn x < 0 := by have := zo_lt x 0; rw [zn_0] at this; exact this
theorem zo_le0 (x : Int) : Int32.ofInt x ≤ 0 ↔ zn x ≤ 0 := by have := zo_le x 0; rw [zn_0] at this; exact this
theorem zo_0le (x : Int) : 0 ≤ Int32.ofInt x ↔ 0 ≤ zn x := by have := zo_le 0 x; rw [zn_0] at this; exact this
theorem zo_0lt (x : Int) : 0 < Int32.ofInt x ↔ 0 < zn x := by have := zo_lt 0 x; rw [zn_0] at this; exact this
theorem zV_icmp_eq {x y : Int} {off : Int} {tgt : Nat} (hd : decode (ccc C) pc = .ok (.if_icmp .eq off, 3)) (ht : (pc : Int) + off = (tgt : Int)) (kt : zn x = zn y → zV C n tgt lv st h) (kf : ¬ zn x = zn y → zV C n (pc + 3) lv st h) : zV C n pc lv (ziv y :: ziv x :: st) h := fun ok H locs ls hP hS hl =>
  lv_icmp_eq ok.1 ok.2.1 hd ht (fun q => kt ((zo_eq x y).mp q) ok H locs ls hP hS hl) (fun q => kf (fun z => q ((zo_eq x y).mpr z)) ok H locs ls hP hS hl)
theorem zR_icmp_eq {x y : Int} {off : Int} {tgt : Nat} (hd : decode (ccc C) pc = .ok (.if_icmp .eq off, 3)) (ht : (pc : Int) + off = (tgt : Int)) (hx : -2147483648 ≤ x ∧ x ≤ 2147483647) (hy : -2147483648 ≤ y ∧ y ≤ 2147483647) (kt : x = y → zV C n tgt lv st h) (kf : ¬ x = y → zV C n (pc + 3) lv st h) : zV C n pc lv (ziv y :: ziv x :: st) h :=
  zV_icmp_eq hd ht (by rw [zn_of hx.1 hx.2, zn_of hy.1 hy.2]; exact kt) (by rw [zn_of hx.1 hx.2, zn_of hy.1 hy.2]; exact kf)
theorem zV_icmp_lt {x y : Int} {off : Int} {tgt : Nat} (hd : decode (ccc C) pc = .ok (.if_icmp .lt off, 3)) (ht : (pc : Int) + off = (tgt : Int)) (kt : zn x < zn y → zV C n tgt lv st h) (kf : ¬ zn x < zn y → zV C n (pc + 3) lv st h) : zV C n pc lv (ziv y :: ziv x :: st) h := fun ok H locs ls hP hS hl =>
  lv_icmp_lt ok.1 ok.2.1 hd ht (fun q => kt ((zo_lt x y).mp q) ok H locs ls hP hS hl) (fun q => kf (fun z => q ((zo_lt x y).mpr z)) ok H locs ls hP hS hl)
theorem zR_icmp_lt {x y : Int} {off : Int} {tgt : Nat} (hd : decode (ccc C) pc = .ok (.if_icmp .lt off, 3)) (ht : (pc : Int) + off = (tgt : Int)) (hx : -2147483648 ≤ x ∧ x ≤ 2147483647) (hy : -2147483648 ≤ y ∧ y ≤ 2147483647) (kt : x < y → zV C n tgt lv st h) (kf : ¬ x < y → zV C n (pc + 3) lv st h) : zV C n pc lv (ziv y :: ziv x :: st) h :=
  zV_icmp_lt hd ht (by rw [zn_of hx.1 hx.2, zn_of hy.1 hy.2]; exact kt) (by rw [zn_of hx.1 hx.2, zn_of hy.1 hy.2]; exact kf)
theorem zV_icmp_ge {x y : Int} {off : Int} {tgt : Nat} (hd : decode (ccc C) pc = .ok (.if_icmp .ge off, 3)) (ht : (pc : Int) + off = (tgt : Int)) (kt : zn y ≤ zn x → zV C n tgt lv st h) (kf : ¬ zn y ≤ zn x → zV C n (pc + 3) lv st h) : zV C n pc lv (ziv y :: ziv x :: st) h := fun ok H locs ls hP hS hl =>
  lv_icmp_ge ok.1 ok.2.1 hd ht (fun q => kt ((zo_le y x).mp q) ok H locs ls hP hS hl) (fun q => kf (fun z => q ((zo_le y x).mpr z)) ok H locs ls hP hS hl)
theorem zR_icmp_ge {x y : Int} {off : Int} {tgt : Nat} (hd : decode (ccc C) pc = .ok (.if_icmp .ge off, 3)) (ht : (pc : Int) + off = (tgt : Int)) (hx : -2147483648 ≤ x ∧ x ≤ 2147483647) (hy : -2147483648 ≤ y ∧ y ≤ 2147483647) (kt : y ≤ x → zV C n tgt lv st h) (kf : ¬ y ≤ x → zV C n (pc + 3) lv st h) : zV C n pc lv (ziv y :: ziv x :: st) h :=
  zV_icmp_ge hd ht (by rw [zn_of hx.1 hx.2, zn_of hy.1 hy.2]; exact kt) (by rw [zn_of hx.1 hx.2, zn_of hy.1 hy.2]; exact kf)
theorem zV_icmp_gt {x y : Int} {off : Int} {tgt : Nat} (hd : decode (ccc C) pc = .ok (.if_icmp .gt off, 3)) (ht : (pc : Int) + off = (tgt : Int)) (kt : zn y < zn x → zV C n tgt lv st h) (kf : ¬ zn y < zn x → zV C n (pc + 3) lv st h) : zV C n pc lv (ziv y :: ziv x :: st) h := fun ok H locs ls hP hS hl =>
  lv_icmp_gt ok.1 ok.2.1 hd ht (fun q => kt ((zo_lt y x).mp q) ok H locs ls hP hS hl) (fun q => kf (fun z => q ((zo_lt y x).mpr z)) ok H locs ls hP hS hl)
theorem zR_icmp_gt {x y : Int} {off : Int} {tgt : Nat} (hd : decode (ccc C) pc = .ok (.if_icmp .gt off, 3)) (ht : (pc : Int) + off = (tgt : Int)) (hx : -2147483648 ≤ x ∧ x ≤ 2147483647) (hy : -2147483648 ≤ y ∧ y ≤ 2147483647) (kt : y < x → zV C n tgt lv st h) (kf : ¬ y < x → zV C n (pc + 3) lv st h) : zV C n pc lv (ziv y :: ziv x :: st) h :=
  zV_icmp_gt hd ht (by rw [zn_of hx.1 hx.2, zn_of hy.1 hy.2]; exact kt) (by rw [zn_of hx.1 hx.2, zn_of hy.1 hy.2]; exact kf)
theorem zV_icmp_le {x y : Int} {off : Int} {tgt : Nat} (hd : decode (ccc C) pc = .ok (.if_icmp .le off, 3)) (ht : (pc : Int) + off = (tgt : Int)) (kt : zn x ≤ zn y → zV C n tgt lv st h) (kf : ¬ zn x ≤ zn y → zV C n (pc + 3) lv st h) : zV C n pc lv (ziv y :: ziv x :: st) h := fun ok H locs ls hP hS hl =>
  lv_icmp_le ok.1 ok.2.1 hd ht (fun q => kt ((zo_le x y).mp q) ok H locs ls hP hS hl) (fun q => kf (fun z => q ((zo_le x y).mpr z)) ok H locs ls hP hS hl)
theorem zR_icmp_le {x y : Int} {off : Int} {tgt : Nat} (hd : decode (ccc C) pc = .ok (.if_icmp .le off, 3)) (ht : (pc : Int) + off = (tgt : Int)) (hx : -2147483648 ≤ x ∧ x ≤ 2147483647) (hy : -2147483648 ≤ y ∧ y ≤ 2147483647) (kt : x ≤ y → zV C n tgt lv st h) (kf : ¬ x ≤ y → zV C n (pc + 3) lv st h) : zV C n pc lv (ziv y :: ziv x :: st) h :=
  zV_icmp_le hd ht (by rw [zn_of hx.1 hx.2, zn_of hy.1 hy.2]; exact kt) (by rw [zn_of hx.1 hx.2, zn_of hy.1 hy.2]; exact kf)
theorem zV_icmp_ne {x y : Int} {off : Int} {tgt : Nat} (hd : decode (ccc C) pc = .ok (.if_icmp .ne off, 3)) (ht : (pc : Int) + off = (tgt : Int)) (kt : ¬ zn x = zn y → zV C n tgt lv st h) (kf : zn x = zn y → zV C n (pc + 3) lv st h) : zV C n pc lv (ziv y :: ziv x :: st) h := fun ok H locs ls hP hS hl =>
  lv_icmp_ne ok.1 ok.2.1 hd ht (fun q => kt (((not_congr (zo_eq x y))).mp q) ok H locs ls hP hS hl) (fun q => kf (((zo_eq x y)).mp q) ok H locs ls hP hS hl)
theorem zR_icmp_ne {x y : Int} {off : Int} {tgt : Nat} (hd : decode (ccc C) pc = .ok (.if_icmp .ne off, 3)) (ht : (pc : Int) + off = (tgt : Int)) (hx : -2147483648 ≤ x ∧ x ≤ 2147483647) (hy : -2147483648 ≤ y ∧ y ≤ 2147483647) (kt : ¬ x = y → zV C n tgt lv st h) (kf : x = y → zV C n (pc + 3) lv st h) : zV C n pc lv (ziv y :: ziv x :: st) h :=
  zV_icmp_ne hd ht (by rw [zn_of hx.1 hx.2, zn_of hy.1 hy.2]; exact kt) (by rw [zn_of hx.1 hx.2, zn_of hy.1 hy.2]; exact kf)
theorem zV_if_eq {x : Int} {off : Int} {tgt : Nat} (hd : decode (ccc C) pc = .ok (.ifCond .eq off, 3)) (ht : (pc : Int) + off = (tgt : Int)) (kt : zn x = 0 → zV C n tgt lv st h) (kf : ¬ zn x = 0 → zV C n (pc + 3) lv st h) : zV C n pc lv (ziv x :: st) h := fun ok H locs ls hP hS hl =>
  lv_if_eq ok.1 ok.2.1 hd ht (fun q => kt ((zo_eq0 x).mp q) ok H locs ls hP hS hl) (fun q => kf (fun z => q ((zo_eq0 x).mpr z)) ok H locs ls hP hS hl)
theorem zR_if_eq {x : Int} {off : Int} {tgt : Nat} (hd : decode (ccc C) pc = .ok (.ifCond .eq off, 3)) (ht : (pc : Int) + off = (tgt : Int)) (hx : -2147483648 ≤ x ∧ x ≤ 2147483647) (kt : x = 0 → zV C n tgt lv st h) (kf : ¬ x = 0 → zV C n (pc + 3) lv st h) : zV C n pc lv (ziv x :: st) h :=
  zV_if_eq hd ht (by rw [zn_of hx.1 hx.2]; exact kt) (by rw [zn_of hx.1 hx.2]; exact kf)
theorem zV_if_lt {x : Int} {off : Int} {tgt : Nat} (hd : decode (ccc C) pc = .ok (.ifCond .lt off, 3)) (ht : (pc : Int) + off = (tgt : Int)) (kt : zn x < 0 → zV C n tgt lv st h) (kf : ¬ zn x < 0 → zV C n (pc + 3) lv st h) : zV C n pc lv (ziv x :: st) h := fun ok H locs ls hP hS hl =>
  lv_if_lt ok.1 ok.2.1 hd ht (fun q => kt ((zo_lt0 x).mp q) ok H locs ls hP hS hl) (fun q => kf (fun z => q ((zo_lt0 x).mpr z)) ok H locs ls hP hS hl)
theorem zR_if_lt {x : Int} {off : Int} {tgt : Nat} (hd : decode (ccc C) pc = .ok (.ifCond .lt off, 3)) (ht : (pc : Int) + off = (tgt : Int)) (hx : -2147483648 ≤ x ∧ x ≤ 2147483647) (kt : x < 0 → zV C n tgt lv st h) (kf : ¬ x < 0 → zV C n (pc + 3) lv st h) : zV C n pc lv (ziv x :: st) h :=
  zV_if_lt hd ht (by rw [zn_of hx.1 hx.2]; exact kt) (by rw [zn_of hx.1 hx.2]; exact kf)
theorem zV_if_ge {x : Int} {off : Int} {tgt : Nat} (hd : decode (ccc C) pc = .ok (.ifCond .ge off, 3)) (ht : (pc : Int) + off = (tgt : Int)) (kt : 0 ≤ zn x → zV C n tgt lv st h) (kf : ¬ 0 ≤ zn x → zV C n (pc + 3) lv st h) : zV C n pc lv (ziv x :: st) h := fun ok H locs ls hP hS hl =>
  lv_if_ge ok.1 ok.2.1 hd ht (fun q => kt ((zo_0le x).mp q) ok H locs ls hP hS hl) (fun q => kf (fun z => q ((zo_0le x).mpr z)) ok H locs ls hP hS hl)
theorem zR_if_ge {x : Int} {off : Int} {tgt : Nat} (hd : decode (ccc C) pc = .ok (.ifCond .ge off, 3)) (ht : (pc : Int) + off = (tgt : Int)) (hx : -2147483648 ≤ x ∧ x ≤ 2147483647) (kt : 0 ≤ x → zV C n tgt lv st h) (kf : ¬ 0 ≤ x → zV C n (pc + 3) lv st h) : zV C n pc lv (ziv x :: st) h :=
  zV_if_ge hd ht (by rw [zn_of hx.1 hx.2]; exact kt) (by rw [zn_of hx.1 hx.2]; exact kf)
theorem zV_if_gt {x : Int} {off : Int} {tgt : Nat} (hd : decode (ccc C) pc = .ok (.ifCond .gt off, 3)) (ht : (pc : Int) + off = (tgt : Int)) (kt : 0 < zn x → zV C n tgt lv st h) (kf : ¬ 0 < zn x → zV C n (pc + 3) lv st h) : zV C n pc lv (ziv x :: st) h := fun ok H locs ls hP hS hl =>
  lv_if_gt ok.1 ok.2.1 hd ht (fun q => kt ((zo_0lt x).mp q) ok H locs ls hP hS hl) (fun q => kf (fun z => q ((zo_0lt x).mpr z)) ok H locs ls hP hS hl)
theorem zR_if_gt {x : Int} {off : Int} {tgt : Nat} (hd : decode (ccc C) pc = .ok (.ifCond .gt off, 3)) (ht : (pc : Int) + off = (tgt : Int)) (hx : -2147483648 ≤ x ∧ x ≤ 2147483647) (kt : 0 < x → zV C n tgt lv st h) (kf : ¬ 0 < x → zV C n (pc + 3) lv st h) : zV C n pc lv (ziv x :: st) h :=
  zV_if_gt hd ht (by rw [zn_of hx.1 hx.2]; exact kt) (by rw [zn_of hx.1 hx.2]; exact kf)
theorem zV_if_le {x : Int} {off : Int} {tgt : Nat} (hd : decode (ccc C) pc = .ok (.ifCond .le off, 3)) (ht : (pc : Int) + off = (tgt : Int)) (kt : zn x ≤ 0 → zV C n tgt lv st h) (kf : ¬ zn x ≤ 0 → zV C n (pc + 3) lv st h) : zV C n pc lv (ziv x :: st) h := fun ok H locs ls hP hS hl =>
  lv_if_le ok.1 ok.2.1 hd ht (fun q => kt ((zo_le0 x).mp q) ok H locs ls hP hS hl) (fun q => kf (fun z => q ((zo_le0 x).mpr z)) ok H locs ls hP hS hl)
theorem zR_if_le {x : Int} {off : Int} {tgt : Nat} (hd : decode (ccc C) pc = .ok (.ifCond .le off, 3)) (ht : (pc : Int) + off = (tgt : Int)) (hx : -2147483648 ≤ x ∧ x ≤ 2147483647) (kt : x ≤ 0 → zV C n tgt lv st h) (kf : ¬ x ≤ 0 → zV C n (pc + 3) lv st h) : zV C n pc lv (ziv x :: st) h :=
  zV_if_le hd ht (by rw [zn_of hx.1 hx.2]; exact kt) (by rw [zn_of hx.1 hx.2]; exact kf)
theorem zV_if_ne {x : Int} {off : Int} {tgt : Nat} (hd : decode (ccc C) pc = .ok (.ifCond .ne off, 3)) (ht : (pc : Int) + off = (tgt : Int)) (kt : ¬ zn x = 0 → zV C n tgt lv st h) (kf : zn x = 0 → zV C n (pc + 3) lv st h) : zV C n pc lv (ziv x :: st) h := fun ok H locs ls hP hS hl =>
  lv_if_ne ok.1 ok.2.1 hd ht (fun q => kt (((not_congr (zo_eq0 x))).mp q) ok H locs ls hP hS hl) (fun q => kf (((zo_eq0 x)).mp q) ok H locs ls hP hS hl)
theorem zR_if_ne {x : Int} {off : Int} {tgt : Nat} (hd : decode (ccc C) pc = .ok (.ifCond .ne off, 3)) (ht : (pc : Int) + off = (tgt : Int)) (hx : -2147483648 ≤ x ∧ x ≤ 2147483647) (kt : ¬ x = 0 → zV C n tgt lv st h) (kf : x = 0 → zV C n (pc + 3) lv st h) : zV C n pc lv (ziv x :: st) h :=
  zV_if_ne hd ht (by rw [zn_of hx.1 hx.2]; exact kt) (by rw [zn_of hx.1 hx.2]; exact kf)
theorem zV_tableOut {dflt lo hi : Int} {offs : Array Int} {len : Nat} {x : Int} {tgt : Nat} (hd : decode (ccc C) pc = .ok (.tableswitch dflt lo hi offs, len)) (hx : zn x < lo ∨ hi < zn x) (ht : (pc : Int) + dflt = (tgt : Int)) (k : zV C n tgt lv st h) : zV C n pc lv (ziv x :: st) h := fun ok H locs ls hP hS hl =>
  lv_tableOut ok.1 ok.2.1 hd hx ht (k ok H locs ls hP hS hl)
theorem zV_tableIn {dflt lo hi : Int} {offs : Array Int} {len : Nat} {x off : Int} {tgt : Nat} (hd : decode (ccc C) pc = .ok (.tableswitch dflt lo hi offs, len)) (h1 : ¬ zn x < lo) (h2 : ¬ hi < zn x) (ho : offs[(zn x - lo).toNat]? = some off) (ht : (pc : Int) + off = (tgt : Int)) (k : zV C n tgt lv st h) : zV C n pc lv (ziv x :: st) h := fun ok H locs ls hP hS hl =>
  lv_tableIn ok.1 ok.2.1 hd h1 h2 ho ht (k ok H locs ls hP hS hl)
theorem zV_lookup {dflt : Int} {ps : Array (Int × Int)} {len : Nat} {x off : Int} {tgt : Nat} (hd : decode (ccc C) pc = .ok (.lookupswitch dflt ps, len)) (hp : (ps.toList.zip (ps.toList.drop 1)).all (fun (a, next) => a.1 < next.1) = true) (ho : Op.lookupswitch.offset ps.toList dflt (zn x) = off) (ht : (pc : Int) + off = (tgt : Int)) (k : zV C n tgt lv st h) : zV C n pc lv (ziv x :: st) h := fun ok H locs ls hP hS hl =>
  lv_lookup ok.1 ok.2.1 hd hp ho ht (k ok H locs ls hP hS hl)
/-! longs -/
theorem zV_lconst {v : Fin 2} (hd : decode (ccc C) pc = .ok (.lconst v, 1)) (k : zV C n (pc + 1) lv (zlv ((v : Nat) : Int) :: st) h) : zV C n pc lv st h := fun ok H locs ls hP hS hl =>
  lv_lconst ok.1 ok.2.1 hd rfl (by have := k ok H locs ls hP hS hl; unfold zlv at this; rw [Int64.ofInt_eq_ofNat] at this; exact this)
theorem zV_i2l {x : Int} (hd : decode (ccc C) pc = .ok (.i2l, 1)) (hx : -2147483648 ≤ x ∧ x ≤ 2147483647) (k : zV C n (pc + 1) lv (zlv x :: st) h) : zV C n pc lv (ziv x :: st) h := fun ok H locs ls hP hS hl =>
  lv_i2l ok.1 ok.2.1 hd (by
    apply Int64.toInt_inj.mp
    rw [Int32.toInt_toInt64, Int64.toInt_ofInt]
    rw [show (Int32.ofInt x).toInt = x from zn_of hx.1 hx.2]
    exact (Int.bmod_eq_of_le (by simp only [Int64.size]; omega) (by simp only [Int64.size]; omega)).symm) (k ok H locs ls hP hS hl)
/-! the end -/
theorem zV_ireturn {v : Int} (hd : decode (ccc C) pc = .ok (.ireturn, 1)) (hr : (cM C).2.2.2 = some .int) (hn : n ≤ ck C) (hQ : cQ C (some (ziv v)) h) : zV C n pc lv [ziv v] h := fun ok H locs ls hP hS hl =>
  W.widen hn (Nat.mul_le_mul_left 6 hn) (vx_ret (W.iret (v := Int32.ofInt v) ok.1 ok.2.1 (ok.2.2.1.trans hr) (fun t ht hW => ⟨⟨some (ziv v), h, rfl, hQ, by rw [ht]; exact hP⟩, hS.F ht⟩) hS.2.2 hd ok.2.2.2.2.2.2.1))
theorem znar_z {v : Int} (hv : v = 0 ∨ v = 1) : narrow .boolean (.int (Int32.ofInt v)) = .int (Int32.ofInt v) := by
  rcases hv with rfl | rfl <;> rfl
theorem zV_zreturn {v : Int} (hd : decode (ccc C) pc = .ok (.ireturn, 1)) (hr : (cM C).2.2.2 = some .boolean) (hv : v = 0 ∨ v = 1) (hn : n ≤ ck C) (hQ : cQ C (some (ziv v)) h) : zV C n pc lv [ziv v] h := fun ok H locs ls hP hS hl =>
  W.widen hn (Nat.mul_le_mul_left 6 hn) (vx_ret (W.zret (v := Int32.ofInt v) ok.1 ok.2.1 (ok.2.2.1.trans hr) (znar_z hv) (fun t ht hW => ⟨⟨some (ziv v), h, rfl, hQ, by rw [ht]; exact hP⟩, hS.F ht⟩) hS.2.2 hd ok.2.2.2.2.2.2.1))
theorem zV_vreturn (hd : decode (ccc C) pc = .ok (.return_, 1)) (hr : (cM C).2.2.2 = none) (hn : n ≤ ck C) (hQ : cQ C none h) : zV C n pc lv [] h := fun ok H locs ls hP hS hl =>
  W.widen hn (Nat.mul_le_mul_left 6 hn) (vx_ret (W.vret ok.1 ok.2.1 (ok.2.2.1.trans hr) (fun t ht hW => ⟨⟨none, h, rfl, hQ, by rw [ht]; exact hP⟩, hS.F ht⟩) hS.2.2 hd ok.2.2.2.2.2.2.1))
theorem zV_areturn {a : Nat} {rt : FieldType} (hd : decode (ccc C) pc = .ok (.areturn, 1)) (hr : (cM C).2.2.2 = some rt) (hrt : (∃ n, rt = .object n) ∨ ∃ t, rt = .array t) (hn : n ≤ ck C) (hQ : cQ C (some (zrv (cE C) a)) h) : zV C n pc lv [zrv (cE C) a] h := fun ok H locs ls hP hS hl =>
  W.widen hn (Nat.mul_le_mul_left 6 hn) (vx_ret (W.aret (v := zrv (cE C) a) ok.1 ok.2.1 (ok.2.2.1.trans hr) hrt (Or.inr ⟨_, rfl⟩) (fun t ht hW => ⟨⟨some (zrv (cE C) a), h, rfl, hQ, by rw [ht]; exact hP⟩, hS.F ht⟩) hS.2.2 hd ok.2.2.2.2.2.2.1))
theorem zV_widen {n' : Nat} (hn : n ≤ n') (k : zV C n' pc lv st h) : zV C n pc lv st h := fun ok H locs ls hP hS hl =>
  W.widen hn (Nat.mul_le_mul_left 6 hn) (k ok H locs ls hP hS hl)
end ZR
