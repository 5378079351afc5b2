def mInvY (h : zH) (n jn : Nat) : Prop := mCt h n jn ∧ mDy h n jn

/-! THE REFERENCE: years -/
def yOfM (h : zH) : zY := (h 64 57, h 80, h 82, h 64 33)
def befM (h : zH) (n jn : Nat) (h' : zH) : Prop := (∀ c2 : Nat, c2 ≠ 64 → c2 ≠ 80 → c2 ≠ 82 → h' c2 = h c2) ∧ (∀ j, j ≠ 33 → j ≠ 57 → h' 64 j = h 64 j) ∧ yOfM h' = befS n jn (yOfM h)
def yVM (h : zH) (n jn : Nat) (sd : Int) (k : Nat) : Int := (yrS n jn (gM h) (h 64 32) (sd, h 80, h 82, h 64 33) k).2
def yYM (h : zH) (n jn : Nat) (sd : Int) (k : Nat) : zY := (yrS n jn (gM h) (h 64 32) (sd, h 80, h 82, h 64 33) k).1
theorem yVM_lo (h : zH) (n jn : Nat) (sd : Int) (k : Nat) : 0 ≤ yVM h n jn sd (k + 1) ∧ yVM h n jn sd (k + 1) < 5 := oneV_lo _ _ _ _ _
def wsM (w : Nat → Int) (o : Int → Int) : Nat → Int
  | 0 => 0
  | j + 1 => wsM w o j + o (w j)
def yeVM (h : zH) (n jn : Nat) (sd y w : Int) : Int :=
  if w = 2 then wsM (h 74) (fun v => oftS (yVM h n jn sd) v y.toNat) jn else if w = 0 then oftS (yVM h n jn sd) (argS (fun v => oftS (yVM h n jn sd) v y.toNat) 5) y.toNat else if y = 0 then -1 else argS (fun v => oftS (yVM h n jn sd) v y.toNat) 5
def yI2 (h : zH) (n jn : Nat) (sd : Int) (k : Nat) (h1 h2 : zH) : Prop := ((∀ c2 : Nat, (c2 < 64 ∨ (64 < c2 ∧ c2 < 80) ∨ c2 = 81 ∨ c2 = 83 ∨ c2 = 87 ∨ (92 ≤ c2 ∧ c2 ≤ 94) ∨ 98 ≤ c2) → h2 c2 = h1 c2) ∧ ∀ j, (j = 4 ∨ (stf j ∧ j ≠ 32 ∧ j ≠ 33 ∧ j ≠ 34)) → h2 64 j = h1 64 j) ∧ yag n jn (yOfM h2) (yYM h n jn sd k) ∧ h2 64 32 = h 64 32 + k ∧ (∀ v : Nat, v < 5 → h2 88 v = oftS (yVM h n jn sd) (v : Int) k) ∧ mInvY h2 n jn

theorem y_step {h h1 h2 h3 h4 : zH} {n jn k : Nat} {sd : Int} (hm : mInv h n jn) (hk : k ≤ 60) (e1 : ∀ c2 : Nat, (c2 = 68 ∨ c2 = 70 ∨ c2 = 71 ∨ c2 = 75 ∨ c2 = 76 ∨ c2 = 81 ∨ c2 = 78) → h1 c2 = h c2) (hI : yI2 h n jn sd k h1 h2) (hb : befM h2 n jn h3) (hc : mcase h3 n jn h4) :
    h4 64 34 = yVM h n jn sd (k + 1) ∧ ∀ h5 : zH, (∀ c2 : Nat, c2 ≠ 88 → h5 c2 = h4 c2) → (∀ v : Nat, v < 5 → h5 88 v = oftS (yVM h n jn sd) (v : Int) (k + 1)) → yI2 h n jn sd (k + 1) h1 h5 := by
  obtain ⟨⟨f1, f2⟩, y2, c2, o2, ct2, dy2⟩ := hI
  obtain ⟨b1, b2, b3⟩ := hb
  have y3 : yag n jn (yOfM h3) (befS n jn (yYM h n jn sd k)) := by rw [b3]; exact befS_congr y2
  have lo := befS_lo (n := n) (jn := jn) (y := yOfM h2) dy2.1 dy2.2.2.1 dy2.2.2.2.2.1
  rw [← b3] at lo
  have ct3 : mCt h3 n jn := mCt_congr (b1 68 (by decide) (by decide) (by decide)) (b1 70 (by decide) (by decide) (by decide)) (b1 71 (by decide) (by decide) (by decide)) (b1 74 (by decide) (by decide) (by decide)) (b1 75 (by decide) (by decide) (by decide)) (b1 76 (by decide) (by decide) (by decide)) ct2
  have e32 : h3 64 32 = h 64 32 + k := by rw [b2 32 (by decide) (by decide)]; exact c2
  have dy3 : mDy h3 n jn := ⟨lo.1, by rw [b1 78 (by decide) (by decide) (by decide)]; exact dy2.2.1, lo.2.1, by rw [b1 81 (by decide) (by decide) (by decide)]; exact dy2.2.2.2.1, lo.2.2, by rw [b2 32 (by decide) (by decide)]; exact dy2.2.2.2.2.2⟩
  have m9 := hm.2.2
  have m8 := hm.2.1.2.2.2.2.2
  have r4 := mrun_s ct3 (by rw [e32]; omega) (mrun_0 ct3 dy3) hc
  obtain ⟨r0, r1, r2, r3, r5, r6⟩ := r4
  have hx : ∀ c2 : Nat, (c2 = 68 ∨ c2 = 70 ∨ c2 = 71 ∨ c2 = 75 ∨ c2 = 76 ∨ c2 = 81 ∨ c2 = 78) → h3 c2 = h c2 := fun c2 hc2 => by rw [b1 c2 (by omega) (by omega) (by omega), f1 c2 (by omega), e1 c2 hc2]
  have hg : gag n jn (gM h3) (gY (gM h) (befS n jn (yYM h n jn sd k))) := by
    unfold gM
    rw [ruM_congr (ru := 0) (hx 68 (by omega)) (hx 75 (by omega)), ruM_congr (ru := 1) (hx 68 (by omega)) (hx 76 (by omega)), hx 68 (by omega), hx 70 (by omega), hx 71 (by omega), hx 81 (by omega), hx 78 (by omega)]
    exact ⟨agn_rfl _ _, y3.2.2.1, agn_rfl _ _, y3.2.2.2, agn_rfl _ _, agn_rfl _ _, rfl⟩
  have hr := runG_congr hg dy3.2.2.2.1 (ca := h 64 32 + k) (x := (h3 80, 0, 0, fun _ => 0)) (y := ((befS n jn (yYM h n jn sd k)).2.1, 0, 0, fun _ => 0)) y3.2.1 1
  have hR : RM h3 n jn 1 = runG n jn (gM h3) (h 64 32 + k) (h3 80, 0, 0, fun _ => 0) 1 := by unfold RM; rw [e32]
  rw [show (0 : Nat) + 1 = 1 from rfl, hR] at r1 r2
  refine ⟨(r2 (by omega)).1.trans (hr.2 (by omega)).1, fun h5 g1 g2 => ⟨⟨fun c9 hc9 => ?_, fun j hj => ?_⟩, ⟨?_, ?_, ?_, ?_⟩, ?_, g2, ?_⟩⟩
  · rw [g1 c9 (by omega), hc.1.1 c9 (by omega) (by omega) (by omega) (by omega) (by omega), b1 c9 (by omega) (by omega) (by omega), f1 c9 hc9]
  · rw [g1 64 (by decide), hc.1.2 j (by unfold stf at hj; omega) (by unfold stf at hj; omega) (by unfold stf at hj; omega), b2 j (by unfold stf at hj; omega) (by unfold stf at hj; omega), f2 j hj]
  · show h5 64 57 = (befS n jn (yYM h n jn sd k)).1
    rw [g1 64 (by decide), hc.1.2 57 (by decide) (by decide) (by decide)]; exact y3.1
  · show agn n (h5 80) _
    rw [g1 80 (by decide)]; exact agn_trans r1 hr.1
  · show agn jn (h5 82) (befS n jn (yYM h n jn sd k)).2.2.1
    rw [g1 82 (by decide), hc.1.1 82 (by decide) (by decide) (by decide) (by decide) (by decide)]; exact y3.2.2.1
  · show h5 64 33 = (befS n jn (yYM h n jn sd k)).2.2.2
    rw [g1 64 (by decide), hc.1.2 33 (by decide) (by decide) (by decide)]; exact y3.2.2.2
  · rw [g1 64 (by decide), r3, e32]; omega
  · obtain ⟨d1, d2, d3, d4, d5, d6⟩ := r5
    exact ⟨mCt_congr (g1 68 (by decide)) (g1 70 (by decide)) (g1 71 (by decide)) (g1 74 (by decide)) (g1 75 (by decide)) (g1 76 (by decide)) r6, ⟨by rw [g1 80 (by decide)]; exact d1, by rw [g1 78 (by decide)]; exact d2, by rw [g1 82 (by decide)]; exact d3, by rw [g1 81 (by decide)]; exact d4, by rw [g1 64 (by decide)]; exact d5, by rw [g1 64 (by decide)]; exact d6⟩⟩
theorem y_out {h hA h1 h2 h7 : zH} {n jn k : Nat} {sd : Int} (mqA : mq h hA) (pk : mpk hA 87 0 h1) {hS : zH} (eS : ∀ c2 : Nat, c2 ≠ 64 → hS c2 = h1 c2) (eS2 : ∀ j, j ≠ 57 → hS 64 j = h1 64 j) (hI : yI2 h n jn sd k hS h2) (up : munp h2 87 0 h7) : mq h h7 ∧ h7 64 4 = hA 64 4 := by
  obtain ⟨⟨f1, f2⟩, -⟩ := hI
  have r2 : ∀ i, i < 27 → h2 87 i = rowF hA i := fun i hi => by rw [f1 87 (by omega), eS 87 (by decide), pk.2 i, if_pos (by omega)]; rfl
  refine ⟨⟨fun c2 hc => ?_, fun c2 hc => ?_, fun j hj => ?_⟩, by rw [up.2.1 4 (by decide) (by decide) (by decide), f2 4 (Or.inl rfl), eS2 4 (by decide), pk.1 64 (by decide)]⟩
  · rw [up.1 c2 (by omega) (by omega) (by omega) (by omega), f1 c2 (by omega), eS c2 (by omega), pk.1 c2 (by omega)]; exact mqA.1 c2 hc
  · rcases hc with rfl | rfl | rfl | rfl
    · rw [up.1 78 (by decide) (by decide) (by decide) (by decide), f1 78 (by omega), eS 78 (by decide), pk.1 78 (by decide)]; exact mqA.2.1 78 (by omega)
    · exact fun k hk => by rw [(up.2.2.2 k hk).1, Nat.zero_add, r2 _ (by omega), rowF_l hA hk]; exact mqA.2.1 80 (by omega) k hk
    · exact fun k hk => by rw [(up.2.2.2 k hk).2.1, Nat.zero_add, r2 _ (by omega), rowF_s hA hk]; exact mqA.2.1 81 (by omega) k hk
    · exact fun k hk => by rw [(up.2.2.2 k hk).2.2, Nat.zero_add, r2 _ (by omega), rowF_h hA]; exact mqA.2.1 82 (by omega) k hk
  · by_cases e1 : j = 32
    · subst e1; rw [up.2.2.1.1, r2 0 (by decide)]; exact mqA.2.2 32 hj
    · by_cases e2 : j = 33
      · subst e2; rw [up.2.2.1.2.1, Nat.zero_add, r2 1 (by decide)]; exact mqA.2.2 33 hj
      · by_cases e3 : j = 34
        · subst e3; rw [up.2.2.1.2.2, Nat.zero_add, r2 2 (by decide)]; exact mqA.2.2 34 hj
        · rw [up.2.1 j e1 e2 e3, f2 j (Or.inr ⟨hj, e1, e2, e3⟩), eS2 j (by unfold stf at hj; omega), pk.1 64 (by decide)]; exact mqA.2.2 j hj
theorem wsM_lo {w : Nat → Int} {o : Int → Int} {y : Int} (hy : 0 ≤ y) (ho : ∀ v, 0 ≤ o v ∧ o v ≤ y) : ∀ m : Nat, 0 ≤ wsM w o m ∧ wsM w o m ≤ y * m := by
  intro m
  induction m with
  | zero => simp [wsM]
  | succ m ih =>
    have := ho (w m)
    show 0 ≤ wsM w o m + o (w m) ∧ wsM w o m + o (w m) ≤ y * ((m + 1 : Nat) : Int)
    rw [Int.natCast_succ, Int.mul_add, Int.mul_one]
    omega

set_option maxRecDepth 100000 in
theorem c6_drawOf {E : zE} {h : zH} {m : Int} (d k : Nat) (hm : 1 ≤ m ∧ m ≤ 1000) : zCal E mX6_drawOf d k [zrv E 64, ziv m] h (fun r h' => r = some (ziv (drV (h 64 57) m)) ∧ h' = zup h 64 57 (drS (h 64 57))) (fun _ _ => False) := by
  refine zCal_of (by decide) (Nat.le_of_ble_eq_true rfl) (fun a => ?_)
  show zV _ 0 0 [zrv E 64, ziv m] [] _
  refine zV_aload_nr dX6_drawOf_0 rfl rfl ?_
  refine zV_aload_nr dX6_drawOf_1 rfl rfl ?_
  refine gf6_479 rfl rfl dX6_drawOf_2 ?_
  refine zV_ldcw (v := 1103515245) kc6_482 dX6_drawOf_5 ?_
  refine zV_imul dX6_drawOf_8 ?_
  refine zV_sipush dX6_drawOf_9 (by decide) ?_
  refine zV_iadd dX6_drawOf_12 ?_
  refine pf6_479 rfl (rfl) dX6_drawOf_13 ?_
  refine zV_aload_nr dX6_drawOf_16 rfl rfl ?_
  refine gf6_479 rfl rfl dX6_drawOf_17 ?_
  refine zV_teq (w := ziv (drS (h 64 57))) (congrArg ziv (by rw [zup_at, if_pos rfl]; rfl)) ?_
  refine zV_bipush dX6_drawOf_20 (by decide) ?_
  refine zV_ishr dX6_drawOf_22 ?_
  refine zV_sipush dX6_drawOf_23 (by decide) ?_
  refine zV_iand dX6_drawOf_26 ?_
  have zk := zand_k (zshr (drS (h 64 57)) 16)
  refine zV_iload_n dX6_drawOf_27 rfl rfl ?_
  refine zV_irem dX6_drawOf_28 (by rw [zn_of (by omega) (by omega)]; omega) ?_
  exact zV_ireturn dX6_drawOf_29 rfl (Nat.zero_le _) ⟨by rw [zrem_eq (by omega) (by omega), Int.tmod_eq_emod_of_nonneg (by omega)]; rfl, rfl⟩
theorem zup2 (h : zH) (c i : Nat) (v : Int) {w : Int} : zup (zup h c i w) c i v = zup h c i v := by
  funext c2 i2; unfold zup; by_cases e : c2 = c ∧ i2 = i
  · rw [if_pos e, if_pos e]
  · rw [if_neg e, if_neg e, if_neg e]
theorem bef_0 {h : zH} {n jn : Nat} (b : drV (h 64 57) 6 = 0) (hn : 0 < n) : befM h n jn (zup (zup h 64 57 (drS (drS (drS (h 64 57))))) 80 (drV (drS (h 64 57)) n).toNat (drV (drS (drS (h 64 57))) 12)) :=
  ⟨fun c2 x y z => by rw [zup_fn y, zup_fn x], fun j x y => by rw [zup_fn (by decide), zup_at, if_neg y], by unfold befS yOfM; dsimp only; rw [if_pos b, if_pos hn, zup_set, zup_fn (show (80 : Nat) ≠ 64 by decide)]; rfl⟩
theorem bef_0n {h : zH} {n jn : Nat} (b : drV (h 64 57) 6 = 0) (hn : ¬ 0 < n) : befM h n jn (zup h 64 57 (drS (h 64 57))) :=
  ⟨fun c2 x y z => by rw [zup_fn x], fun j x y => by rw [zup_at, if_neg y], by unfold befS yOfM; dsimp only; rw [if_pos b, if_neg hn]; rfl⟩
theorem bef_1 {h : zH} {n jn : Nat} (b : drV (h 64 57) 6 = 1) (hn : 0 < jn) : befM h n jn (zup (zup h 64 57 (drS (drS (drS (h 64 57))))) 82 (drV (drS (h 64 57)) jn).toNat (drV (drS (drS (h 64 57))) 13)) :=
  ⟨fun c2 x y z => by rw [zup_fn z, zup_fn x], fun j x y => by rw [zup_fn (by decide), zup_at, if_neg y], by unfold befS yOfM; dsimp only; rw [if_neg (by omega), if_pos b, if_pos hn, zup_set, zup_fn (show (82 : Nat) ≠ 64 by decide)]; rfl⟩
theorem bef_1n {h : zH} {n jn : Nat} (b : drV (h 64 57) 6 = 1) (hn : ¬ 0 < jn) : befM h n jn (zup h 64 57 (drS (h 64 57))) :=
  ⟨fun c2 x y z => by rw [zup_fn x], fun j x y => by rw [zup_at, if_neg y], by unfold befS yOfM; dsimp only; rw [if_neg (by omega), if_pos b, if_neg hn]; rfl⟩
theorem bef_2 {h : zH} {n jn : Nat} (b : drV (h 64 57) 6 = 2) : befM h n jn (zup (zup h 64 57 (drS (drS (h 64 57)))) 64 33 (drV (drS (h 64 57)) 100)) :=
  ⟨fun c2 x y z => by rw [zup_fn x, zup_fn x], fun j x y => by rw [zup_at, if_neg x, zup_at, if_neg y], by unfold befS yOfM; dsimp only; rw [if_neg (by omega), if_neg (by omega), if_pos b]; rfl⟩
theorem bef_x {h : zH} {n jn : Nat} (b0 : ¬ drV (h 64 57) 6 = 0) (b1 : ¬ drV (h 64 57) 6 = 1) (b2 : ¬ drV (h 64 57) 6 = 2) : befM h n jn (zup h 64 57 (drS (h 64 57))) :=
  ⟨fun c2 x y z => by rw [zup_fn x], fun j x y => by rw [zup_at, if_neg y], by unfold befS yOfM; dsimp only; rw [if_neg b0, if_neg b1, if_neg b2]; rfl⟩
theorem y_pre {h h1 h2 h3 : zH} {n jn k : Nat} {sd : Int} (hI : yI2 h n jn sd k h1 h2) (hb : befM h2 n jn h3) : mCt h3 n jn ∧ mDy h3 n jn := by
  obtain ⟨⟨f1, f2⟩, y2, c2, o2, ct2, dy2⟩ := hI
  obtain ⟨b1, b2, b3⟩ := hb
  have lo := befS_lo (n := n) (jn := jn) (y := yOfM h2) dy2.1 dy2.2.2.1 dy2.2.2.2.2.1
  rw [← b3] at lo
  exact ⟨mCt_congr (b1 68 (by decide) (by decide) (by decide)) (b1 70 (by decide) (by decide) (by decide)) (b1 71 (by decide) (by decide) (by decide)) (b1 74 (by decide) (by decide) (by decide)) (b1 75 (by decide) (by decide) (by decide)) (b1 76 (by decide) (by decide) (by decide)) ct2,
    ⟨lo.1, by rw [b1 78 (by decide) (by decide) (by decide)]; exact dy2.2.1, lo.2.1, by rw [b1 81 (by decide) (by decide) (by decide)]; exact dy2.2.2.2.1, lo.2.2, by rw [b2 32 (by decide) (by decide)]; exact dy2.2.2.2.2.2⟩⟩
theorem mq_w88 {h h0 h1 : zH} (q0 : mq h h0) (f1 : ∀ c2 : Nat, c2 ≠ 88 → h1 c2 = h0 c2) : mq h h1 :=
  mq_trans q0 ⟨fun c2 hc => f1 c2 (by omega), fun c2 hc => by rw [f1 c2 (by omega)]; exact agn_rfl _ _, fun j hj => by rw [f1 64 (by decide)]⟩
theorem yI2_0 {h hS : zH} {n jn : Nat} {sd : Int} (hm : mInv h n jn) (e : ∀ c2 : Nat, c2 ≠ 64 → c2 ≠ 87 → c2 ≠ 88 → hS c2 = h c2) (e2 : ∀ j, j ≠ 57 → j ≠ 4 → hS 64 j = h 64 j) (e57 : hS 64 57 = sd) (z : ∀ v : Nat, v < 5 → hS 88 v = 0) : yI2 h n jn sd 0 hS hS := by
  obtain ⟨m1, ⟨d1, d2, d3, d4, d5, d6⟩, m3⟩ := hm
  refine ⟨⟨fun _ _ => rfl, fun _ _ => rfl⟩, ⟨e57, ?_, ?_, e2 33 (by decide) (by decide)⟩, by rw [e2 32 (by decide) (by decide)]; omega, fun v hv => z v hv, mCt_congr (e 68 (by decide) (by decide) (by decide)) (e 70 (by decide) (by decide) (by decide)) (e 71 (by decide) (by decide) (by decide)) (e 74 (by decide) (by decide) (by decide)) (e 75 (by decide) (by decide) (by decide)) (e 76 (by decide) (by decide) (by decide)) m1, ⟨by rw [e 80 (by decide) (by decide) (by decide)]; exact d1, by rw [e 78 (by decide) (by decide) (by decide)]; exact d2, by rw [e 82 (by decide) (by decide) (by decide)]; exact d3, by rw [e 81 (by decide) (by decide) (by decide)]; exact d4, by rw [e2 33 (by decide) (by decide)]; exact d5, by rw [e2 32 (by decide) (by decide)]; exact d6⟩⟩
  · show agn n (hS 80) (h 80); rw [e 80 (by decide) (by decide) (by decide)]; exact agn_rfl _ _
  · show agn jn (hS 82) (h 82); rw [e 82 (by decide) (by decide) (by decide)]; exact agn_rfl _ _

theorem argS_1 (f : Nat → Int) (m : Nat) : ¬ argS f (m + 1) = -1 := by
  rw [argS_s]
  split
  · omega
  · rename_i h; exact fun z => h (Or.inl z)

set_option maxRecDepth 100000 in
theorem c6_something {E : zE} {h : zH} {n jn : Nat} (d k : Nat) (hd : 1 ≤ d) (hct : mCt h n jn) : zCal E mX6_something d k [zrv E 64] h (fun r h' => r = none ∧ befM h n jn h') (fun _ _ => False) := by
  refine zCal_of (by decide) (Nat.le_of_ble_eq_true rfl) (fun a => ?_)
  show zV _ 0 0 [zrv E 64, .null, .null] [] _
  obtain ⟨⟨hn, hjn, t0, t1⟩, -⟩ := id hct
  have d6 := drV_lo (h 64 57) (m := 6) (by decide)
  refine zV_aload_nr dX6_something_0 rfl rfl ?_
  refine zV_bipush dX6_something_1 (by decide) ?_
  refine zV_callV (As := [ziv 6]) lk6_483 (rfl) rfl rfl (c6_drawOf (d - 1) 0 (by omega)) ⟨by show _ + 1 ≤ d; omega, by show _ ≤ k; omega⟩ rfl (Nat.le_of_ble_eq_true rfl) dX6_something_3 (fun _ _ z => z.elim) (fun r h9 q => ?_)
  obtain ⟨rfl, hh⟩ := q
  rw [hh]
  clear hh
  refine zV_istore_n dX6_something_6 rfl (Nat.le_of_ble_eq_true rfl) rfl ?_
  refine zV_iload_n dX6_something_7 rfl rfl ?_
  have J80 : ∀ (h1 : zH), ((drV (h 64 57) 6) = 2 → h1 = (zup h 64 57 (drS (h 64 57)))) → (¬ (drV (h 64 57) 6) = 2 → befM h n jn h1) → zV (E, mX6_something, d, k, (fun r h' => r = none ∧ befM h n jn h'), (fun _ _ => False), a) 0 80 [zrv E 64, ziv (drV (h 64 57) 6), .null] [] h1 := by
    intro h1 q1 q2
    refine zV_iload_n dX6_something_80 rfl rfl ?_
    refine zV_iconst dX6_something_81 ?_
    refine zR_icmp_ne (tgt := 95) dX6_something_82 (by decide) (by omega) (by omega) (fun h82 => ?_) (fun h82 => ?_)
    · exact zV_vreturn dX6_something_95 rfl (Nat.zero_le _) ⟨rfl, q2 h82⟩
    · have e1 := q1 h82
      subst e1
      refine zV_aload_nr dX6_something_85 rfl rfl ?_
      refine zV_aload_nr dX6_something_86 rfl rfl ?_
      refine zV_bipush dX6_something_87 (by decide) ?_
      refine zV_callV (As := [ziv 100]) lk6_483 (rfl) rfl rfl (c6_drawOf (m := 100) (d - 1) 0 (by omega)) ⟨by show _ + 1 ≤ d; omega, by show _ ≤ k; omega⟩ rfl (Nat.le_of_ble_eq_true rfl) dX6_something_89 (fun _ _ z => z.elim) (fun r h9 q => ?_)
      obtain ⟨rfl, hh⟩ := q
      rw [hh]
      clear hh
      refine zV_teq (w := ziv (drV (drS (h 64 57)) 100)) (congrArg ziv (by rw [zup_at, if_pos rfl])) ?_
      refine zV_heq (h' := zup h 64 57 (drS (drS (h 64 57)))) (zup2 _ _ _ _).symm ?_
      refine pf6_151 rfl (rfl) dX6_something_92 ?_
      exact zV_vreturn dX6_something_95 rfl (Nat.zero_le _) ⟨rfl, bef_2 h82⟩
  have J43 : ∀ (h1 : zH), ((drV (h 64 57) 6) = 0 → befM h n jn h1) → (¬ (drV (h 64 57) 6) = 0 → h1 = (zup h 64 57 (drS (h 64 57)))) → zV (E, mX6_something, d, k, (fun r h' => r = none ∧ befM h n jn h'), (fun _ _ => False), a) 0 43 [zrv E 64, ziv (drV (h 64 57) 6), .null] [] h1 := by
    intro h1 p1 p2
    refine zV_iload_n dX6_something_43 rfl rfl ?_
    refine zV_iconst dX6_something_44 ?_
    refine zR_icmp_ne (tgt := 80) dX6_something_45 (by decide) (by omega) (by omega) (fun h45 => ?_) (fun h45 => ?_)
    · exact J80 h1 (fun z => p2 (by omega)) (fun z => by
        by_cases e : (drV (h 64 57) 6) = 0
        · exact p1 e
        · rw [p2 e]; exact bef_x e h45 z)
    · have e1 := p2 (by omega)
      subst e1
      refine zV_aload_nr dX6_something_48 rfl rfl ?_
      refine gf6_42 rfl (rfl) dX6_something_49 ?_
      refine zV_teq (w := zrv E 68) rfl ?_
      refine zV_iconst dX6_something_52 ?_
      refine zV_ialoadN (i := 1) (N := 10) (rfl) (by decide) (by decide) dX6_something_53 ?_
      refine zV_teq (w := ziv (jn : Int)) (congrArg ziv t1.symm) ?_
      refine zR_if_le (tgt := 80) dX6_something_54 (by decide) (by omega) (fun h54 => ?_) (fun h54 => ?_)
      · refine zV_drop 2 ?_
        exact J80 _ (fun z => absurd z (by omega)) (fun _ => bef_1n h45 (by omega))
      · refine zV_aload_nr dX6_something_57 rfl rfl ?_
        refine zV_aload_nr dX6_something_58 rfl rfl ?_
        refine gf6_42 rfl (rfl) dX6_something_59 ?_
        refine zV_teq (w := zrv E 68) rfl ?_
        refine zV_iconst dX6_something_62 ?_
        refine zV_ialoadN (i := 1) (N := 10) (rfl) (by decide) (by decide) dX6_something_63 ?_
        refine zV_teq (w := ziv (jn : Int)) (congrArg ziv t1.symm) ?_
        refine zV_callV (As := [ziv (jn : Int)]) lk6_483 (rfl) rfl rfl (c6_drawOf (m := (jn : Int)) (d - 1) 0 (by omega)) ⟨by show _ + 1 ≤ d; omega, by show _ ≤ k; omega⟩ rfl (Nat.le_of_ble_eq_true rfl) dX6_something_64 (fun _ _ z => z.elim) (fun r h9 q => ?_)
        obtain ⟨rfl, hh⟩ := q
        rw [hh]
        clear hh
        refine zV_teq (w := ziv (drV (drS (h 64 57)) jn)) (congrArg ziv (by rw [zup_at, if_pos rfl])) ?_
        refine zV_heq (h' := zup h 64 57 (drS (drS (h 64 57)))) (zup2 _ _ _ _).symm ?_
        have dn := drV_lo (drS (h 64 57)) (m := (jn : Int)) (by omega)
        refine zV_istore_n dX6_something_67 rfl (Nat.le_of_ble_eq_true rfl) rfl ?_
        refine zV_aload_nr dX6_something_68 rfl rfl ?_
        refine gf6_88 rfl (rfl) dX6_something_69 ?_
        refine zV_teq (w := zrv E 82) rfl ?_
        refine zV_iload_n dX6_something_72 rfl rfl ?_
        refine zV_aload_nr dX6_something_73 rfl rfl ?_
        refine zV_bipush dX6_something_74 (by decide) ?_
        refine zV_callV (As := [ziv 13]) lk6_483 (rfl) rfl rfl (c6_drawOf (m := 13) (d - 1) 0 (by omega)) ⟨by show _ + 1 ≤ d; omega, by show _ ≤ k; omega⟩ rfl (Nat.le_of_ble_eq_true rfl) dX6_something_76 (fun _ _ z => z.elim) (fun r h9 q => ?_)
        obtain ⟨rfl, hh⟩ := q
        rw [hh]
        clear hh
        refine zV_teq (w := ziv (drV (drS (drS (h 64 57))) 13)) (congrArg ziv (by rw [zup_at, if_pos rfl])) ?_
        refine zV_heq (h' := zup h 64 57 (drS (drS (drS (h 64 57))))) (zup2 _ _ _ _).symm ?_
        refine zV_iastore (N := 8) (rfl) (by omega) (by decide) dX6_something_79 ?_
        refine zV_drop 2 ?_
        exact J80 _ (fun z => absurd z (by omega)) (fun _ => bef_1 h45 (by omega))
  refine zR_if_ne (tgt := 43) dX6_something_8 (by decide) (by omega) (fun h8 => ?_) (fun h8 => ?_)
  · refine zV_drop 2 ?_
    exact J43 _ (fun z => absurd z h8) (fun _ => rfl)
  · refine zV_aload_nr dX6_something_11 rfl rfl ?_
    refine gf6_42 rfl (rfl) dX6_something_12 ?_
    refine zV_teq (w := zrv E 68) rfl ?_
    refine zV_iconst dX6_something_15 ?_
    refine zV_ialoadN (i := 0) (N := 10) (rfl) (by decide) (by decide) dX6_something_16 ?_
    refine zV_teq (w := ziv (n : Int)) (congrArg ziv t0.symm) ?_
    refine zR_if_le (tgt := 43) dX6_something_17 (by decide) (by omega) (fun h17 => ?_) (fun h17 => ?_)
    · refine zV_drop 2 ?_
      exact J43 _ (fun z => bef_0n z (by omega)) (fun z => absurd h8 z)
    · refine zV_aload_nr dX6_something_20 rfl rfl ?_
      refine zV_aload_nr dX6_something_21 rfl rfl ?_
      refine gf6_42 rfl (rfl) dX6_something_22 ?_
      refine zV_teq (w := zrv E 68) rfl ?_
      refine zV_iconst dX6_something_25 ?_
      refine zV_ialoadN (i := 0) (N := 10) (rfl) (by decide) (by decide) dX6_something_26 ?_
      refine zV_teq (w := ziv (n : Int)) (congrArg ziv t0.symm) ?_
      refine zV_callV (As := [ziv (n : Int)]) lk6_483 (rfl) rfl rfl (c6_drawOf (m := (n : Int)) (d - 1) 0 (by omega)) ⟨by show _ + 1 ≤ d; omega, by show _ ≤ k; omega⟩ rfl (Nat.le_of_ble_eq_true rfl) dX6_something_27 (fun _ _ z => z.elim) (fun r h9 q => ?_)
      obtain ⟨rfl, hh⟩ := q
      rw [hh]
      clear hh
      refine zV_teq (w := ziv (drV (drS (h 64 57)) n)) (congrArg ziv (by rw [zup_at, if_pos rfl])) ?_
      refine zV_heq (h' := zup h 64 57 (drS (drS (h 64 57)))) (zup2 _ _ _ _).symm ?_
      have dn := drV_lo (drS (h 64 57)) (m := (n : Int)) (by omega)
      refine zV_istore_n dX6_something_30 rfl (Nat.le_of_ble_eq_true rfl) rfl ?_
      refine zV_aload_nr dX6_something_31 rfl rfl ?_
      refine gf6_82 rfl (rfl) dX6_something_32 ?_
      refine zV_teq (w := zrv E 80) rfl ?_
      refine zV_iload_n dX6_something_35 rfl rfl ?_
      refine zV_aload_nr dX6_something_36 rfl rfl ?_
      refine zV_bipush dX6_something_37 (by decide) ?_
      refine zV_callV (As := [ziv 12]) lk6_483 (rfl) rfl rfl (c6_drawOf (m := 12) (d - 1) 0 (by omega)) ⟨by show _ + 1 ≤ d; omega, by show _ ≤ k; omega⟩ rfl (Nat.le_of_ble_eq_true rfl) dX6_something_39 (fun _ _ z => z.elim) (fun r h9 q => ?_)
      obtain ⟨rfl, hh⟩ := q
      rw [hh]
      clear hh
      refine zV_teq (w := ziv (drV (drS (drS (h 64 57))) 12)) (congrArg ziv (by rw [zup_at, if_pos rfl])) ?_
      refine zV_heq (h' := zup h 64 57 (drS (drS (drS (h 64 57))))) (zup2 _ _ _ _).symm ?_
      refine zV_iastore (N := 8) (rfl) (by omega) (by decide) dX6_something_42 ?_
      refine zV_drop 2 ?_
      exact J43 _ (fun z => bef_0 z (by omega)) (fun z => absurd h8 z)
set_option maxRecDepth 100000 in
theorem c6_years {E : zE} {h : zH} {n jn : Nat} {sd y w : Int} (hy : -2147483648 ≤ y ∧ y ≤ 2147483647) (hw : -2147483648 ≤ w ∧ w ≤ 2147483647) (hm : mInv h n jn) : zCal E mX6_years 12 4 [zrv E 64, ziv sd, ziv y, ziv w] h (mA h (if 0 ≤ w ∧ w ≤ 2 then (if 0 ≤ y ∧ y ≤ 60 then 0 else 2) else 1) (yeVM h n jn sd y w)) (fun _ _ => False) := by
  refine zCal_of (by decide) (Nat.le_of_ble_eq_true rfl) (fun a => ?_)
  show zV _ 0 0 [zrv E 64, ziv sd, ziv y, ziv w, .null, .null, .null] [] _
  refine zV_aload_nr dX6_years_0 rfl rfl ?_
  refine zV_iconst dX6_years_1 ?_
  refine pf6_157 rfl (rfl) dX6_years_2 ?_
  obtain ⟨h0, hh0, q0, z0, i0, e0, e4, r0, g0⟩ := st0 hm
  rw [hh0]
  refine zV_iload_n dX6_years_5 rfl rfl ?_
  refine zV_i2l dX6_years_6 (by omega) ?_
  refine zV_lconst dX6_years_7 ?_
  refine zV_ldc2 (v := 2) kl6_468 dX6_years_8 ?_
  refine zV_callS (As := [zlv w, zlv ((0 : Nat) : Int), zlv 2]) lk6_160 (c6_isIn 11 0 (by omega) (by omega) (by omega)) ⟨by show _ + 1 ≤ 12; omega, by show _ ≤ 4; omega⟩ rfl (Nat.le_of_ble_eq_true rfl) dX6_years_11 (fun _ _ z => z.elim) (fun r h9 q => ?_)
  obtain ⟨rfl, hh⟩ := q
  rw [hh]
  clear hh
  refine zR_if_ne (tgt := 23) dX6_years_14 (by decide) (by split <;> omega) (fun h14 => ?_) (fun h14 => ?_)
  · have y14 := ipT h14
    refine zV_iload_n dX6_years_23 rfl rfl ?_
    refine zV_i2l dX6_years_24 (by omega) ?_
    refine zV_lconst dX6_years_25 ?_
    refine zV_ldc2 (v := 60) kl6_419 dX6_years_26 ?_
    refine zV_callS (As := [zlv y, zlv ((0 : Nat) : Int), zlv 60]) lk6_160 (c6_isIn 11 0 (by omega) (by omega) (by omega)) ⟨by show _ + 1 ≤ 12; omega, by show _ ≤ 4; omega⟩ rfl (Nat.le_of_ble_eq_true rfl) dX6_years_29 (fun _ _ z => z.elim) (fun r h9 q => ?_)
    obtain ⟨rfl, hh⟩ := q
    rw [hh]
    clear hh
    refine zR_if_ne (tgt := 41) dX6_years_32 (by decide) (by split <;> omega) (fun h32 => ?_) (fun h32 => ?_)
    · have y32 := ipT h32
      refine zV_iconst dX6_years_41 ?_
      refine zV_istore dX6_years_42 (Nat.le_of_ble_eq_true rfl) rfl ?_
      have L44 : ∀ (m : Nat) (s : Nat) (h1 : zH), (6 ≤ s + m) → (s ≤ 5) → (∀ c2 : Nat, c2 ≠ 88 → h1 c2 = h0 c2) → (∀ i, i < s → h1 88 i = 0) → zV (E, mX6_years, 12, 4, (mA h (if 0 ≤ w ∧ w ≤ 2 then (if 0 ≤ y ∧ y ≤ 60 then 0 else 2) else 1) (yeVM h n jn sd y w)), (fun _ _ => False), a) 0 44 [zrv E 64, ziv sd, ziv y, ziv w, ziv (s : Int), .null, .null] [] h1 := by
        intro m
        induction m with
        | zero => intro s h1 hm_ hs f1 z1; exfalso; omega
        | succ m ih =>
          intro s h1 hm_ hs f1 z1
          refine zV_iload dX6_years_44 rfl ?_
          refine zV_iconst dX6_years_46 ?_
          refine zR_icmp_ge (tgt := 64) dX6_years_47 (by decide) (by omega) (by omega) (fun h47 => ?_) (fun h47 => ?_)
          · have mqB := mq_w88 q0 f1
            refine zV_aload_nr dX6_years_64 rfl rfl ?_
            refine zV_aload_nr dX6_years_65 rfl rfl ?_
            refine gf6_103 rfl (rfl) dX6_years_66 ?_
            refine zV_teq (w := zrv E 87) rfl ?_
            refine zV_iconst dX6_years_69 ?_
            refine zV_callV (As := [zrv E 87, ziv ((0 : Nat) : Int)]) lk6_372 (rfl) rfl rfl (c6_pack (c := 87) (N := 27) (f := 0) 11 0 zsh87 (by decide) scr87 (by decide)) ⟨by show _ + 1 ≤ 12; omega, by show _ ≤ 4; omega⟩ rfl (Nat.le_of_ble_eq_true rfl) dX6_years_70 (fun _ _ z => z.elim) (fun r hP q => ?_)
            obtain ⟨rfl, pk⟩ := q
            refine zV_aload_nr dX6_years_73 rfl rfl ?_
            refine zV_iload_n dX6_years_74 rfl rfl ?_
            refine pf6_479 rfl (rfl) dX6_years_75 ?_
            obtain ⟨hS, hhS⟩ : ∃ hS, hS = zup hP 64 57 sd := ⟨_, rfl⟩
            rw [← hhS]
            have eS : ∀ c2 : Nat, c2 ≠ 64 → hS c2 = hP c2 := fun c2 a => by rw [hhS, zup_fn a]
            have eS2 : ∀ j, j ≠ 57 → hS 64 j = hP 64 j := fun j a => by rw [hhS, zup_at, if_neg a]
            have eS3 : ∀ c2 : Nat, c2 ≠ 64 → c2 ≠ 87 → c2 ≠ 88 → hS c2 = h c2 := fun c2 a b c => by rw [eS c2 a, pk.1 c2 b, f1 c2 c, e0 c2 a]
            have eS1 : ∀ c2 : Nat, (c2 = 68 ∨ c2 = 70 ∨ c2 = 71 ∨ c2 = 75 ∨ c2 = 76 ∨ c2 = 81 ∨ c2 = 78) → hS c2 = h c2 := fun c2 hc => eS3 c2 (by omega) (by omega) (by omega)
            refine zV_iconst dX6_years_78 ?_
            refine zV_istore dX6_years_79 (Nat.le_of_ble_eq_true rfl) rfl ?_
            have L81 : ∀ (m3 : Nat) (s : Nat) (h2 : zH), (61 ≤ s + m3) → ((s : Int) ≤ y) → (yI2 h n jn sd s hS h2) → zV (E, mX6_years, 12, 4, (mA h (if 0 ≤ w ∧ w ≤ 2 then (if 0 ≤ y ∧ y ≤ 60 then 0 else 2) else 1) (yeVM h n jn sd y w)), (fun _ _ => False), a) 0 81 [zrv E 64, ziv sd, ziv y, ziv w, ziv (s : Int), .null, .null] [] h2 := by
              intro m3
              induction m3 with
              | zero => intro s h2 hm_ hs hI; exfalso; omega
              | succ m3 ih3 =>
                intro s h2 hm_ hs hI
                refine zV_iload dX6_years_81 rfl ?_
                refine zV_iload_n dX6_years_83 rfl rfl ?_
                refine zR_icmp_ge (tgt := 114) dX6_years_84 (by decide) (by omega) (by omega) (fun h84 => ?_) (fun h84 => ?_)
                · refine zV_aload_nr dX6_years_114 rfl rfl ?_
                  refine zV_aload_nr dX6_years_115 rfl rfl ?_
                  refine gf6_103 rfl (rfl) dX6_years_116 ?_
                  refine zV_teq (w := zrv E 87) rfl ?_
                  refine zV_iconst dX6_years_119 ?_
                  refine zV_callV (As := [zrv E 87, ziv ((0 : Nat) : Int)]) lk6_376 (rfl) rfl rfl (c6_unpack (c := 87) (N := 27) (f := 0) 11 0 zsh87 (by decide) scr87 (by decide)) ⟨by show _ + 1 ≤ 12; omega, by show _ ≤ 4; omega⟩ rfl (Nat.le_of_ble_eq_true rfl) dX6_years_120 (fun _ _ z => z.elim) (fun r h7 q => ?_)
                  obtain ⟨rfl, up⟩ := q
                  obtain ⟨mq7, z7⟩ := y_out mqB pk eS eS2 hI up
                  have z7 : h7 64 4 = 0 := by rw [z7, f1 64 (by decide)]; exact z0
                  have o7 : ∀ v : Nat, v < 5 → h7 88 v = oftS (yVM h n jn sd) (v : Int) y.toNat := fun v hv => by rw [up.1 88 (by decide) (by decide) (by decide) (by decide), show y.toNat = s by omega]; exact hI.2.2.2.1 v hv
                  have j8 := hm.1.1.2.1
                  have ol := fun v : Int => oftS_lo (yVM h n jn sd) v y.toNat
                  refine zV_iconst dX6_years_123 ?_
                  refine zV_istore dX6_years_124 (Nat.le_of_ble_eq_true rfl) rfl ?_
                  refine zV_iconst dX6_years_126 ?_
                  refine zV_istore dX6_years_127 (Nat.le_of_ble_eq_true rfl) rfl ?_
                  refine zV_iconst dX6_years_129 ?_
                  refine zV_istore dX6_years_130 (Nat.le_of_ble_eq_true rfl) rfl ?_
                  have L132 : ∀ (m4 : Nat) (s : Nat), (6 ≤ s + m4) → (1 ≤ s ∧ s ≤ 5) → zV (E, mX6_years, 12, 4, (mA h (if 0 ≤ w ∧ w ≤ 2 then (if 0 ≤ y ∧ y ≤ 60 then 0 else 2) else 1) (yeVM h n jn sd y w)), (fun _ _ => False), a) 0 132 [zrv E 64, ziv sd, ziv y, ziv w, ziv (argS (fun v => oftS (yVM h n jn sd) v y.toNat) s), ziv 0, ziv (s : Int)] [] h7 := by
                    intro m4
                    induction m4 with
                    | zero => intro s hm_ hs; exfalso; omega
                    | succ m4 ih4 =>
                      intro s hm_ hs
                      have al := argS_lo (fun v => oftS (yVM h n jn sd) v y.toNat) s
                      have an : ¬ argS (fun v => oftS (yVM h n jn sd) v y.toNat) s = -1 := by obtain ⟨z, rfl⟩ : ∃ z, s = z + 1 := ⟨s - 1, by omega⟩; exact argS_1 (fun v => oftS (yVM h n jn sd) v y.toNat) z
                      refine zV_iload dX6_years_132 rfl ?_
                      refine zV_iconst dX6_years_134 ?_
                      refine zR_icmp_ge (tgt := 165) dX6_years_135 (by decide) (by omega) (by omega) (fun h135 => ?_) (fun h135 => ?_)
                      · refine zV_iconst dX6_years_165 ?_
                        refine zV_istore dX6_years_166 (Nat.le_of_ble_eq_true rfl) rfl ?_
                        have L168 : ∀ (m5 : Nat) (s : Nat), (jn + 1 ≤ s + m5) → (s ≤ jn) → zV (E, mX6_years, 12, 4, (mA h (if 0 ≤ w ∧ w ≤ 2 then (if 0 ≤ y ∧ y ≤ 60 then 0 else 2) else 1) (yeVM h n jn sd y w)), (fun _ _ => False), a) 0 168 [zrv E 64, ziv sd, ziv y, ziv w, ziv (argS (fun v => oftS (yVM h n jn sd) v y.toNat) 5), ziv (wsM (h 74) (fun v => oftS (yVM h n jn sd) v y.toNat) s), ziv (s : Int)] [] h7 := by
                          intro m5
                          induction m5 with
                          | zero => intro s hm_ hs; exfalso; omega
                          | succ m5 ih5 =>
                            intro s hm_ hs
                            refine zV_iload dX6_years_168 rfl ?_
                            refine zV_aload_nr dX6_years_170 rfl rfl ?_
                            refine gf6_42 rfl (rfl) dX6_years_171 ?_
                            refine zV_teq (w := zrv E 68) rfl ?_
                            refine zV_iconst dX6_years_174 ?_
                            refine zV_ialoadN (i := 1) (N := 10) (rfl) (by decide) (by decide) dX6_years_175 ?_
                            refine zV_teq (w := ziv (jn : Int)) (congrArg ziv (by rw [mq7.1 68 (by omega)]; exact hm.1.1.2.2.2.symm)) ?_
                            refine zR_icmp_ge (tgt := 202) dX6_years_176 (by decide) (by omega) (by omega) (fun h176 => ?_) (fun h176 => ?_)
                            · have al5 := argS_lo (fun v => oftS (yVM h n jn sd) v y.toNat) 5
                              have a5 : ¬ argS (fun v => oftS (yVM h n jn sd) v y.toNat) 5 = -1 := argS_1 (fun v => oftS (yVM h n jn sd) v y.toNat) 4
                              obtain ⟨c, hc⟩ : ∃ c : Nat, argS (fun v => oftS (yVM h n jn sd) v y.toNat) 5 = (c : Int) := ⟨(argS (fun v => oftS (yVM h n jn sd) v y.toNat) 5).toNat, by omega⟩
                              refine zV_iload_n dX6_years_202 rfl rfl ?_
                              refine zR_if_ne (tgt := 216) dX6_years_203 (by decide) (by omega) (fun h203 => ?_) (fun h203 => ?_)
                              · refine zV_iload_n dX6_years_216 rfl rfl ?_
                                refine zV_iconst dX6_years_217 ?_
                                refine zR_icmp_ne (tgt := 234) dX6_years_218 (by decide) (by omega) (by omega) (fun h218 => ?_) (fun h218 => ?_)
                                · refine zV_iload dX6_years_234 rfl ?_
                                  exact zV_ireturn dX6_years_236 rfl (Nat.zero_le _) (mA_ok mq7 z7 (by rw [if_pos (by omega), if_pos (by omega)]) (by unfold yeVM; rw [if_pos (by omega), show jn = s by omega]))
                                · refine zV_iload_n dX6_years_221 rfl rfl ?_
                                  refine zR_if_ne (tgt := 229) dX6_years_222 (by decide) (by omega) (fun h222 => ?_) (fun h222 => ?_)
                                  · refine zV_iload dX6_years_229 rfl ?_
                                    refine zV_goto (tgt := 236) dX6_years_231 (by decide) ?_
                                    exact zV_ireturn dX6_years_236 rfl (Nat.zero_le _) (mA_ok mq7 z7 (by rw [if_pos (by omega), if_pos (by omega)]) (by unfold yeVM; rw [if_neg (by omega), if_neg h203, if_neg h222]))
                                  · refine zV_iconst dX6_years_225 ?_
                                    refine zV_goto (tgt := 236) dX6_years_226 (by decide) ?_
                                    exact zV_ireturn dX6_years_236 rfl (Nat.zero_le _) (mA_ok mq7 z7 (by rw [if_pos (by omega), if_pos (by omega)]) (by unfold yeVM; rw [if_neg (by omega), if_neg h203, if_pos h222]))
                              · refine zV_aload_nr dX6_years_206 rfl rfl ?_
                                refine gf6_106 rfl (rfl) dX6_years_207 ?_
                                refine zV_teq (w := zrv E 88) rfl ?_
                                refine zV_iload dX6_years_210 rfl ?_
                                refine zV_teq (w := ziv (c : Int)) (congrArg ziv hc.symm) ?_
                                refine zV_ialoadN (i := c) (N := 5) (rfl) (by omega) (by decide) dX6_years_212 ?_
                                rw [o7 c (by omega)]
                                refine zV_goto (tgt := 236) dX6_years_213 (by decide) ?_
                                exact zV_ireturn dX6_years_236 rfl (Nat.zero_le _) (mA_ok mq7 z7 (by rw [if_pos (by omega), if_pos (by omega)]) (by unfold yeVM; rw [if_neg (by omega), if_pos h203, hc]))
                            · have w1 := hm.1.2.2.2.1 s (by omega)
                              obtain ⟨u, hu⟩ : ∃ u : Nat, h 74 s = (u : Int) := ⟨(h 74 s).toNat, by omega⟩
                              refine zV_iload dX6_years_179 rfl ?_
                              refine zV_aload_nr dX6_years_181 rfl rfl ?_
                              refine gf6_106 rfl (rfl) dX6_years_182 ?_
                              refine zV_teq (w := zrv E 88) rfl ?_
                              refine zV_aload_nr dX6_years_185 rfl rfl ?_
                              refine gf6_61 rfl (rfl) dX6_years_186 ?_
                              refine zV_teq (w := zrv E 74) rfl ?_
                              refine zV_iload dX6_years_189 rfl ?_
                              refine zV_ialoadN (i := s) (N := 16) (rfl) (by omega) (by decide) dX6_years_191 ?_
                              refine zV_teq (w := ziv (u : Int)) (congrArg ziv (by rw [mq7.1 74 (by omega), hu])) ?_
                              refine zV_ialoadN (i := u) (N := 5) (rfl) (by omega) (by decide) dX6_years_192 ?_
                              rw [o7 u (by omega), ← hu]
                              refine zV_iadd dX6_years_193 ?_
                              refine zV_istore dX6_years_194 (Nat.le_of_ble_eq_true rfl) rfl ?_
                              refine zV_iinc dX6_years_196 rfl (Nat.le_of_ble_eq_true rfl) rfl ?_
                              refine zV_goto (tgt := 168) dX6_years_199 (by decide) ?_
                              exact ih5 (s + 1) (by omega) (by omega)
                        refine zV_lveq (lv' := [zrv E 64, ziv sd, ziv y, ziv w, ziv (argS (fun v => oftS (yVM h n jn sd) v y.toNat) 5), ziv 0, ziv 0]) (by rw [show s = 5 by omega]; rfl) ?_
                        exact L168 (jn + 1) 0 (by omega) (by omega)
                      · obtain ⟨c, hc⟩ : ∃ c : Nat, argS (fun v => oftS (yVM h n jn sd) v y.toNat) s = (c : Int) := ⟨(argS (fun v => oftS (yVM h n jn sd) v y.toNat) s).toNat, by omega⟩
                        have cc : (argS (fun v => oftS (yVM h n jn sd) v y.toNat) s).toNat = c := by omega
                        refine zV_aload_nr dX6_years_138 rfl rfl ?_
                        refine gf6_106 rfl (rfl) dX6_years_139 ?_
                        refine zV_teq (w := zrv E 88) rfl ?_
                        refine zV_iload dX6_years_142 rfl ?_
                        refine zV_ialoadN (i := s) (N := 5) (rfl) (by omega) (by decide) dX6_years_144 ?_
                        rw [o7 s (by omega)]
                        refine zV_aload_nr dX6_years_145 rfl rfl ?_
                        refine gf6_106 rfl (rfl) dX6_years_146 ?_
                        refine zV_teq (w := zrv E 88) rfl ?_
                        refine zV_iload dX6_years_149 rfl ?_
                        refine zV_teq (w := ziv (c : Int)) (congrArg ziv hc.symm) ?_
                        refine zV_ialoadN (i := c) (N := 5) (rfl) (by omega) (by decide) dX6_years_151 ?_
                        rw [o7 c (by omega)]
                        refine zR_icmp_le (tgt := 159) dX6_years_152 (by decide) (by have := ol (s : Int); omega) (by have := ol (c : Int); omega) (fun h152 => ?_) (fun h152 => ?_)
                        · refine zV_iinc dX6_years_159 rfl (Nat.le_of_ble_eq_true rfl) rfl ?_
                          refine zV_goto (tgt := 132) dX6_years_162 (by decide) ?_
                          refine zV_lveq (lv' := [zrv E 64, ziv sd, ziv y, ziv w, ziv (argS (fun v => oftS (yVM h n jn sd) v y.toNat) (s + 1)), ziv 0, ziv ((s : Int) + 1)]) (by rw [argS_s, if_neg (fun z => by rcases z with z | z; exact an z; rw [cc] at z; omega)]; rfl) ?_
                          exact ih4 (s + 1) (by omega) (by omega)
                        · refine zV_iload dX6_years_155 rfl ?_
                          refine zV_istore dX6_years_157 (Nat.le_of_ble_eq_true rfl) rfl ?_
                          refine zV_iinc dX6_years_159 rfl (Nat.le_of_ble_eq_true rfl) rfl ?_
                          refine zV_goto (tgt := 132) dX6_years_162 (by decide) ?_
                          refine zV_lveq (lv' := [zrv E 64, ziv sd, ziv y, ziv w, ziv (argS (fun v => oftS (yVM h n jn sd) v y.toNat) (s + 1)), ziv 0, ziv ((s : Int) + 1)]) (by rw [argS_s, if_pos (Or.inr (by rw [cc]; omega))]; rfl) ?_
                          exact ih4 (s + 1) (by omega) (by omega)
                  exact L132 6 1 (by omega) (by omega)
                · refine zV_aload_nr dX6_years_87 rfl rfl ?_
                  refine zV_callV (As := []) lk6_486 (rfl) rfl rfl (c6_something (n := n) (jn := jn) 11 0 (by decide) hI.2.2.2.2.1) ⟨by show _ + 1 ≤ 12; omega, by show _ ≤ 4; omega⟩ rfl (Nat.le_of_ble_eq_true rfl) dX6_years_88 (fun _ _ z => z.elim) (fun r h3 q => ?_)
                  obtain ⟨rfl, bf⟩ := q
                  obtain ⟨ct3, dy3⟩ := y_pre hI bf
                  refine zV_aload_nr dX6_years_91 rfl rfl ?_
                  refine zV_callV (As := []) lk6_369 (rfl) rfl rfl (c6_aCase (n := n) (jn := jn) 11 0 (by decide) ct3 dy3) ⟨by show _ + 1 ≤ 12; omega, by show _ ≤ 4; omega⟩ rfl (Nat.le_of_ble_eq_true rfl) dX6_years_92 (fun _ _ z => z.elim) (fun r h4 q => ?_)
                  obtain ⟨rfl, q⟩ := q
                  obtain ⟨lt4, st4⟩ := y_step hm (by omega) eS1 hI bf q
                  have vl := yVM_lo h n jn sd s
                  obtain ⟨v, hv9⟩ : ∃ v : Nat, yVM h n jn sd (s + 1) = (v : Int) := ⟨(yVM h n jn sd (s + 1)).toNat, by omega⟩
                  have e88 : h4 88 = h2 88 := by rw [q.1.1 88 (by decide) (by decide) (by decide) (by decide) (by decide), bf.1 88 (by decide) (by decide) (by decide)]
                  refine zV_aload_nr dX6_years_95 rfl rfl ?_
                  refine gf6_106 rfl (rfl) dX6_years_96 ?_
                  refine zV_teq (w := zrv E 88) rfl ?_
                  refine zV_aload_nr dX6_years_99 rfl rfl ?_
                  refine gf6_154 rfl rfl dX6_years_100 ?_
                  rw [lt4, hv9]
                  refine zV_dup2 dX6_years_103 rfl rfl ?_
                  refine zV_ialoadN (i := v) (N := 5) (rfl) (by omega) (by decide) dX6_years_104 ?_
                  rw [e88, hI.2.2.2.1 v (by omega)]
                  refine zV_iconst dX6_years_105 ?_
                  refine zV_iadd dX6_years_106 ?_
                  refine zV_iastoreN (i := v) (N := 5) (rfl) (by omega) (by decide) dX6_years_107 ?_
                  refine zV_iinc dX6_years_108 rfl (Nat.le_of_ble_eq_true rfl) rfl ?_
                  refine zV_goto (tgt := 81) dX6_years_111 (by decide) ?_
                  refine ih3 (s + 1) _ (by omega) (by omega) (st4 _ (fun c2 a => zup_fn a) (fun u hu => ?_))
                  rw [zup_at, e88, hI.2.2.2.1 u hu]
                  show _ = if yVM h n jn sd (s + 1) = (u : Int) then _ else _
                  rw [hv9]
                  by_cases e : u = v
                  · rw [if_pos e, if_pos (by omega), e]
                  · rw [if_neg e, if_neg (by omega)]
            exact L81 61 0 hS (by omega) (by omega) (yI2_0 hm eS3 (fun j a b => by rw [eS2 j a, pk.1 64 (by decide), f1 64 (by decide), e4 j b]) (by rw [hhS, zup_at, if_pos rfl]) (fun v hv => by rw [eS 88 (by decide), pk.1 88 (by decide)]; exact z1 v (by omega)))
          · refine zV_aload_nr dX6_years_50 rfl rfl ?_
            refine gf6_106 rfl (rfl) dX6_years_51 ?_
            refine zV_teq (w := zrv E 88) rfl ?_
            refine zV_iload dX6_years_54 rfl ?_
            refine zV_iconst dX6_years_56 ?_
            refine zV_iastoreN (i := s) (N := 5) (rfl) (by omega) (by decide) dX6_years_57 ?_
            refine zV_iinc dX6_years_58 rfl (Nat.le_of_ble_eq_true rfl) rfl ?_
            refine zV_goto (tgt := 44) dX6_years_61 (by decide) ?_
            exact ih (s + 1) _ (by omega) (by omega) (fun c2 e => by rw [zup_fn e]; exact f1 c2 e) (fun i hi => by rw [zup_at]; split; rfl; exact z1 i (by omega))
      exact L44 6 0 h0 (by omega) (by omega) (fun _ _ => rfl) (fun i hi => absurd hi (Nat.not_lt_zero i))
    · have n32 := ipF h32
      refine zV_aload_nr dX6_years_35 rfl rfl ?_
      refine zV_iconst dX6_years_36 ?_
      refine zV_callV (As := [ziv 2]) lk6_300 (rfl) rfl rfl (c6_fail 11 0) ⟨by show _ + 1 ≤ 12; omega, by show _ ≤ 4; omega⟩ rfl (Nat.le_of_ble_eq_true rfl) dX6_years_37 (fun _ _ z => z.elim) (fun r h9 q => ?_)
      obtain ⟨rfl, hh⟩ := q
      rw [hh]
      clear hh
      exact zV_ireturn dX6_years_40 rfl (Nat.zero_le _) (mA_f q0 (by decide) (by rw [if_pos (by omega), if_neg (by omega)]))
  · have n14 := ipF h14
    refine zV_aload_nr dX6_years_17 rfl rfl ?_
    refine zV_iconst dX6_years_18 ?_
    refine zV_callV (As := [ziv 1]) lk6_300 (rfl) rfl rfl (c6_fail 11 0) ⟨by show _ + 1 ≤ 12; omega, by show _ ≤ 4; omega⟩ rfl (Nat.le_of_ble_eq_true rfl) dX6_years_19 (fun _ _ z => z.elim) (fun r h9 q => ?_)
    obtain ⟨rfl, hh⟩ := q
    rw [hh]
    clear hh
    exact zV_ireturn dX6_years_22 rfl (Nat.zero_le _) (mA_f q0 (by decide) (by rw [if_neg (by omega)]))
