/-! THE REFERENCE: which case to look at, a game -/
def orV (f : Nat → Int) : Nat → Int
  | 0 => 0
  | m + 1 => zor (orV f m) (zshl 1 (f m))
theorem or_32 : ∀ x : Nat, x < 32 → ∀ v : Nat, v < 5 → zor (x : Int) (zshl 1 (v : Int)) = ((x ||| 2 ^ v : Nat) : Int) ∧ x ||| 2 ^ v < 32 := by decide +kernel
theorem orV_nat {f : Nat → Int} : ∀ m, (∀ i, i < m → 0 ≤ f i ∧ f i < 5) → ∃ x : Nat, x < 32 ∧ orV f m = (x : Int) := by
  intro m
  induction m with
  | zero => intro _; exact ⟨0, by decide, rfl⟩
  | succ m ih =>
    intro hf
    obtain ⟨x, x1, x2⟩ := ih (fun i hi => hf i (by omega))
    have h1 := hf m (by omega)
    obtain ⟨v, hv⟩ : ∃ v : Nat, f m = (v : Int) := ⟨(f m).toNat, by omega⟩
    have h2 := or_32 x x1 v (by omega)
    exact ⟨_, h2.2, by show zor (orV f m) (zshl 1 (f m)) = _; rw [x2, hv, h2.1]⟩
theorem orV_lk {b : Nat → Bool} {f V : Nat → Int} : ∀ m, (∀ p, p < m → b p = true → f (cntB b p).toNat = V p) → orV f (cntB b m).toNat = lkS b V m := by
  intro m
  induction m with
  | zero => intro _; rfl
  | succ m ih =>
    intro hf
    rw [cntB_s, lkS_s]
    have h1 := ih (fun p hp hb => hf p (by omega) hb)
    split
    · rename_i e
      have h2 := cntB_lo b m
      rw [show (cntB b m + 1).toNat = (cntB b m).toNat + 1 by omega]
      show zor (orV f (cntB b m).toNat) (zshl 1 (f (cntB b m).toNat)) = _
      rw [h1, hf m (by omega) e]
    · exact h1
def lmF (f : Nat → Int) : Nat → Int × Int
  | 0 => (-1, 0)
  | k + 1 => if f k ≤ (lmF f k).2 then lmF f k else ((k : Int) + 1, f k)
theorem lmF_s (f : Nat → Int) (k : Nat) : lmF f (k + 1) = if f k ≤ (lmF f k).2 then lmF f k else ((k : Int) + 1, f k) := rfl
theorem lmF_b {f : Nat → Int} (hf : ∀ k, 0 ≤ f k) : ∀ m, (lmF f (m + 1)).2 = f (bstS f m) ∧ (lmF f (m + 1)).1 = if f (bstS f m) = 0 then -1 else ((bstS f m : Nat) : Int) + 1 := by
  intro m
  induction m with
  | zero =>
    rw [lmF_s]
    show (if f 0 ≤ 0 then ((-1 : Int), (0 : Int)) else (((0 : Nat) : Int) + 1, f 0)).2 = f 0 ∧ (if f 0 ≤ 0 then ((-1 : Int), (0 : Int)) else (((0 : Nat) : Int) + 1, f 0)).1 = if f 0 = 0 then -1 else ((0 : Nat) : Int) + 1
    have := hf 0
    split
    · rename_i e
      rw [if_pos (by omega)]
      exact ⟨by show (0 : Int) = f 0; omega, rfl⟩
    · rename_i e
      rw [if_neg (by omega)]
      exact ⟨rfl, rfl⟩
  | succ m ih =>
    rw [lmF_s, bstS_s]
    have h1 := hf (m + 1)
    have h2 := hf (bstS f m)
    by_cases e : f (m + 1) ≤ (lmF f (m + 1)).2
    · rw [if_pos e, if_neg (by rw [ih.1] at e; omega)]; exact ih
    · rw [ih.1] at e
      rw [if_neg (by rw [ih.1]; exact e), if_pos (by omega), if_neg (by omega)]
      exact ⟨rfl, rfl⟩
theorem lmF_lo {f : Nat → Int} (hf : ∀ k, 0 ≤ f k ∧ f k ≤ 8) : ∀ m : Nat, 0 ≤ (lmF f m).2 ∧ (lmF f m).2 ≤ 8 ∧ -1 ≤ (lmF f m).1 ∧ (lmF f m).1 ≤ m := by
  intro m
  induction m with
  | zero => exact ⟨by show (0 : Int) ≤ 0; decide, by show (0 : Int) ≤ 8; decide, by show (-1 : Int) ≤ -1; decide, by show (-1 : Int) ≤ ((0 : Nat) : Int); decide⟩
  | succ m ih =>
    rw [lmF_s]
    have := hf m
    split
    · omega
    · exact ⟨by show 0 ≤ f m; omega, by show f m ≤ 8; omega, by show -1 ≤ (m : Int) + 1; omega, by show (m : Int) + 1 ≤ _; omega⟩
def fsM (h : zH) (n jn : Nat) (p k : Nat) : Int := vM h n jn (handM h (p / 13) ((p % 13 : Nat) : Int)) (k + 1)
def lkUM (h : zH) (n jn rn k : Nat) : Int := bitC (lkS (hdM h n jn rn) (fun p => fsM h n jn p k) (13 * jn))
def lkVM (h : zH) (n jn rn : Nat) (w : Int) : Int := if w = 1 then lkUM h n jn rn (bstS (lkUM h n jn rn) 19) else if lkUM h n jn rn (bstS (lkUM h n jn rn) 19) = 0 then -1 else ((bstS (lkUM h n jn rn) 19 : Nat) : Int) + 1
theorem fsM_lo {h : zH} {n jn : Nat} (hm : mInv h n jn) (p k : Nat) : 0 ≤ fsM h n jn p k ∧ fsM h n jn p k < 5 := (runG_lo (g := handM h (p / 13) ((p % 13 : Nat) : Int)) (x := (h 80, 0, 0, fun _ => 0)) hm.2.1.1 hm.2.1.2.2.2.2.1 (k + 1)).2 (by omega)
theorem lkUM_lo {h : zH} {n jn rn : Nat} (hm : mInv h n jn) (k : Nat) : 0 ≤ lkUM h n jn rn k ∧ lkUM h n jn rn k ≤ 8 := by
  have h1 : ∀ m, ∃ x : Nat, x < 32 ∧ lkS (hdM h n jn rn) (fun p => fsM h n jn p k) m = (x : Int) := by
    intro m
    induction m with
    | zero => exact ⟨0, by decide, rfl⟩
    | succ m ih =>
      obtain ⟨x, x1, x2⟩ := ih
      rw [lkS_s]
      split
      · have h1 := fsM_lo hm m k
        obtain ⟨v, hv⟩ : ∃ v : Nat, fsM h n jn m k = (v : Int) := ⟨(fsM h n jn m k).toNat, by omega⟩
        have h2 := or_32 x x1 v (by omega)
        exact ⟨_, h2.2, by show zor _ (zshl 1 (fsM h n jn m k)) = _; rw [x2, hv, h2.1]⟩
      · exact ⟨x, x1, x2⟩
  obtain ⟨x, x1, x2⟩ := h1 (13 * jn)
  unfold lkUM
  rw [x2]
  exact bitC_256 x (by omega)
def lkT (h : zH) (n jn rn i : Nat) (h3 : zH) : Prop := ∀ p, p < 13 * jn → hdM h n jn rn p = true → cntB (hdM h n jn rn) p < i → ∀ k, k < 20 → h3 96 (20 * (cntB (hdM h n jn rn) p).toNat + k) = fsM h n jn p k
theorem look_out {h hA h2 h3 h5 h6 h7 : zH} (mqA : mq h hA) (pk : mpk hA 87 0 h2) (h87 : h6 87 = h2 87) (fr : mFw h5 h6) (e5 : ∀ c2 : Nat, c2 ≠ 82 → h5 c2 = h3 c2) (mq3 : mq h h3) (up : munp h6 87 0 h7) : mq h h7 := by
  have r2 : ∀ i, i < 27 → h6 87 i = rowF hA i := fun i hi => by rw [h87, pk.2 i, if_pos (by omega)]; rfl
  refine ⟨fun c2 hc => ?_, fun c2 hc => ?_, fun j hj => ?_⟩
  · rw [up.1 c2 (by omega) (by omega) (by omega) (by omega), fr.1 c2 (by unfold kpc; omega), e5 c2 (by omega)]; exact mq3.1 c2 hc
  · rcases hc with rfl | rfl | rfl | rfl
    · rw [up.1 78 (by decide) (by decide) (by decide) (by decide), fr.1 78 (by unfold kpc; omega), e5 78 (by decide)]; exact mq3.2.1 78 (by omega)
    · exact fun k hk => by rw [(up.2.2.2 k hk).1, Nat.zero_add, r2 _ (by omega), rowF_l hA hk]; exact mqA.2.1 80 (by omega) k hk
    · exact fun k hk => by rw [(up.2.2.2 k hk).2.1, Nat.zero_add, r2 _ (by omega), rowF_s hA hk]; exact mqA.2.1 81 (by omega) k hk
    · exact fun k hk => by rw [(up.2.2.2 k hk).2.2, Nat.zero_add, r2 _ (by omega), rowF_h hA]; exact mqA.2.1 82 (by omega) k hk
  · by_cases e1 : j = 32
    · subst e1; rw [up.2.2.1.1, r2 0 (by decide)]; exact mqA.2.2 32 hj
    · by_cases e2 : j = 33
      · subst e2; rw [up.2.2.1.2.1, Nat.zero_add, r2 1 (by decide)]; exact mqA.2.2 33 hj
      · by_cases e3 : j = 34
        · subst e3; rw [up.2.2.1.2.2, Nat.zero_add, r2 2 (by decide)]; exact mqA.2.2 34 hj
        · rw [up.2.1 j e1 e2 e3, fr.2 j (Or.inr ⟨hj, e1, e3⟩), e5 64 (by decide)]; exact mq3.2.2 j hj

set_option maxRecDepth 100000 in
theorem c6_unlike {E : zE} {h : zH} {fm q : Nat} (d k : Nat) (hd : 1 ≤ d) (h55 : h 64 55 = (fm : Int)) (hfm : fm ≤ 104) (hq : q < 20) (hr : ∀ i, i < fm → 0 ≤ h 96 (20 * i + q) ∧ h 96 (20 * i + q) < 5) : zCal E mX6_unlike d k [zrv E 64, ziv (q : Int)] h (fun r h' => r = some (ziv (bitC (orV (fun i => h 96 (20 * i + q)) fm))) ∧ h' = h) (fun _ _ => False) := by
  refine zCal_of (by decide) (Nat.le_of_ble_eq_true rfl) (fun a => ?_)
  show zV _ 0 0 [zrv E 64, ziv (q : Int), .null, .null] [] _
  refine zV_iconst dX6_unlike_0 ?_
  refine zV_istore_n dX6_unlike_1 rfl (Nat.le_of_ble_eq_true rfl) rfl ?_
  refine zV_iconst dX6_unlike_2 ?_
  refine zV_istore_n dX6_unlike_3 rfl (Nat.le_of_ble_eq_true rfl) rfl ?_
  have L4 : ∀ (m : Nat) (s : Nat), (fm + 1 ≤ s + m) → (s ≤ fm) → zV (E, mX6_unlike, d, k, (fun r h' => r = some (ziv (bitC (orV (fun i => h 96 (20 * i + q)) fm))) ∧ h' = h), (fun _ _ => False), a) 0 4 [zrv E 64, ziv (q : Int), ziv (orV (fun i => h 96 (20 * i + q)) s), ziv (s : Int)] [] h := by
    intro m
    induction m with
    | zero => intro s hm_ hs; exfalso; omega
    | succ m ih =>
      intro s hm_ hs
      refine zV_iload_n dX6_unlike_4 rfl rfl ?_
      refine zV_aload_nr dX6_unlike_5 rfl rfl ?_
      refine gf6_461 rfl rfl dX6_unlike_6 ?_
      rw [h55]
      refine zR_icmp_ge (tgt := 34) dX6_unlike_9 (by decide) (by omega) (by omega) (fun h9 => ?_) (fun h9 => ?_)
      · refine zV_iload_n dX6_unlike_34 rfl rfl ?_
        obtain ⟨x, x1, x2⟩ := orV_nat (f := fun i => h 96 (20 * i + q)) fm hr
        rw [show s = fm by omega, x2]
        refine zV_callS (As := [ziv (x : Int)]) lk6_332 (c6_bitsOf (x := x) (d - 1) 0 (by omega)) ⟨by show _ + 1 ≤ d; omega, by show _ ≤ k; omega⟩ rfl (Nat.le_of_ble_eq_true rfl) dX6_unlike_35 (fun _ _ z => z.elim) (fun r h9 q => ?_)
        obtain ⟨rfl, hh⟩ := q
        rw [hh]
        clear hh
        exact zV_ireturn dX6_unlike_38 rfl (Nat.zero_le _) ⟨rfl, rfl⟩
      · refine zV_iload_n dX6_unlike_12 rfl rfl ?_
        refine zV_iconst dX6_unlike_13 ?_
        refine zV_aload_nr dX6_unlike_14 rfl rfl ?_
        refine gf6_130 rfl (rfl) dX6_unlike_15 ?_
        refine zV_teq (w := zrv E 96) rfl ?_
        refine zV_bipush dX6_unlike_18 (by decide) ?_
        refine zV_iload_n dX6_unlike_20 rfl rfl ?_
        refine zV_imul dX6_unlike_21 ?_
        refine zV_iload_n dX6_unlike_22 rfl rfl ?_
        refine zV_iadd dX6_unlike_23 ?_
        refine zV_teq (w := ziv ((20 * s + q : Nat) : Int)) (congrArg ziv (by omega)) ?_
        refine zV_ialoadN (i := (20 * s + q)) (N := 2080) (rfl) (by omega) (by decide) dX6_unlike_24 ?_
        refine zV_ishl dX6_unlike_25 ?_
        refine zV_ior dX6_unlike_26 ?_
        refine zV_istore_n dX6_unlike_27 rfl (Nat.le_of_ble_eq_true rfl) rfl ?_
        refine zV_iinc dX6_unlike_28 rfl (Nat.le_of_ble_eq_true rfl) rfl ?_
        refine zV_goto (tgt := 4) dX6_unlike_31 (by decide) ?_
        exact ih (s + 1) (by omega) (by omega)
  exact L4 (fm + 1) 0 (by omega) (by omega)
set_option maxRecDepth 100000 in
theorem c6_look {E : zE} {h : zH} {n jn : Nat} {w : Int} (hw : -2147483648 ≤ w ∧ w ≤ 2147483647) {rn : Nat} (hrd : rdM h rn) (hm : mInv h n jn) : zCal E mX6_look 12 4 [zrv E 64, ziv w] h (mA h (if 0 ≤ w ∧ w ≤ 1 then 0 else 1) (lkVM h n jn rn w)) (fun _ _ => False) := by
  refine zCal_of (by decide) (Nat.le_of_ble_eq_true rfl) (fun a => ?_)
  show zV _ 0 0 [zrv E 64, ziv w, .null, .null, .null, .null] [] _
  refine zV_aload_nr dX6_look_0 rfl rfl ?_
  refine zV_iconst dX6_look_1 ?_
  refine pf6_157 rfl (rfl) dX6_look_2 ?_
  obtain ⟨h0, hh0, q0, z0, i0, e0, e4, r0, g0⟩ := st0 hm
  rw [hh0]
  have rd0 : rdM h0 rn := rdM_q (e0 92 (by decide)) (e0 93 (by decide)) (e4 36 (by decide)) hrd
  refine zV_iload_n dX6_look_5 rfl rfl ?_
  refine zV_i2l dX6_look_6 (by omega) ?_
  refine zV_lconst dX6_look_7 ?_
  refine zV_lconst dX6_look_8 ?_
  refine zV_callS (As := [zlv w, zlv ((0 : Nat) : Int), zlv ((1 : Nat) : Int)]) lk6_160 (c6_isIn 11 0 (by omega) (by omega) (by omega)) ⟨by show _ + 1 ≤ 12; omega, by show _ ≤ 4; omega⟩ rfl (Nat.le_of_ble_eq_true rfl) dX6_look_9 (fun _ _ z => z.elim) (fun r h9 q => ?_)
  obtain ⟨rfl, hh⟩ := q
  rw [hh]
  clear hh
  refine zR_if_ne (tgt := 21) dX6_look_12 (by decide) (by split <;> omega) (fun h12 => ?_) (fun h12 => ?_)
  · have y12 := ipT h12
    refine zV_aload_nr dX6_look_21 rfl rfl ?_
    refine zV_callV (As := []) lk6_470 (rfl) rfl rfl (c6_tellFits (n := n) (jn := jn) (rn := rn) 11 0 (by decide) i0 rd0) ⟨by show _ + 1 ≤ 12; omega, by show _ ≤ 4; omega⟩ rfl (Nat.le_of_ble_eq_true rfl) dX6_look_22 (fun _ _ z => z.elim) (fun r h4 q => ?_)
    obtain ⟨rfl, mq0, z40, tf⟩ := q
    have mq4 := mq_trans q0 mq0
    have z4 := z40.trans z0
    rw [tfI_c e0 e4 r0 g0] at tf
    refine zV_aload_nr dX6_look_25 rfl rfl ?_
    refine zV_aload_nr dX6_look_26 rfl rfl ?_
    refine gf6_103 rfl (rfl) dX6_look_27 ?_
    refine zV_teq (w := zrv E 87) rfl ?_
    refine zV_iconst dX6_look_30 ?_
    refine zV_callV (As := [zrv E 87, ziv ((0 : Nat) : Int)]) lk6_372 (rfl) rfl rfl (c6_pack (c := 87) (N := 27) (f := 0) 11 0 zsh87 (by decide) scr87 (by decide)) ⟨by show _ + 1 ≤ 12; omega, by show _ ≤ 4; omega⟩ rfl (Nat.le_of_ble_eq_true rfl) dX6_look_31 (fun _ _ z => z.elim) (fun r h2 q => ?_)
    obtain ⟨rfl, pk⟩ := q
    have mqP : mq h h2 := mq_trans mq4 ⟨fun c2 hc => pk.1 c2 (by omega), fun c2 hc => by rw [pk.1 c2 (by omega)]; exact agn_rfl _ _, fun j hj => by rw [pk.1 64 (by decide)]⟩
    refine zV_iconst dX6_look_34 ?_
    refine zV_istore_n dX6_look_35 rfl (Nat.le_of_ble_eq_true rfl) rfl ?_
    have L36 : ∀ (m : Nat) (i : Nat) (h3 : zH), (105 ≤ i + m) → ((i : Int) ≤ cntB (hdM h n jn rn) (13 * jn)) → (mq h h3) → (h3 64 4 = 0) → (h3 87 = h2 87) → (tfI h n jn rn (13 * jn) h3) → (lkT h n jn rn i h3) → zV (E, mX6_look, 12, 4, (mA h (if 0 ≤ w ∧ w ≤ 1 then 0 else 1) (lkVM h n jn rn w)), (fun _ _ => False), a) 0 36 [zrv E 64, ziv w, ziv (i : Int), .null, .null, .null] [] h3 := by
      intro m
      induction m with
      | zero => intro i h3 hm_ hi mq3 z3 f87 tf3 vt3; exfalso; (have := cntB_lo (hdM h n jn rn) (13 * jn); have := hm.1.1.2.1; omega)
      | succ m ih =>
        intro i h3 hm_ hi mq3 z3 f87 tf3 vt3
        refine zV_iload_n dX6_look_36 rfl rfl ?_
        refine zV_aload_nr dX6_look_37 rfl rfl ?_
        refine gf6_461 rfl rfl dX6_look_38 ?_
        rw [tf3.1]
        have cl := cntB_lo (hdM h n jn rn) (13 * jn)
        have j8 := hm.1.1.2.1
        refine zR_icmp_ge (tgt := 115) dX6_look_41 (by decide) (by omega) (by omega) (fun h41 => ?_) (fun h41 => ?_)
        · have j8 := hm.1.1.2.1
          have cl := cntB_lo (hdM h n jn rn) (13 * jn)
          have vt : lkT h n jn rn (cntB (hdM h n jn rn) (13 * jn)).toNat h3 := by rw [show (cntB (hdM h n jn rn) (13 * jn)).toNat = i by omega]; exact vt3
          have ul := fun k => lkUM_lo (rn := rn) hm k
          refine zV_iconst dX6_look_115 ?_
          refine zV_istore_n dX6_look_116 rfl (Nat.le_of_ble_eq_true rfl) rfl ?_
          refine zV_iconst dX6_look_117 ?_
          refine zV_istore_n dX6_look_118 rfl (Nat.le_of_ble_eq_true rfl) rfl ?_
          refine zV_iconst dX6_look_119 ?_
          refine zV_istore dX6_look_120 (Nat.le_of_ble_eq_true rfl) rfl ?_
          have L122 : ∀ (m6 : Nat) (s : Nat), (21 ≤ s + m6) → (s ≤ 20) → zV (E, mX6_look, 12, 4, (mA h (if 0 ≤ w ∧ w ≤ 1 then 0 else 1) (lkVM h n jn rn w)), (fun _ _ => False), a) 0 122 [zrv E 64, ziv w, ziv (lmF (lkUM h n jn rn) s).1, ziv (lmF (lkUM h n jn rn) s).2, ziv (s : Int), .null] [] h3 := by
            intro m6
            induction m6 with
            | zero => intro s hm_ hs; exfalso; omega
            | succ m6 ih6 =>
              intro s hm_ hs
              have ll := lmF_lo (f := (lkUM h n jn rn)) ul s
              have us := ul s
              refine zV_iload dX6_look_122 rfl ?_
              refine zV_bipush dX6_look_124 (by decide) ?_
              refine zR_icmp_ge (tgt := 160) dX6_look_126 (by decide) (by omega) (by omega) (fun h126 => ?_) (fun h126 => ?_)
              · refine zV_iload_n dX6_look_160 rfl rfl ?_
                refine zR_if_ne (tgt := 168) dX6_look_161 (by decide) (by omega) (fun h161 => ?_) (fun h161 => ?_)
                · refine zV_iload_n dX6_look_168 rfl rfl ?_
                  exact zV_ireturn dX6_look_169 rfl (Nat.zero_le _) (mA_ok mq3 z3 (by rw [if_pos (by omega)]) (by unfold lkVM; have lb := lmF_b (f := (lkUM h n jn rn)) (fun k => (ul k).1) 19; rw [show s = 20 by omega]; rw [if_pos (show w = 1 by omega)]; exact lb.1))
                · refine zV_iload_n dX6_look_164 rfl rfl ?_
                  refine zV_goto (tgt := 169) dX6_look_165 (by decide) ?_
                  exact zV_ireturn dX6_look_169 rfl (Nat.zero_le _) (mA_ok mq3 z3 (by rw [if_pos (by omega)]) (by unfold lkVM; have lb := lmF_b (f := (lkUM h n jn rn)) (fun k => (ul k).1) 19; rw [show s = 20 by omega]; rw [if_neg (show ¬ w = 1 by omega)]; exact lb.2))
              · have rg9 : ∀ i, i < (cntB (hdM h n jn rn) (13 * jn)).toNat → 0 ≤ h3 96 (20 * i + s) ∧ h3 96 (20 * i + s) < 5 := fun i hi => by
                  obtain ⟨p, p1, p2, p3⟩ := cntB_ex (13 * jn) (i : Int) (by omega) (show (i : Int) < cntB (hdM h n jn rn) (13 * jn) by omega)
                  have := vt p p1 p2 (by omega) s (by omega)
                  rw [p3, Int.toNat_natCast] at this
                  rw [this]; exact fsM_lo hm p s
                refine zV_aload_nr dX6_look_129 rfl rfl ?_
                refine zV_iload dX6_look_130 rfl ?_
                refine zV_callV (As := [ziv (s : Int)]) lk6_473 (rfl) rfl rfl (c6_unlike (fm := (cntB (hdM h n jn rn) (13 * jn)).toNat) (q := s) 11 0 (by decide) (by rw [tf3.1]; omega) (by omega) (by omega) rg9) ⟨by show _ + 1 ≤ 12; omega, by show _ ≤ 4; omega⟩ rfl (Nat.le_of_ble_eq_true rfl) dX6_look_132 (fun _ _ z => z.elim) (fun r h9 q => ?_)
                obtain ⟨rfl, hh⟩ := q
                rw [hh]
                clear hh
                refine zV_teq (w := ziv ((lkUM h n jn rn) s)) (congrArg ziv (by unfold lkUM; rw [orV_lk (V := fun p => fsM h n jn p s) (13 * jn) (fun p hp hb => vt p hp hb (by have := cntB_lt hp hb; omega) s (by omega))])) ?_
                refine zV_istore dX6_look_135 (Nat.le_of_ble_eq_true rfl) rfl ?_
                refine zV_iload dX6_look_137 rfl ?_
                refine zV_iload_n dX6_look_139 rfl rfl ?_
                refine zR_icmp_gt (tgt := 146) dX6_look_140 (by decide) (by omega) (by omega) (fun h140 => ?_) (fun h140 => ?_)
                · refine zV_iload dX6_look_146 rfl ?_
                  refine zV_iconst dX6_look_148 ?_
                  refine zV_iadd dX6_look_149 ?_
                  refine zV_istore_n dX6_look_150 rfl (Nat.le_of_ble_eq_true rfl) rfl ?_
                  refine zV_iload dX6_look_151 rfl ?_
                  refine zV_istore_n dX6_look_153 rfl (Nat.le_of_ble_eq_true rfl) rfl ?_
                  refine zV_iinc dX6_look_154 rfl (Nat.le_of_ble_eq_true rfl) rfl ?_
                  refine zV_goto (tgt := 122) dX6_look_157 (by decide) ?_
                  refine zV_drop 5 ?_
                  refine zV_lveq (lv' := [zrv E 64, ziv w, ziv (lmF (lkUM h n jn rn) (s + 1)).1, ziv (lmF (lkUM h n jn rn) (s + 1)).2, ziv ((s : Int) + 1), .null]) (by rw [lmF_s, if_neg (by omega)]; rfl) ?_
                  exact ih6 (s + 1) (by omega) (by omega)
                · refine zV_goto (tgt := 154) dX6_look_143 (by decide) ?_
                  refine zV_iinc dX6_look_154 rfl (Nat.le_of_ble_eq_true rfl) rfl ?_
                  refine zV_goto (tgt := 122) dX6_look_157 (by decide) ?_
                  refine zV_drop 5 ?_
                  refine zV_lveq (lv' := [zrv E 64, ziv w, ziv (lmF (lkUM h n jn rn) (s + 1)).1, ziv (lmF (lkUM h n jn rn) (s + 1)).2, ziv ((s : Int) + 1), .null]) (by rw [lmF_s, if_pos (by omega)]; rfl) ?_
                  exact ih6 (s + 1) (by omega) (by omega)
          exact L122 21 0 (by omega) (by omega)
        · obtain ⟨p, p1, p2h, p3⟩ := cntB_ex (13 * jn) (i : Int) (by omega) (show (i : Int) < cntB (hdM h n jn rn) (13 * jn) by omega)
          have fi : h3 95 i = 100 * ((p / 13 : Nat) : Int) + ((p % 13 : Nat) : Int) := by
            have := tf3.2 p p1 p2h
            rw [p3, Int.toNat_natCast] at this
            exact this
          refine zV_aload_nr dX6_look_44 rfl rfl ?_
          refine gf6_88 rfl (rfl) dX6_look_45 ?_
          refine zV_teq (w := zrv E 82) rfl ?_
          refine zV_aload_nr dX6_look_48 rfl rfl ?_
          refine gf6_127 rfl (rfl) dX6_look_49 ?_
          refine zV_teq (w := zrv E 95) rfl ?_
          refine zV_iload_n dX6_look_52 rfl rfl ?_
          refine zV_ialoadN (i := i) (N := 104) (rfl) (by omega) (by decide) dX6_look_53 ?_
          rw [fi]
          refine zV_bipush dX6_look_54 (by decide) ?_
          refine zV_idiv dX6_look_56 (by decide) ?_
          refine zV_teq (w := ziv ((p / 13 : Nat) : Int)) (congrArg ziv (by rw [zdiv_eq (by omega) (by decide), Int.tdiv_eq_ediv_of_nonneg (by omega)]; omega)) ?_
          refine zV_aload_nr dX6_look_57 rfl rfl ?_
          refine gf6_127 rfl (rfl) dX6_look_58 ?_
          refine zV_teq (w := zrv E 95) rfl ?_
          refine zV_iload_n dX6_look_61 rfl rfl ?_
          refine zV_ialoadN (i := i) (N := 104) (rfl) (by omega) (by decide) dX6_look_62 ?_
          rw [fi]
          refine zV_bipush dX6_look_63 (by decide) ?_
          refine zV_irem dX6_look_65 (by decide) ?_
          refine zV_teq (w := ziv ((p % 13 : Nat) : Int)) (congrArg ziv (by rw [zrem_eq (by omega) (by decide), Int.tmod_eq_emod_of_nonneg (by omega)]; omega)) ?_
          refine zV_iastoreN (i := (p / 13)) (N := 8) (rfl) (by omega) (by decide) dX6_look_66 ?_
          obtain ⟨h5, hh5⟩ : ∃ h5, h5 = zup h3 82 (p / 13) ((p % 13 : Nat) : Int) := ⟨_, rfl⟩
          rw [← hh5]
          have e5 : ∀ c2 : Nat, c2 ≠ 82 → h5 c2 = h3 c2 := fun c2 hc => by rw [hh5, zup_fn hc]
          have aF : agn 8 (h5 82) (setF (h 82) (p / 13) ((p % 13 : Nat) : Int)) := by rw [hh5]; exact setF_up (w := h 82 (p / 13)) (by rw [setF_id]; exact mq3.2.1 82 (by omega))
          obtain ⟨i5, lt5⟩ := put82_in hm (put_0 (by omega) mq3) e5 aF (fun i hi => by unfold setF; have := hm.2.1.2.2.1 i hi; split <;> omega)
          refine zV_iconst dX6_look_67 ?_
          refine zV_istore_n dX6_look_68 rfl (Nat.le_of_ble_eq_true rfl) rfl ?_
          have L69 : ∀ (m5 : Nat) (k : Nat) (h6 : zH), (21 ≤ k + m5) → (k ≤ 20) → (mrun h5 n jn k h6) → (h6 95 = h3 95 ∧ h6 64 55 = h3 64 55 ∧ h6 87 = h3 87) → (∀ q, q < 20 * i → h6 96 q = h3 96 q) → (∀ k2, k2 < k → h6 96 (20 * i + k2) = fsM h n jn p k2) → zV (E, mX6_look, 12, 4, (mA h (if 0 ≤ w ∧ w ≤ 1 then 0 else 1) (lkVM h n jn rn w)), (fun _ _ => False), a) 0 69 [zrv E 64, ziv w, ziv (i : Int), ziv (k : Int), .null, .null] [] h6 := by
            intro m5
            induction m5 with
            | zero => intro k h6 hm_ hk ru x6 o6 v6; exfalso; omega
            | succ m5 ih5 =>
              intro k h6 hm_ hk ru x6 o6 v6
              refine zV_iload_n dX6_look_69 rfl rfl ?_
              refine zV_bipush dX6_look_70 (by decide) ?_
              refine zR_icmp_ge (tgt := 100) dX6_look_72 (by decide) (by omega) (by omega) (fun h72 => ?_) (fun h72 => ?_)
              · refine zV_aload_nr dX6_look_100 rfl rfl ?_
                refine zV_aload_nr dX6_look_101 rfl rfl ?_
                refine gf6_103 rfl (rfl) dX6_look_102 ?_
                refine zV_teq (w := zrv E 87) rfl ?_
                refine zV_iconst dX6_look_105 ?_
                refine zV_callV (As := [zrv E 87, ziv ((0 : Nat) : Int)]) lk6_376 (rfl) rfl rfl (c6_unpack (c := 87) (N := 27) (f := 0) 11 0 zsh87 (by decide) scr87 (by decide)) ⟨by show _ + 1 ≤ 12; omega, by show _ ≤ 4; omega⟩ rfl (Nat.le_of_ble_eq_true rfl) dX6_look_106 (fun _ _ z => z.elim) (fun r h7 q => ?_)
                obtain ⟨rfl, up⟩ := q
                have mq7 := look_out mq4 pk (x6.2.2.trans f87) ru.1 e5 mq3 up
                refine zV_iinc dX6_look_109 rfl (Nat.le_of_ble_eq_true rfl) rfl ?_
                refine zV_goto (tgt := 36) dX6_look_112 (by decide) ?_
                refine zV_drop 3 ?_
                exact ih (i + 1) h7 (by omega) (by omega) mq7 (by rw [up.2.1 4 (by decide) (by decide) (by decide), ru.1.2 4 (Or.inl rfl), e5 64 (by decide)]; exact z3) (by rw [up.1 87 (by decide) (by decide) (by decide) (by decide), x6.2.2]; exact f87) ⟨by rw [up.2.1 55 (by decide) (by decide) (by decide), x6.2.1]; exact tf3.1, by rw [up.1 95 (by decide) (by decide) (by decide) (by decide), x6.1]; exact tf3.2⟩ (fun p2 hp hb hc k2 hk2 => by
                  rw [up.1 96 (by decide) (by decide) (by decide) (by decide)]
                  have c2 := cntB_lo (hdM h n jn rn) p2
                  by_cases e : cntB (hdM h n jn rn) p2 = (i : Int)
                  · have e9 : p2 = p := by
                      rcases Nat.lt_trichotomy p2 p with a | a | a
                      · have := cntB_lt a hb; omega
                      · exact a
                      · have := cntB_lt a p2h; omega
                    rw [e9, show (cntB (hdM h n jn rn) p).toNat = i by omega]; exact v6 k2 (by omega)
                  · rw [o6 _ (by omega)]; exact vt3 p2 hp hb (by omega) k2 hk2)
              · refine zV_aload_nr dX6_look_75 rfl rfl ?_
                refine zV_callV (As := []) lk6_369 (rfl) rfl rfl (c6_aCase (n := n) (jn := jn) 11 0 (by decide) ru.2.2.2.2.2 ru.2.2.2.2.1) ⟨by show _ + 1 ≤ 12; omega, by show _ ≤ 4; omega⟩ rfl (Nat.le_of_ble_eq_true rfl) dX6_look_76 (fun _ _ z => z.elim) (fun r h8 q => ?_)
                obtain ⟨rfl, q⟩ := q
                have ru3 := mrun_s i5.1 (by have := i5.2.2; omega) ru q
                have lt8 : h8 64 34 = fsM h n jn p k := by
                  have := (ru3.2.2.1 (by omega)).1
                  rw [show (RM h5 n jn (k + 1)).2.1 = LT h5 n jn (k + 1) from rfl, lt5 (k + 1) (by omega)] at this
                  exact this
                refine zV_aload_nr dX6_look_79 rfl rfl ?_
                refine gf6_130 rfl (rfl) dX6_look_80 ?_
                refine zV_teq (w := zrv E 96) rfl ?_
                refine zV_bipush dX6_look_83 (by decide) ?_
                refine zV_iload_n dX6_look_85 rfl rfl ?_
                refine zV_imul dX6_look_86 ?_
                refine zV_iload_n dX6_look_87 rfl rfl ?_
                refine zV_iadd dX6_look_88 ?_
                refine zV_teq (w := ziv ((20 * i + k : Nat) : Int)) (congrArg ziv (by omega)) ?_
                refine zV_aload_nr dX6_look_89 rfl rfl ?_
                refine gf6_154 rfl rfl dX6_look_90 ?_
                rw [lt8]
                refine zV_iastoreN (i := (20 * i + k)) (N := 2080) (rfl) (by omega) (by decide) dX6_look_93 ?_
                refine zV_iinc dX6_look_94 rfl (Nat.le_of_ble_eq_true rfl) rfl ?_
                refine zV_goto (tgt := 69) dX6_look_97 (by decide) ?_
                exact ih5 (k + 1) _ (by omega) (by omega) (mrun_w ru3 (fun c2 a b c d => zup_fn d) (fun j a b => by rw [zup_fn (by decide)])) ⟨by rw [zup_fn (by decide), q.1.1 95 (by decide) (by decide) (by decide) (by decide) (by decide)]; exact x6.1, by rw [zup_fn (by decide), q.1.2 55 (by decide) (by decide) (by decide)]; exact x6.2.1, by rw [zup_fn (by decide), q.1.1 87 (by decide) (by decide) (by decide) (by decide) (by decide)]; exact x6.2.2⟩ (fun q9 hq9 => by rw [zup_at, if_neg (by omega), q.1.1 96 (by decide) (by decide) (by decide) (by decide) (by decide)]; exact o6 q9 hq9) (fun k2 hk2 => by
                  rw [zup_at]
                  by_cases e : k2 = k
                  · rw [if_pos (by omega), e]
                  · rw [if_neg (by omega), q.1.1 96 (by decide) (by decide) (by decide) (by decide) (by decide)]; exact v6 k2 (by omega))
          exact L69 21 0 h5 (by omega) (by omega) (mrun_0 i5.1 i5.2.1) ⟨e5 95 (by decide), by rw [e5 64 (by decide)], e5 87 (by decide)⟩ (fun q _ => by rw [e5 96 (by decide)]) (fun k2 h2 => absurd h2 (Nat.not_lt_zero k2))
    exact L36 105 0 h2 (by omega) (by have := cntB_lo (hdM h n jn rn) (13 * jn); omega) mqP (by rw [pk.1 64 (by decide)]; exact z4) rfl ⟨by rw [pk.1 64 (by decide)]; exact tf.1, by rw [pk.1 95 (by decide)]; exact tf.2⟩ (fun p hp hb hc => absurd hc (by have := cntB_lo (hdM h n jn rn) p; omega))
  · have n12 := ipF h12
    refine zV_aload_nr dX6_look_15 rfl rfl ?_
    refine zV_iconst dX6_look_16 ?_
    refine zV_callV (As := [ziv 1]) lk6_300 (rfl) rfl rfl (c6_fail 11 0) ⟨by show _ + 1 ≤ 12; omega, by show _ ≤ 4; omega⟩ rfl (Nat.le_of_ble_eq_true rfl) dX6_look_17 (fun _ _ z => z.elim) (fun r h9 q => ?_)
    obtain ⟨rfl, hh⟩ := q
    rw [hh]
    clear hh
    exact zV_ireturn dX6_look_20 rfl (Nat.zero_le _) (mA_f q0 (by decide) (by rw [if_neg (by omega)]))
set_option maxRecDepth 100000 in
theorem c6_gainOf {E : zE} {h : zH} {j c : Nat} {t : Int} (d k : Nat) (hj : j < 8) (hc : c < 4) (hw : 0 ≤ h 74 j ∧ h 74 j ≤ 4) (ho : 0 ≤ h 97 c ∧ h 97 c < 5) : zCal E mX6_gainOf d k [zrv E 64, ziv (j : Int), ziv (c : Int), ziv t] h (fun r h' => r = some (ziv ((if h 97 c = h 74 j then 5 else 0) - t)) ∧ h' = h) (fun _ _ => False) := by
  refine zCal_of (by decide) (Nat.le_of_ble_eq_true rfl) (fun a => ?_)
  show zV _ 0 0 [zrv E 64, ziv (j : Int), ziv (c : Int), ziv t] [] _
  refine zV_aload_nr dX6_gainOf_0 rfl rfl ?_
  refine gf6_133 rfl (rfl) dX6_gainOf_1 ?_
  refine zV_teq (w := zrv E 97) rfl ?_
  refine zV_iload_n dX6_gainOf_4 rfl rfl ?_
  refine zV_ialoadN (i := c) (N := 4) (rfl) hc (by decide) dX6_gainOf_5 ?_
  refine zV_aload_nr dX6_gainOf_6 rfl rfl ?_
  refine gf6_61 rfl (rfl) dX6_gainOf_7 ?_
  refine zV_teq (w := zrv E 74) rfl ?_
  refine zV_iload_n dX6_gainOf_10 rfl rfl ?_
  refine zV_ialoadN (i := j) (N := 16) (rfl) (by omega) (by decide) dX6_gainOf_11 ?_
  refine zR_icmp_ne (tgt := 19) dX6_gainOf_12 (by decide) (by omega) (by omega) (fun h12 => ?_) (fun h12 => ?_)
  · refine zV_iconst dX6_gainOf_19 ?_
    refine zV_iload_n dX6_gainOf_20 rfl rfl ?_
    refine zV_isub dX6_gainOf_21 ?_
    exact zV_ireturn dX6_gainOf_22 rfl (Nat.zero_le _) ⟨by rw [if_neg h12], rfl⟩
  · refine zV_iconst dX6_gainOf_15 ?_
    refine zV_goto (tgt := 20) dX6_gainOf_16 (by decide) ?_
    refine zV_iload_n dX6_gainOf_20 rfl rfl ?_
    refine zV_isub dX6_gainOf_21 ?_
    exact zV_ireturn dX6_gainOf_22 rfl (Nat.zero_le _) ⟨by rw [if_pos h12], rfl⟩
