/-! THE REFERENCE: the case that comes, if one thing were another -/
theorem turnP_0 (f : Nat → Int) (b : Int) : turnP f b 0 = f := by funext j; unfold turnP; rw [if_neg (fun z => Nat.not_lt_zero j z.1)]
theorem turnP_y {f : Nat → Int} {b : Int} {s : Nat} (hb : zand (zshr b (s : Int)) 1 = 1) : turnP f b (s + 1) = fun j => if j = s then 12 - f s else turnP f b s j := by
  funext j
  unfold turnP
  by_cases e : j = s
  · subst e; rw [if_pos rfl, if_pos ⟨by omega, hb⟩]
  · rw [if_neg e]
    by_cases e2 : j < s ∧ zand (zshr b (j : Int)) 1 = 1
    · rw [if_pos e2, if_pos ⟨by omega, e2.2⟩]
    · rw [if_neg e2, if_neg (fun z => e2 ⟨by omega, z.2⟩)]
theorem turnP_n {f : Nat → Int} {b : Int} {s : Nat} (hb : ¬ zand (zshr b (s : Int)) 1 = 1) : turnP f b (s + 1) = turnP f b s := by
  funext j
  unfold turnP
  by_cases e2 : j < s ∧ zand (zshr b (j : Int)) 1 = 1
  · rw [if_pos e2, if_pos ⟨by omega, e2.2⟩]
  · rw [if_neg e2, if_neg (fun z => e2 ⟨by
      by_cases e : j = s
      · subst e; exact absurd z.2 hb
      · omega, z.2⟩)]
def turnM (h : zH) (n jn : Nat) (b : Int) : Int := oneV n jn (gHa (gM h) (turnP (h 82) b jn)) (h 64 32) (h 80)
/-- a cell of the four that may be put anew, and asked -/
theorem mInv_put {h h2 : zH} {n jn : Nat} (hm : mInv h n jn) (e : ∀ c2 : Nat, (c2 = 68 ∨ c2 = 70 ∨ c2 = 71 ∨ c2 = 74 ∨ c2 = 75 ∨ c2 = 76) → h2 c2 = h c2) (e32 : h2 64 32 = h 64 32) (p1 : ∀ l, l < n → 0 ≤ h2 80 l ∧ h2 80 l < 12) (p2 : ∀ j, j < jn → 0 ≤ h2 78 j ∧ h2 78 j ≤ 30) (p3 : ∀ j, j < jn → 0 ≤ h2 82 j ∧ h2 82 j ≤ 12) (p4 : ∀ s, s < jn → 0 ≤ h2 81 s ∧ h2 81 s < jn) (p5 : 0 ≤ h2 64 33 ∧ h2 64 33 ≤ 99) : mInv h2 n jn ∧ gM h2 = (h2 81, h2 82, h2 78, h2 64 33, (gM h).2.2.2.2) := by
  obtain ⟨m1, m2, m3⟩ := hm
  refine ⟨⟨mCt_congr (e 68 (by omega)) (e 70 (by omega)) (e 71 (by omega)) (e 74 (by omega)) (e 75 (by omega)) (e 76 (by omega)) m1, ⟨p1, p2, p3, p4, p5, by rw [e32]; exact m2.2.2.2.2.2⟩, by rw [e32]; exact m3⟩, ?_⟩
  unfold gM
  rw [ruM_congr (ru := 0) (e 68 (by omega)) (e 75 (by omega)), ruM_congr (ru := 1) (e 68 (by omega)) (e 76 (by omega)), e 68 (by omega), e 70 (by omega), e 71 (by omega)]
theorem turn_in {h h2 h3 : zH} {n jn : Nat} {b : Int} (hm : mInv h n jn) (hq : mq h h2) (hh : h3 = zst h2 82 (turnP (h2 82) b jn)) : mInv h3 n jn ∧ oneM h3 n jn = turnM h n jn b := by
  obtain ⟨q1, q2, q3⟩ := hq
  have hn := hm.1.1.1
  have hjn := hm.1.1.2.1
  have a80 := q2 80 (by omega)
  have a81 := q2 81 (by omega)
  have a82 := q2 82 (by omega)
  have a78 := q2 78 (by omega)
  have e32 := q3 32 (by unfold stf; omega)
  have e33 := q3 33 (by unfold stf; omega)
  have ec : ∀ c2 : Nat, c2 ≠ 82 → h3 c2 = h2 c2 := fun c2 hc => by rw [hh, zst_ne hc]
  have e82 : h3 82 = turnP (h2 82) b jn := by rw [hh, zst_same]
  obtain ⟨m1, ⟨d1, d2, d3, d4, d5, d6⟩, m3⟩ := id hm
  have at82 : agn jn (h3 82) (turnP (h 82) b jn) := fun j hj => by rw [e82]; unfold turnP; rw [a82 j (by omega)]
  obtain ⟨i3, g3⟩ := mInv_put hm (h2 := h3) (fun c2 hc => by rw [ec c2 (by omega)]; exact q1 c2 (by omega)) (by rw [ec 64 (by decide)]; exact e32) (fun l hl => by rw [ec 80 (by decide), a80 l (by omega)]; exact d1 l hl) (fun j hj => by rw [ec 78 (by decide), a78 j (by omega)]; exact d2 j hj) (fun j hj => by rw [at82 j hj]; unfold turnP; have := d3 j hj; split <;> omega) (fun s hs => by rw [ec 81 (by decide), a81 s (by omega)]; exact d4 s hs) (by rw [ec 64 (by decide), e33]; exact d5)
  refine ⟨i3, ?_⟩
  unfold oneM turnM
  rw [ec 64 (by decide), e32]
  refine oneV_eq (x := (h3 80, 0, 0, fun _ => 0)) ?_ i3.2.1.2.2.2.1 ?_
  · rw [g3]
    exact ⟨by rw [ec 81 (by decide)]; exact agn_le hjn a81, at82, by rw [ec 78 (by decide)]; exact agn_le hjn a78, by rw [ec 64 (by decide)]; exact e33, agn_rfl _ _, agn_rfl _ _, rfl⟩
  · rw [show h3 80 = h2 80 from ec 80 (by decide)]; exact agn_le hn a80
theorem turn_out {h2 h3 h4 h5 : zH} {jn : Nat} {b : Int} (hh : h3 = zst h2 82 (turnP (h2 82) b jn)) (hq : mq h3 h4) (h9 : h5 = zst h4 82 (turnP (h4 82) b jn)) : mq h2 h5 := by
  obtain ⟨q1, q2, q3⟩ := hq
  have ec : ∀ c2 : Nat, c2 ≠ 82 → h3 c2 = h2 c2 := fun c2 hc => by rw [hh, zst_ne hc]
  have e5 : ∀ c2 : Nat, c2 ≠ 82 → h5 c2 = h4 c2 := fun c2 hc => by rw [h9, zst_ne hc]
  refine ⟨fun c2 hc => by rw [e5 c2 (by omega), q1 c2 hc, ec c2 (by omega)], fun c2 hc => ?_, fun j hj => by rw [e5 64 (by decide), q3 j hj, ec 64 (by decide)]⟩
  by_cases e : c2 = 82
  · subst e
    intro j hj
    have a := q2 82 (by omega) j hj
    rw [h9, zst_same]
    rw [hh, zst_same] at a
    unfold turnP at a ⊢
    rw [a]
    split <;> omega
  · rw [e5 c2 e, ← ec c2 e]; exact q2 c2 hc
theorem decS_zn (V : Int → Int) (v : Int) : ∀ m, zn (decS V v m) = decS V v m := by
  intro m
  induction m with
  | zero => rfl
  | succ m ih => show zn (if V (zshl 1 m) = v then decS V v m else zor (decS V v m) (zshl 1 m)) = (if V (zshl 1 m) = v then decS V v m else zor (decS V v m) (zshl 1 m)); split; exact ih; exact zn_zor _ _
theorem decS_s (V : Int → Int) (v : Int) (m : Nat) : decS V v (m + 1) = if V (zshl 1 m) = v then decS V v m else zor (decS V v m) (zshl 1 m) := rfl
theorem ttS_s (V : Int → Int) (v : Int) (m : Nat) : ttS V v (m + 1) = if (ttS V v m = -1 ∨ bitC m < bitC (ttS V v m)) ∧ V m = v then (m : Int) else ttS V v m := rfl
theorem oneM_q {h h2 : zH} {n jn : Nat} (hm : mInv h n jn) (hq : mq h h2) : mInv h2 n jn ∧ oneM h2 n jn = oneM h n jn := by
  obtain ⟨i1, i2, i3, i4, i5⟩ := mq_inv hq hm.1 hm.2.1
  refine ⟨⟨i1, i2, by rw [i4]; exact hm.2.2⟩, ?_⟩
  unfold oneM
  rw [i4]
  exact oneV_eq (x := (h2 80, 0, 0, fun _ => 0)) i3 i2.2.2.2.1 i5

set_option maxRecDepth 100000 in
theorem c6_turnAll {E : zE} {h : zH} {b : Int} {jn : Nat} (d k : Nat) (hd : 1 ≤ d) (h1 : h 68 1 = (jn : Int)) (hjn : jn ≤ 8) : zCal E mX6_turnAll d k [zrv E 64, ziv b] h (fun r h' => r = none ∧ h' = zst h 82 (turnP (h 82) b jn)) (fun _ _ => False) := by
  refine zCal_of (by decide) (Nat.le_of_ble_eq_true rfl) (fun a => ?_)
  show zV _ 0 0 [zrv E 64, ziv b, .null] [] _
  refine zV_iconst dX6_turnAll_0 ?_
  refine zV_istore_n dX6_turnAll_1 rfl (Nat.le_of_ble_eq_true rfl) rfl ?_
  have L2 : ∀ (m : Nat) (s : Nat), (jn + 1 ≤ s + m) → (s ≤ jn) → zV (E, mX6_turnAll, d, k, (fun r h' => r = none ∧ h' = zst h 82 (turnP (h 82) b jn)), (fun _ _ => False), a) 0 2 [zrv E 64, ziv b, ziv (s : Int)] [] (zst h 82 (turnP (h 82) b s)) := by
    intro m
    induction m with
    | zero => intro s hm_ hs; exfalso; omega
    | succ m ih =>
      intro s hm_ hs
      refine zV_iload_n dX6_turnAll_2 rfl rfl ?_
      refine zV_aload_nr dX6_turnAll_3 rfl rfl ?_
      refine gf6_42 rfl (rfl) dX6_turnAll_4 ?_
      refine zV_teq (w := zrv E 68) rfl ?_
      refine zV_iconst dX6_turnAll_7 ?_
      refine zV_ialoadN (i := 1) (N := 10) (rfl) (by decide) (by decide) dX6_turnAll_8 ?_
      refine zV_teq (w := ziv (jn : Int)) (congrArg ziv h1.symm) ?_
      refine zR_icmp_ge (tgt := 41) dX6_turnAll_9 (by decide) (by omega) (by omega) (fun h9 => ?_) (fun h9 => ?_)
      · exact zV_vreturn dX6_turnAll_41 rfl (Nat.zero_le _) ⟨rfl, by rw [show jn = s by omega]⟩
      · refine zV_iload_n dX6_turnAll_12 rfl rfl ?_
        refine zV_iload_n dX6_turnAll_13 rfl rfl ?_
        refine zV_callS (As := [ziv b, ziv (s : Int)]) lk6_446 (c6_isOf (d - 1) 0) ⟨by show _ + 1 ≤ d; omega, by show _ ≤ k; omega⟩ rfl (Nat.le_of_ble_eq_true rfl) dX6_turnAll_14 (fun _ _ z => z.elim) (fun r h9 q => ?_)
        obtain ⟨rfl, hh⟩ := q
        rw [hh]
        clear hh
        refine zR_if_eq (tgt := 35) dX6_turnAll_17 (by decide) (by split <;> omega) (fun h17 => ?_) (fun h17 => ?_)
        · have n17 := ipF h17
          refine zV_iinc dX6_turnAll_35 rfl (Nat.le_of_ble_eq_true rfl) rfl ?_
          refine zV_goto (tgt := 2) dX6_turnAll_38 (by decide) ?_
          refine zV_heq (h' := zst h 82 (turnP (h 82) b (s + 1))) (by rw [turnP_n n17]) ?_
          exact ih (s + 1) (by omega) (by omega)
        · have y17 := ipT h17
          refine zV_aload_nr dX6_turnAll_20 rfl rfl ?_
          refine gf6_88 rfl (rfl) dX6_turnAll_21 ?_
          refine zV_teq (w := zrv E 82) rfl ?_
          refine zV_iload_n dX6_turnAll_24 rfl rfl ?_
          refine zV_bipush dX6_turnAll_25 (by decide) ?_
          refine zV_aload_nr dX6_turnAll_27 rfl rfl ?_
          refine gf6_88 rfl (rfl) dX6_turnAll_28 ?_
          refine zV_teq (w := zrv E 82) rfl ?_
          refine zV_iload_n dX6_turnAll_31 rfl rfl ?_
          refine zV_ialoadN (i := s) (N := 8) (rfl) (by omega) (by decide) dX6_turnAll_32 ?_
          refine zV_teq (w := ziv (h 82 s)) (congrArg ziv (by rw [zst_same]; unfold turnP; rw [if_neg (fun z => Nat.lt_irrefl s z.1)])) ?_
          refine zV_isub dX6_turnAll_33 ?_
          refine zV_iastoreN (i := s) (N := 8) (rfl) (by omega) (by decide) dX6_turnAll_34 ?_
          refine zV_iinc dX6_turnAll_35 rfl (Nat.le_of_ble_eq_true rfl) rfl ?_
          refine zV_goto (tgt := 2) dX6_turnAll_38 (by decide) ?_
          refine zV_heq (h' := zst h 82 (turnP (h 82) b (s + 1))) (by rw [zup_zst, turnP_y y17]) ?_
          exact ih (s + 1) (by omega) (by omega)
  refine zV_heq (h' := zst h 82 (turnP (h 82) b 0)) (by rw [turnP_0, zst_self]) ?_
  exact L2 (jn + 1) 0 (by omega) (by omega)
set_option maxRecDepth 100000 in
theorem c6_decisive {E : zE} {h : zH} {n jn : Nat}  (hm : mInv h n jn) : zCal E mX6_decisive 12 4 [zrv E 64] h (mA h (0) (decS (turnM h n jn) (oneM h n jn) jn)) (fun _ _ => False) := by
  refine zCal_of (by decide) (Nat.le_of_ble_eq_true rfl) (fun a => ?_)
  show zV _ 0 0 [zrv E 64, .null, .null, .null] [] _
  refine zV_aload_nr dX6_decisive_0 rfl rfl ?_
  refine zV_iconst dX6_decisive_1 ?_
  refine pf6_157 rfl (rfl) dX6_decisive_2 ?_
  obtain ⟨h0, hh0, q0, z0, i0, e0, e4, r0, g0⟩ := st0 hm
  rw [hh0]
  refine zV_aload_nr dX6_decisive_5 rfl rfl ?_
  refine zV_callV (As := []) lk6_433 (rfl) rfl rfl (c6_nextVerdict (n := n) (jn := jn) 11 0 (by decide) i0.1 i0.2.1 i0.2.2) ⟨by show _ + 1 ≤ 12; omega, by show _ ≤ 4; omega⟩ rfl (Nat.le_of_ble_eq_true rfl) dX6_decisive_6 (fun _ _ z => z.elim) (fun r hA q => ?_)
  obtain ⟨rfl, nvA⟩ := q
  have mqA := mq_trans q0 nvA.1
  have o0 := (oneM_q hm q0).2
  rw [o0]
  refine zV_istore_n dX6_decisive_9 rfl (Nat.le_of_ble_eq_true rfl) rfl ?_
  refine zV_iconst dX6_decisive_10 ?_
  refine zV_istore_n dX6_decisive_11 rfl (Nat.le_of_ble_eq_true rfl) rfl ?_
  refine zV_iconst dX6_decisive_12 ?_
  refine zV_istore_n dX6_decisive_13 rfl (Nat.le_of_ble_eq_true rfl) rfl ?_
  have L14 : ∀ (m : Nat) (s : Nat) (h2 : zH), (jn + 1 ≤ s + m) → (s ≤ jn) → (mq h h2) → (h2 64 4 = 0) → zV (E, mX6_decisive, 12, 4, (mA h (0) (decS (turnM h n jn) (oneM h n jn) jn)), (fun _ _ => False), a) 0 14 [zrv E 64, ziv (oneM h n jn), ziv (decS (turnM h n jn) (oneM h n jn) s), ziv (s : Int)] [] h2 := by
    intro m
    induction m with
    | zero => intro s h2 hm_ hs mq2 z2; exfalso; omega
    | succ m ih =>
      intro s h2 hm_ hs mq2 z2
      obtain ⟨i2, o2⟩ := oneM_q hm mq2
      have j8 := hm.1.1.2.1
      refine zV_iload_n dX6_decisive_14 rfl rfl ?_
      refine zV_aload_nr dX6_decisive_15 rfl rfl ?_
      refine gf6_42 rfl (rfl) dX6_decisive_16 ?_
      refine zV_teq (w := zrv E 68) rfl ?_
      refine zV_iconst dX6_decisive_19 ?_
      refine zV_ialoadN (i := 1) (N := 10) (rfl) (by decide) (by decide) dX6_decisive_20 ?_
      refine zV_teq (w := ziv (jn : Int)) (congrArg ziv i2.1.1.2.2.2.symm) ?_
      refine zR_icmp_ge (tgt := 62) dX6_decisive_21 (by decide) (by omega) (by omega) (fun h21 => ?_) (fun h21 => ?_)
      · refine zV_iload_n dX6_decisive_62 rfl rfl ?_
        exact zV_ireturn dX6_decisive_63 rfl (Nat.zero_le _) (mA_ok mq2 z2 rfl (by rw [show jn = s by omega]))
      · refine zV_aload_nr dX6_decisive_24 rfl rfl ?_
        refine zV_iconst dX6_decisive_25 ?_
        refine zV_iload_n dX6_decisive_26 rfl rfl ?_
        refine zV_ishl dX6_decisive_27 ?_
        refine zV_callV (As := [ziv (zshl 1 (s : Int))]) lk6_455 (rfl) rfl rfl (c6_turnAll (jn := jn) 11 0 (by decide) i2.1.1.2.2.2 i2.1.1.2.1) ⟨by show _ + 1 ≤ 12; omega, by show _ ≤ 4; omega⟩ rfl (Nat.le_of_ble_eq_true rfl) dX6_decisive_28 (fun _ _ z => z.elim) (fun r h3 q => ?_)
        obtain ⟨rfl, t3⟩ := q
        obtain ⟨i3, tv⟩ := turn_in hm mq2 t3
        refine zV_iload_n dX6_decisive_31 rfl rfl ?_
        refine zV_aload_nr dX6_decisive_32 rfl rfl ?_
        refine zV_callV (As := []) lk6_433 (rfl) rfl rfl (c6_nextVerdict (n := n) (jn := jn) 11 0 (by decide) i3.1 i3.2.1 i3.2.2) ⟨by show _ + 1 ≤ 12; omega, by show _ ≤ 4; omega⟩ rfl (Nat.le_of_ble_eq_true rfl) dX6_decisive_33 (fun _ _ z => z.elim) (fun r h4 q => ?_)
        obtain ⟨rfl, nv4⟩ := q
        rw [tv]
        refine zV_iload_n dX6_decisive_36 rfl rfl ?_
        have b1 := oneV_lo n jn (gHa (gM h) (turnP (h 82) (zshl 1 (s : Int)) jn)) (h 64 32) (h 80)
        have b2 := oneV_lo n jn (gM h) (h 64 32) (h 80)
        refine zR_icmp_eq (tgt := 46) dX6_decisive_37 (by decide) (by unfold turnM; omega) (by unfold oneM; omega) (fun h37 => ?_) (fun h37 => ?_)
        · refine zV_iconst dX6_decisive_46 ?_
          refine zV_ior dX6_decisive_47 ?_
          refine zV_istore_n dX6_decisive_48 rfl (Nat.le_of_ble_eq_true rfl) rfl ?_
          refine zV_aload_nr dX6_decisive_49 rfl rfl ?_
          obtain ⟨i4, -⟩ := oneM_q i3 nv4.1
          refine zV_iconst dX6_decisive_50 ?_
          refine zV_iload_n dX6_decisive_51 rfl rfl ?_
          refine zV_ishl dX6_decisive_52 ?_
          refine zV_callV (As := [ziv (zshl 1 (s : Int))]) lk6_455 (rfl) rfl rfl (c6_turnAll (jn := jn) 11 0 (by decide) i4.1.1.2.2.2 i4.1.1.2.1) ⟨by show _ + 1 ≤ 12; omega, by show _ ≤ 4; omega⟩ rfl (Nat.le_of_ble_eq_true rfl) dX6_decisive_53 (fun _ _ z => z.elim) (fun r h5 q => ?_)
          obtain ⟨rfl, t5⟩ := q
          have mq5 := mq_trans mq2 (turn_out t3 nv4.1 t5)
          have z5 : h5 64 4 = 0 := by rw [t5, zst_ne (by decide), nv4.2.1, t3, zst_ne (by decide)]; exact z2
          refine zV_iinc dX6_decisive_56 rfl (Nat.le_of_ble_eq_true rfl) rfl ?_
          refine zV_goto (tgt := 14) dX6_decisive_59 (by decide) ?_
          refine zV_lveq (lv' := [zrv E 64, ziv (oneM h n jn), ziv (decS (turnM h n jn) (oneM h n jn) (s + 1)), ziv ((s : Int) + 1)]) (by show _ = [zrv E 64, ziv (oneM h n jn), ziv (zor (decS (turnM h n jn) (oneM h n jn) s) 0), ziv ((s : Int) + 1)]; rw [decS_s, if_pos h37, zor_zr, decS_zn]) ?_
          exact ih (s + 1) h5 (by omega) (by omega) mq5 z5
        · refine zV_iconst dX6_decisive_40 ?_
          refine zV_iload_n dX6_decisive_41 rfl rfl ?_
          refine zV_ishl dX6_decisive_42 ?_
          refine zV_goto (tgt := 47) dX6_decisive_43 (by decide) ?_
          refine zV_ior dX6_decisive_47 ?_
          refine zV_istore_n dX6_decisive_48 rfl (Nat.le_of_ble_eq_true rfl) rfl ?_
          refine zV_aload_nr dX6_decisive_49 rfl rfl ?_
          obtain ⟨i4, -⟩ := oneM_q i3 nv4.1
          refine zV_iconst dX6_decisive_50 ?_
          refine zV_iload_n dX6_decisive_51 rfl rfl ?_
          refine zV_ishl dX6_decisive_52 ?_
          refine zV_callV (As := [ziv (zshl 1 (s : Int))]) lk6_455 (rfl) rfl rfl (c6_turnAll (jn := jn) 11 0 (by decide) i4.1.1.2.2.2 i4.1.1.2.1) ⟨by show _ + 1 ≤ 12; omega, by show _ ≤ 4; omega⟩ rfl (Nat.le_of_ble_eq_true rfl) dX6_decisive_53 (fun _ _ z => z.elim) (fun r h5 q => ?_)
          obtain ⟨rfl, t5⟩ := q
          have mq5 := mq_trans mq2 (turn_out t3 nv4.1 t5)
          have z5 : h5 64 4 = 0 := by rw [t5, zst_ne (by decide), nv4.2.1, t3, zst_ne (by decide)]; exact z2
          refine zV_iinc dX6_decisive_56 rfl (Nat.le_of_ble_eq_true rfl) rfl ?_
          refine zV_goto (tgt := 14) dX6_decisive_59 (by decide) ?_
          refine zV_lveq (lv' := [zrv E 64, ziv (oneM h n jn), ziv (decS (turnM h n jn) (oneM h n jn) (s + 1)), ziv ((s : Int) + 1)]) (by rw [decS_s, if_neg h37]; rfl) ?_
          exact ih (s + 1) h5 (by omega) (by omega) mq5 z5
  exact L14 (jn + 1) 0 hA (by omega) (by omega) mqA (nvA.2.1.trans z0)
set_option maxRecDepth 100000 in
theorem c6_toTurn {E : zE} {h : zH} {n jn : Nat} {x : Int} (hx : -2147483648 ≤ x ∧ x ≤ 2147483647) (hm : mInv h n jn) : zCal E mX6_toTurn 12 4 [zrv E 64, ziv x] h (mA h (if 0 ≤ x ∧ x < 5 then 0 else 1) (ttS (turnM h n jn) x (2 ^ jn))) (fun _ _ => False) := by
  refine zCal_of (by decide) (Nat.le_of_ble_eq_true rfl) (fun a => ?_)
  show zV _ 0 0 [zrv E 64, ziv x, .null, .null] [] _
  refine zV_aload_nr dX6_toTurn_0 rfl rfl ?_
  refine zV_iconst dX6_toTurn_1 ?_
  refine pf6_157 rfl (rfl) dX6_toTurn_2 ?_
  obtain ⟨h0, hh0, q0, z0, i0, e0, e4, r0, g0⟩ := st0 hm
  rw [hh0]
  refine zV_iload_n dX6_toTurn_5 rfl rfl ?_
  refine zV_callS (As := [ziv x]) lk6_427 (c6_isVerdict 11 0 (by decide) hx) ⟨by show _ + 1 ≤ 12; omega, by show _ ≤ 4; omega⟩ rfl (Nat.le_of_ble_eq_true rfl) dX6_toTurn_6 (fun _ _ z => z.elim) (fun r h9 q => ?_)
  obtain ⟨rfl, hh⟩ := q
  rw [hh]
  clear hh
  refine zR_if_ne (tgt := 18) dX6_toTurn_9 (by decide) (by split <;> omega) (fun h9 => ?_) (fun h9 => ?_)
  · have y9 := ipT h9
    refine zV_iconst dX6_toTurn_18 ?_
    refine zV_istore_n dX6_toTurn_19 rfl (Nat.le_of_ble_eq_true rfl) rfl ?_
    refine zV_iconst dX6_toTurn_20 ?_
    refine zV_istore_n dX6_toTurn_21 rfl (Nat.le_of_ble_eq_true rfl) rfl ?_
    have L22 : ∀ (m : Nat) (s : Nat) (h2 : zH), (2 ^ jn + 1 ≤ s + m) → (s ≤ 2 ^ jn) → (mq h h2) → (h2 64 4 = 0) → zV (E, mX6_toTurn, 12, 4, (mA h (if 0 ≤ x ∧ x < 5 then 0 else 1) (ttS (turnM h n jn) x (2 ^ jn))), (fun _ _ => False), a) 0 22 [zrv E 64, ziv x, ziv (ttS (turnM h n jn) x s), ziv (s : Int)] [] h2 := by
      intro m
      induction m with
      | zero => intro s h2 hm_ hs mq2 z2; exfalso; omega
      | succ m ih =>
        intro s h2 hm_ hs mq2 z2
        obtain ⟨i2, o2⟩ := oneM_q hm mq2
        have j8 := hm.1.1.2.1
        have tl := ttS_lo (turnM h n jn) x s
        have p8 : 2 ^ jn ≤ 256 := Nat.pow_le_pow_right (n := 2) (by decide) j8
        refine zV_iload_n dX6_toTurn_22 rfl rfl ?_
        refine zV_iconst dX6_toTurn_23 ?_
        refine zV_aload_nr dX6_toTurn_24 rfl rfl ?_
        refine gf6_42 rfl (rfl) dX6_toTurn_25 ?_
        refine zV_teq (w := zrv E 68) rfl ?_
        refine zV_iconst dX6_toTurn_28 ?_
        refine zV_ialoadN (i := 1) (N := 10) (rfl) (by decide) (by decide) dX6_toTurn_29 ?_
        refine zV_teq (w := ziv (jn : Int)) (congrArg ziv i2.1.1.2.2.2.symm) ?_
        refine zV_ishl dX6_toTurn_30 ?_
        rw [z1shl jn j8]
        have p8 : 2 ^ jn ≤ 256 := Nat.pow_le_pow_right (n := 2) (by decide) j8
        refine zR_icmp_ge (tgt := 79) dX6_toTurn_31 (by decide) (by omega) (by omega) (fun h31 => ?_) (fun h31 => ?_)
        · refine zV_iload_n dX6_toTurn_79 rfl rfl ?_
          exact zV_ireturn dX6_toTurn_80 rfl (Nat.zero_le _) (mA_ok mq2 z2 (by rw [if_pos (by omega)]) (by rw [show 2 ^ jn = s by omega]))
        · refine zV_iload_n dX6_toTurn_34 rfl rfl ?_
          refine zV_iconst dX6_toTurn_35 ?_
          have J53 : ((ttS (turnM h n jn) x s) = -1 ∨ bitC (s : Int) < bitC (ttS (turnM h n jn) x s)) → zV (E, mX6_toTurn, 12, 4, (mA h (if 0 ≤ x ∧ x < 5 then 0 else 1) (ttS (turnM h n jn) x (2 ^ jn))), (fun _ _ => False), a) 0 53 [zrv E 64, ziv x, ziv (ttS (turnM h n jn) x s), ziv (s : Int)] [] h2 := by
            intro  hc9
            refine zV_aload_nr dX6_toTurn_53 rfl rfl ?_
            refine zV_iload_n dX6_toTurn_54 rfl rfl ?_
            refine zV_callV (As := [ziv (s : Int)]) lk6_455 (rfl) rfl rfl (c6_turnAll (jn := jn) 11 0 (by decide) i2.1.1.2.2.2 i2.1.1.2.1) ⟨by show _ + 1 ≤ 12; omega, by show _ ≤ 4; omega⟩ rfl (Nat.le_of_ble_eq_true rfl) dX6_toTurn_55 (fun _ _ z => z.elim) (fun r h3 q => ?_)
            obtain ⟨rfl, t3⟩ := q
            obtain ⟨i3, tv⟩ := turn_in hm mq2 t3
            refine zV_aload_nr dX6_toTurn_58 rfl rfl ?_
            refine zV_callV (As := []) lk6_433 (rfl) rfl rfl (c6_nextVerdict (n := n) (jn := jn) 11 0 (by decide) i3.1 i3.2.1 i3.2.2) ⟨by show _ + 1 ≤ 12; omega, by show _ ≤ 4; omega⟩ rfl (Nat.le_of_ble_eq_true rfl) dX6_toTurn_59 (fun _ _ z => z.elim) (fun r h4 q => ?_)
            obtain ⟨rfl, nv4⟩ := q
            rw [tv]
            refine zV_iload_n dX6_toTurn_62 rfl rfl ?_
            refine zR_icmp_ne (tgt := 68) dX6_toTurn_63 (by decide) (by have := oneV_lo n jn (gHa (gM h) (turnP (h 82) (s : Int) jn)) (h 64 32) (h 80); unfold turnM; omega) hx (fun h63 => ?_) (fun h63 => ?_)
            · refine zV_aload_nr dX6_toTurn_68 rfl rfl ?_
              obtain ⟨i4, -⟩ := oneM_q i3 nv4.1
              refine zV_iload_n dX6_toTurn_69 rfl rfl ?_
              refine zV_callV (As := [ziv (s : Int)]) lk6_455 (rfl) rfl rfl (c6_turnAll (jn := jn) 11 0 (by decide) i4.1.1.2.2.2 i4.1.1.2.1) ⟨by show _ + 1 ≤ 12; omega, by show _ ≤ 4; omega⟩ rfl (Nat.le_of_ble_eq_true rfl) dX6_toTurn_70 (fun _ _ z => z.elim) (fun r h5 q => ?_)
              obtain ⟨rfl, t5⟩ := q
              refine zV_iinc dX6_toTurn_73 rfl (Nat.le_of_ble_eq_true rfl) rfl ?_
              refine zV_goto (tgt := 22) dX6_toTurn_76 (by decide) ?_
              refine zV_lveq (lv' := [zrv E 64, ziv x, ziv (ttS (turnM h n jn) x (s + 1)), ziv ((s : Int) + 1)]) (by rw [ttS_s, if_neg (fun z => h63 z.2)]; rfl) ?_
              exact ih (s + 1) h5 (by omega) (by omega) (mq_trans mq2 (turn_out t3 nv4.1 t5)) (by rw [t5, zst_ne (by decide), nv4.2.1, t3, zst_ne (by decide)]; exact z2)
            · refine zV_iload_n dX6_toTurn_66 rfl rfl ?_
              refine zV_istore_n dX6_toTurn_67 rfl (Nat.le_of_ble_eq_true rfl) rfl ?_
              refine zV_aload_nr dX6_toTurn_68 rfl rfl ?_
              obtain ⟨i4, -⟩ := oneM_q i3 nv4.1
              refine zV_iload_n dX6_toTurn_69 rfl rfl ?_
              refine zV_callV (As := [ziv (s : Int)]) lk6_455 (rfl) rfl rfl (c6_turnAll (jn := jn) 11 0 (by decide) i4.1.1.2.2.2 i4.1.1.2.1) ⟨by show _ + 1 ≤ 12; omega, by show _ ≤ 4; omega⟩ rfl (Nat.le_of_ble_eq_true rfl) dX6_toTurn_70 (fun _ _ z => z.elim) (fun r h5 q => ?_)
              obtain ⟨rfl, t5⟩ := q
              refine zV_iinc dX6_toTurn_73 rfl (Nat.le_of_ble_eq_true rfl) rfl ?_
              refine zV_goto (tgt := 22) dX6_toTurn_76 (by decide) ?_
              refine zV_lveq (lv' := [zrv E 64, ziv x, ziv (ttS (turnM h n jn) x (s + 1)), ziv ((s : Int) + 1)]) (by rw [ttS_s, if_pos ⟨hc9, h63⟩]; rfl) ?_
              exact ih (s + 1) h5 (by omega) (by omega) (mq_trans mq2 (turn_out t3 nv4.1 t5)) (by rw [t5, zst_ne (by decide), nv4.2.1, t3, zst_ne (by decide)]; exact z2)
          refine zR_icmp_eq (tgt := 53) dX6_toTurn_36 (by decide) (by omega) (by decide) (fun h36 => ?_) (fun h36 => ?_)
          · exact J53 (Or.inl h36)
          · obtain ⟨c, hc⟩ : ∃ c : Nat, (ttS (turnM h n jn) x s) = (c : Int) := ⟨((ttS (turnM h n jn) x s)).toNat, by omega⟩
            refine zV_iload_n dX6_toTurn_39 rfl rfl ?_
            refine zV_callS (As := [ziv (s : Int)]) lk6_332 (c6_bitsOf (x := s) 11 0 (by omega)) ⟨by show _ + 1 ≤ 12; omega, by show _ ≤ 4; omega⟩ rfl (Nat.le_of_ble_eq_true rfl) dX6_toTurn_40 (fun _ _ z => z.elim) (fun r h9 q => ?_)
            obtain ⟨rfl, hh⟩ := q
            rw [hh]
            clear hh
            refine zV_iload_n dX6_toTurn_43 rfl rfl ?_
            refine zV_teq (w := ziv (c : Int)) (congrArg ziv hc.symm) ?_
            refine zV_callS (As := [ziv (c : Int)]) lk6_332 (c6_bitsOf (x := c) 11 0 (by omega)) ⟨by show _ + 1 ≤ 12; omega, by show _ ≤ 4; omega⟩ rfl (Nat.le_of_ble_eq_true rfl) dX6_toTurn_44 (fun _ _ z => z.elim) (fun r h9 q => ?_)
            obtain ⟨rfl, hh⟩ := q
            rw [hh]
            clear hh
            refine zR_icmp_lt (tgt := 53) dX6_toTurn_47 (by decide) (bitC_lo _) (bitC_lo _) (fun h47 => ?_) (fun h47 => ?_)
            · exact J53 (Or.inr (by rw [hc]; exact h47))
            · refine zV_goto (tgt := 73) dX6_toTurn_50 (by decide) ?_
              refine zV_iinc dX6_toTurn_73 rfl (Nat.le_of_ble_eq_true rfl) rfl ?_
              refine zV_goto (tgt := 22) dX6_toTurn_76 (by decide) ?_
              refine zV_lveq (lv' := [zrv E 64, ziv x, ziv (ttS (turnM h n jn) x (s + 1)), ziv ((s : Int) + 1)]) (by rw [ttS_s, if_neg (fun z => by rcases z.1 with w | w; exact h36 w; rw [hc] at w; exact h47 w)]; rfl) ?_
              exact ih (s + 1) h2 (by omega) (by omega) mq2 z2
    exact L22 (2 ^ jn + 1) 0 h0 (by omega) (Nat.zero_le _) q0 z0
  · have n9 := ipF h9
    refine zV_aload_nr dX6_toTurn_12 rfl rfl ?_
    refine zV_iconst dX6_toTurn_13 ?_
    refine zV_callV (As := [ziv 1]) lk6_300 (rfl) rfl rfl (c6_fail 11 0) ⟨by show _ + 1 ≤ 12; omega, by show _ ≤ 4; omega⟩ rfl (Nat.le_of_ble_eq_true rfl) dX6_toTurn_14 (fun _ _ z => z.elim) (fun r h9 q => ?_)
    obtain ⟨rfl, hh⟩ := q
    rw [hh]
    clear hh
    exact zV_ireturn dX6_toTurn_17 rfl (Nat.zero_le _) (mA_f q0 (by decide) (by rw [if_neg (by omega)]))
