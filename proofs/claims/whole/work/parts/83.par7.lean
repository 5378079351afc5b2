/-! THE REFERENCE: lines, walked -/
set_option maxRecDepth 100000 in
theorem c6_another {E : zE} {h : zH} {T : Nat → Int} {n p x m : Nat} (d k : Nat) (hd : 2 ≤ d) (hx : x < 2) (hm : h 68 (5 + x) = (m : Int)) (hm8 : m ≤ 8) (hk : mclk h T n) (ht : mtok h T n p) (hp : p ≤ n) (hb : h 64 24 = 0) : zCal E mX6_another d k [zrv E 64, ziv (x : Int), ziv 8] h (fun r h' => ∃ v : Int, r = some (ziv v) ∧ (v = 0 ∨ v = 1) ∧ ((v = 0 ∧ 8 ≤ m ∧ h' = wrg h 2) ∨ (v = 1 ∧ ¬ 8 ≤ m ∧ mst h h' ∧ mtok h' T n (tB T n p)))) (fun _ _ => False) := by
  refine zCal_of (by decide) (Nat.le_of_ble_eq_true rfl) (fun a => ?_)
  show zV _ 0 0 [zrv E 64, ziv (x : Int), ziv 8] [] _
  have tl := tB_lo (T := T) hp
  have J17 : ∀ (h1 : zH), ((¬ 8 ≤ m ∧ h1 = h) ∨ (8 ≤ m ∧ h1 = wrg h 2)) → zV (E, mX6_another, d, k, (fun r h' => ∃ v : Int, r = some (ziv v) ∧ (v = 0 ∨ v = 1) ∧ ((v = 0 ∧ 8 ≤ m ∧ h' = wrg h 2) ∨ (v = 1 ∧ ¬ 8 ≤ m ∧ mst h h' ∧ mtok h' T n (tB T n p)))), (fun _ _ => False), a) 0 17 [zrv E 64, ziv (x : Int), ziv 8] [] h1 := by
    intro h1 hj
    have b1 : 0 ≤ h1 64 24 ∧ h1 64 24 ≤ 5 := by rcases hj with ⟨-, e⟩ | ⟨-, e⟩; rw [e]; omega; rw [e, show wrg h 2 64 24 = 2 from rfl]; decide
    refine zV_aload_nr dX6_another_17 rfl rfl ?_
    refine gf6_210 rfl rfl dX6_another_18 ?_
    refine zR_if_eq (tgt := 26) dX6_another_21 (by decide) (by omega) (fun h21 => ?_) (fun h21 => ?_)
    · have e1 : ¬ 8 ≤ m ∧ h1 = h := by rcases hj with e | ⟨-, e⟩; exact e; rw [e, show wrg h 2 64 24 = 2 from rfl] at h21; exact absurd h21 (by decide)
      obtain ⟨e1, rfl⟩ := e1
      refine zV_aload_nr dX6_another_26 rfl rfl ?_
      refine zV_callV (As := []) lk6_235 (rfl) rfl rfl (c6_stepOn (T := T) (n := n) (p := tB T n p) (d - 1) 0 (by omega) hk ht.2.2.1 tl.2.1) ⟨by show _ + 1 ≤ d; omega, by show _ ≤ k; omega⟩ rfl (Nat.le_of_ble_eq_true rfl) dX6_another_27 (fun _ _ z => z.elim) (fun r h2 q => ?_)
      obtain ⟨rfl, st2, tk2⟩ := q
      refine zV_iconst dX6_another_30 ?_
      exact zV_zreturn dX6_another_31 rfl (by simp) (Nat.zero_le _) ⟨1, rfl, Or.inr rfl, Or.inr ⟨rfl, e1, st2, tk2⟩⟩
    · have e1 : 8 ≤ m ∧ h1 = wrg h 2 := by rcases hj with ⟨-, e⟩ | e; rw [e] at h21; exact absurd hb h21; exact e
      refine zV_iconst dX6_another_24 ?_
      exact zV_zreturn dX6_another_25 rfl (by simp) (Nat.zero_le _) ⟨0, rfl, Or.inl rfl, Or.inl ⟨rfl, e1⟩⟩
  refine zV_aload_nr dX6_another_0 rfl rfl ?_
  refine gf6_42 rfl (rfl) dX6_another_1 ?_
  refine zV_teq (w := zrv E 68) rfl ?_
  refine zV_iconst dX6_another_4 ?_
  refine zV_iload_n dX6_another_5 rfl rfl ?_
  refine zV_iadd dX6_another_6 ?_
  refine zV_teq (w := ziv ((5 + x : Nat) : Int)) (congrArg ziv (by omega)) ?_
  refine zV_ialoadN (i := (5 + x)) (N := 10) (rfl) (by omega) (by decide) dX6_another_7 ?_
  refine zV_teq (w := ziv (m : Int)) (congrArg ziv hm.symm) ?_
  refine zV_iload_n dX6_another_8 rfl rfl ?_
  refine zR_icmp_ne (tgt := 17) dX6_another_9 (by decide) (by omega) (by decide) (fun h9 => ?_) (fun h9 => ?_)
  · exact J17 h (Or.inl ⟨by omega, rfl⟩)
  · refine zV_aload_nr dX6_another_12 rfl rfl ?_
    refine zV_iconst dX6_another_13 ?_
    refine zV_callV (As := [ziv 2]) lk6_231 (rfl) rfl rfl (c6_wrong (d - 1) 0 (by omega)) ⟨by show _ + 1 ≤ d; omega, by show _ ≤ k; omega⟩ rfl (Nat.le_of_ble_eq_true rfl) dX6_another_14 (fun _ _ z => z.elim) (fun r h2 q => ?_)
    obtain ⟨rfl, hh⟩ := q
    rw [if_pos hb] at hh
    rw [hh]
    clear hh
    exact J17 _ (Or.inr ⟨by omega, rfl⟩)
set_option maxRecDepth 100000 in
theorem c6_sayLeaf {E : zE} {h : zH} {T : Nat → Int} {n p : Nat} {D : zDf} {d k : Nat} (hp : preL h T n D p) (hd : 4 ≤ d) : zCal E mX6_sayLeaf d k [zrv E 64] h (fun r h' => r = none ∧ lnS h T n (leafP T n D p) h') (fun _ _ => False) := by
  refine zCal_of (by decide) (Nat.le_of_ble_eq_true rfl) (fun a => ?_)
  show zV _ 0 0 [zrv E 64, .null] [] _
  obtain ⟨hk, htk, hpn, hb0, hD, hsI, hok⟩ := id hp
  have tl := tB_lo (T := T) hpn
  have ta := tA_lo (T := T) hpn
  have hok1 := hok.1
  refine zV_aload_nr dX6_sayLeaf_0 rfl rfl ?_
  refine zV_iconst dX6_sayLeaf_1 ?_
  refine zV_bipush dX6_sayLeaf_2 (by decide) ?_
  refine zV_callV (As := [ziv 0, ziv 8]) lk6_279 (rfl) rfl rfl (c6_another (T := T) (n := n) (p := p) (x := 0) (m := D.1.length) (d - 1) 0 (by omega) (by decide) hD.1.1 hok.1 hk htk hpn hb0) ⟨by show _ + 1 ≤ d; omega, by show _ ≤ k; omega⟩ rfl (Nat.le_of_ble_eq_true rfl) dX6_sayLeaf_4 (fun _ _ z => z.elim) (fun r h1 q => ?_)
  obtain ⟨v9, rfl, hv9, hv⟩ := q
  refine zR_if_ne (tgt := 11) dX6_sayLeaf_7 (by decide) (by clear hv; omega) (fun h7 => ?_) (fun h7 => ?_)
  · have hv1 : ¬ 8 ≤ D.1.length ∧ mst h h1 ∧ mtok h1 T n (tB T n p) := by rcases hv with ⟨e, -⟩ | ⟨-, e⟩; exact absurd e h7; exact e
    obtain ⟨hm, st1, tk1⟩ := hv1
    have hk1 := mclk_st hk st1
    have z24 : h1 64 24 = 0 := by rw [st1.2 24 (by decide) (by decide) (by decide) (by decide) (by decide)]; exact hb0
    have ts1 : tsM h1 T n (.inr (tB T n p)) := ⟨z24, tk1, tl.2.1⟩
    refine zV_bipush dX6_sayLeaf_11 (by decide) ?_
    refine zV_aload_nr dX6_sayLeaf_13 rfl rfl ?_
    refine gf6_42 rfl (rfl) dX6_sayLeaf_14 ?_
    refine zV_teq (w := zrv E 68) rfl ?_
    refine zV_iconst dX6_sayLeaf_17 ?_
    refine zV_ialoadN (i := 5) (N := 10) (rfl) (by decide) (by decide) dX6_sayLeaf_18 ?_
    refine zV_iadd dX6_sayLeaf_19 ?_
    refine zV_teq (w := ziv ((8 + D.1.length : Nat) : Int)) (congrArg ziv (by rw [st1.1 68 (by decide), hD.1.1]; omega)) ?_
    refine zV_istore_n dX6_sayLeaf_20 rfl (Nat.le_of_ble_eq_true rfl) rfl ?_
    refine zV_aload_nr dX6_sayLeaf_21 rfl rfl ?_
    refine gf6_46 rfl (rfl) dX6_sayLeaf_22 ?_
    refine zV_teq (w := zrv E 69) rfl ?_
    refine zV_iload_n dX6_sayLeaf_25 rfl rfl ?_
    refine zV_aload_nr dX6_sayLeaf_26 rfl rfl ?_
    refine zV_iconst dX6_sayLeaf_27 ?_
    refine zV_bipush dX6_sayLeaf_28 (by decide) ?_
    refine zV_callV (As := [ziv 0, ziv 11]) lk6_242 (rfl) rfl rfl (c6_rnU (T := T) (n := n) (x := (.inr (tB T n p))) (d - 1) 0 (by omega) hk1 ts1 (by decide) (by decide)) ⟨by show _ + 1 ≤ d; omega, by show _ ≤ k; omega⟩ rfl (Nat.le_of_ble_eq_true rfl) dX6_sayLeaf_30 (fun _ _ z => z.elim) (fun r h2 q => ?_)
    obtain ⟨rfl, fn2, ts2⟩ := q
    refine zV_iastoreN (i := (8 + D.1.length)) (N := 16) (rfl) (by omega) (by decide) dX6_sayLeaf_33 ?_
    refine zV_aload_nr dX6_sayLeaf_34 rfl rfl ?_
    refine gf6_49 rfl (rfl) dX6_sayLeaf_35 ?_
    refine zV_teq (w := zrv E 70) rfl ?_
    refine zV_iload_n dX6_sayLeaf_38 rfl rfl ?_
    refine zV_aload_nr dX6_sayLeaf_39 rfl rfl ?_
    refine zV_iconst dX6_sayLeaf_40 ?_
    refine zV_bipush dX6_sayLeaf_41 (by decide) ?_
    refine zV_callV (As := [ziv 1, ziv 9]) lk6_242 (rfl) rfl rfl (c6_rnU (T := T) (n := n) (x := (nsU T n 0 11 (.inr (tB T n p)))) (d - 1) 0 (by omega) (mclk_up (by decide) (by decide) (mclk_nf hk1 fn2)) (ts_up (by decide) ts2) (by decide) (by decide)) ⟨by show _ + 1 ≤ d; omega, by show _ ≤ k; omega⟩ rfl (Nat.le_of_ble_eq_true rfl) dX6_sayLeaf_43 (fun _ _ z => z.elim) (fun r h3 q => ?_)
    obtain ⟨rfl, fn3, ts3⟩ := q
    refine zV_iastoreN (i := (8 + D.1.length)) (N := 16) (rfl) (by omega) (by decide) dX6_sayLeaf_46 ?_
    refine zV_aload_nr dX6_sayLeaf_47 rfl rfl ?_
    refine gf6_42 rfl (rfl) dX6_sayLeaf_48 ?_
    refine zV_teq (w := zrv E 68) rfl ?_
    refine zV_iconst dX6_sayLeaf_51 ?_
    refine zV_dup2 dX6_sayLeaf_52 rfl rfl ?_
    refine zV_ialoadN (i := 5) (N := 10) (rfl) (by decide) (by decide) dX6_sayLeaf_53 ?_
    refine zV_teq (w := ziv (D.1.length : Int)) (congrArg ziv (by rw [zup_fn (by decide), fn3.1 68 (by decide), zup_fn (by decide), fn2.1 68 (by decide), st1.1 68 (by decide)]; exact hD.1.1.symm)) ?_
    refine zV_iconst dX6_sayLeaf_54 ?_
    refine zV_iadd dX6_sayLeaf_55 ?_
    refine zV_iastoreN (i := 5) (N := 10) (rfl) (by decide) (by decide) dX6_sayLeaf_56 ?_
    exact zV_vreturn dX6_sayLeaf_57 rfl (Nat.zero_le _) ⟨rfl, leaf_ok hp hm st1 fn2 fn3 ts3⟩
  · have hv1 : 8 ≤ D.1.length ∧ h1 = wrg h 2 := by rcases hv with ⟨-, e⟩ | ⟨e, -⟩; exact e; rw [e] at h7; exact absurd h7 (by decide)
    exact zV_vreturn dX6_sayLeaf_10 rfl (Nat.zero_le _) ⟨rfl, by unfold leafP; rw [if_pos hv1.1, hv1.2]; exact lnS_w (by decide) htk⟩
set_option maxRecDepth 100000 in
theorem c6_sayJudge {E : zE} {h : zH} {T : Nat → Int} {n p : Nat} {D : zDf} {d k : Nat} (hp : preL h T n D p) {br : Int} (hd : 4 ≤ d) : zCal E mX6_sayJudge d k [zrv E 64, ziv br] h (fun r h' => r = none ∧ lnS h T n (judP T n D br p) h') (fun _ _ => False) := by
  refine zCal_of (by decide) (Nat.le_of_ble_eq_true rfl) (fun a => ?_)
  show zV _ 0 0 [zrv E 64, ziv br, .null] [] _
  obtain ⟨hk, htk, hpn, hb0, hD, hsI, hok⟩ := id hp
  have tl := tB_lo (T := T) hpn
  have ta := tA_lo (T := T) hpn
  have hok1 := hok.2.2.1
  refine zV_aload_nr dX6_sayJudge_0 rfl rfl ?_
  refine zV_iconst dX6_sayJudge_1 ?_
  refine zV_bipush dX6_sayJudge_2 (by decide) ?_
  refine zV_callV (As := [ziv 1, ziv 8]) lk6_279 (rfl) rfl rfl (c6_another (T := T) (n := n) (p := p) (x := 1) (m := D.2.1.length) (d - 1) 0 (by omega) (by decide) hD.2.1.1 hok.2.2.1 hk htk hpn hb0) ⟨by show _ + 1 ≤ d; omega, by show _ ≤ k; omega⟩ rfl (Nat.le_of_ble_eq_true rfl) dX6_sayJudge_4 (fun _ _ z => z.elim) (fun r h1 q => ?_)
  obtain ⟨v9, rfl, hv9, hv⟩ := q
  refine zR_if_ne (tgt := 11) dX6_sayJudge_7 (by decide) (by clear hv; omega) (fun h7 => ?_) (fun h7 => ?_)
  · have hv1 : ¬ 8 ≤ D.2.1.length ∧ mst h h1 ∧ mtok h1 T n (tB T n p) := by rcases hv with ⟨e, -⟩ | ⟨-, e⟩; exact absurd e h7; exact e
    obtain ⟨hm, st1, tk1⟩ := hv1
    have hk1 := mclk_st hk st1
    have z24 : h1 64 24 = 0 := by rw [st1.2 24 (by decide) (by decide) (by decide) (by decide) (by decide)]; exact hb0
    have ts1 : tsM h1 T n (.inr (tB T n p)) := ⟨z24, tk1, tl.2.1⟩
    refine zV_bipush dX6_sayJudge_11 (by decide) ?_
    refine zV_aload_nr dX6_sayJudge_13 rfl rfl ?_
    refine gf6_42 rfl (rfl) dX6_sayJudge_14 ?_
    refine zV_teq (w := zrv E 68) rfl ?_
    refine zV_bipush dX6_sayJudge_17 (by decide) ?_
    refine zV_ialoadN (i := 6) (N := 10) (rfl) (by decide) (by decide) dX6_sayJudge_19 ?_
    refine zV_iadd dX6_sayJudge_20 ?_
    refine zV_teq (w := ziv ((8 + D.2.1.length : Nat) : Int)) (congrArg ziv (by rw [st1.1 68 (by decide), hD.2.1.1]; omega)) ?_
    refine zV_istore_n dX6_sayJudge_21 rfl (Nat.le_of_ble_eq_true rfl) rfl ?_
    refine zV_aload_nr dX6_sayJudge_22 rfl rfl ?_
    refine gf6_52 rfl (rfl) dX6_sayJudge_23 ?_
    refine zV_teq (w := zrv E 71) rfl ?_
    refine zV_iload_n dX6_sayJudge_26 rfl rfl ?_
    refine zV_iload_n dX6_sayJudge_27 rfl rfl ?_
    refine zV_iastoreN (i := (8 + D.2.1.length)) (N := 16) (rfl) (by omega) (by decide) dX6_sayJudge_28 ?_
    refine zV_aload_nr dX6_sayJudge_29 rfl rfl ?_
    refine gf6_55 rfl (rfl) dX6_sayJudge_30 ?_
    refine zV_teq (w := zrv E 72) rfl ?_
    refine zV_iload_n dX6_sayJudge_33 rfl rfl ?_
    refine zV_aload_nr dX6_sayJudge_34 rfl rfl ?_
    refine zV_iconst dX6_sayJudge_35 ?_
    refine zV_bipush dX6_sayJudge_36 (by decide) ?_
    refine zV_callV (As := [ziv 0, ziv 30]) lk6_242 (rfl) rfl rfl (c6_rnU (T := T) (n := n) (x := (.inr (tB T n p))) (d - 1) 0 (by omega) (mclk_up (by decide) (by decide) hk1) (ts_up (by decide) ts1) (by decide) (by decide)) ⟨by show _ + 1 ≤ d; omega, by show _ ≤ k; omega⟩ rfl (Nat.le_of_ble_eq_true rfl) dX6_sayJudge_38 (fun _ _ z => z.elim) (fun r h2 q => ?_)
    obtain ⟨rfl, fn2, ts2⟩ := q
    refine zV_iastoreN (i := (8 + D.2.1.length)) (N := 16) (rfl) (by omega) (by decide) dX6_sayJudge_41 ?_
    refine zV_aload_nr dX6_sayJudge_42 rfl rfl ?_
    refine gf6_58 rfl (rfl) dX6_sayJudge_43 ?_
    refine zV_teq (w := zrv E 73) rfl ?_
    refine zV_iload_n dX6_sayJudge_46 rfl rfl ?_
    refine zV_aload_nr dX6_sayJudge_47 rfl rfl ?_
    refine zV_iconst dX6_sayJudge_48 ?_
    refine zV_bipush dX6_sayJudge_49 (by decide) ?_
    refine zV_callV (As := [ziv 0, ziv 12]) lk6_242 (rfl) rfl rfl (c6_rnU (T := T) (n := n) (x := (nsU T n 0 30 (.inr (tB T n p)))) (d - 1) 0 (by omega) (mclk_up (by decide) (by decide) (mclk_nf (mclk_up (by decide) (by decide) hk1) fn2)) (ts_up (by decide) ts2) (by decide) (by decide)) ⟨by show _ + 1 ≤ d; omega, by show _ ≤ k; omega⟩ rfl (Nat.le_of_ble_eq_true rfl) dX6_sayJudge_51 (fun _ _ z => z.elim) (fun r h3 q => ?_)
    obtain ⟨rfl, fn3, ts3⟩ := q
    refine zV_iastoreN (i := (8 + D.2.1.length)) (N := 16) (rfl) (by omega) (by decide) dX6_sayJudge_54 ?_
    refine zV_aload_nr dX6_sayJudge_55 rfl rfl ?_
    refine gf6_61 rfl (rfl) dX6_sayJudge_56 ?_
    refine zV_teq (w := zrv E 74) rfl ?_
    refine zV_iload_n dX6_sayJudge_59 rfl rfl ?_
    refine zV_aload_nr dX6_sayJudge_60 rfl rfl ?_
    refine zV_iconst dX6_sayJudge_61 ?_
    refine zV_iconst dX6_sayJudge_62 ?_
    refine zV_callV (As := [ziv 0, ziv 4]) lk6_242 (rfl) rfl rfl (c6_rnU (T := T) (n := n) (x := (nsU T n 0 12 (nsU T n 0 30 (.inr (tB T n p))))) (d - 1) 0 (by omega) (mclk_up (by decide) (by decide) (mclk_nf (mclk_up (by decide) (by decide) (mclk_nf (mclk_up (by decide) (by decide) hk1) fn2)) fn3)) (ts_up (by decide) ts3) (by decide) (by decide)) ⟨by show _ + 1 ≤ d; omega, by show _ ≤ k; omega⟩ rfl (Nat.le_of_ble_eq_true rfl) dX6_sayJudge_63 (fun _ _ z => z.elim) (fun r h4 q => ?_)
    obtain ⟨rfl, fn4, ts4⟩ := q
    refine zV_iastoreN (i := (8 + D.2.1.length)) (N := 16) (rfl) (by omega) (by decide) dX6_sayJudge_66 ?_
    refine zV_aload_nr dX6_sayJudge_67 rfl rfl ?_
    refine gf6_42 rfl (rfl) dX6_sayJudge_68 ?_
    refine zV_teq (w := zrv E 68) rfl ?_
    refine zV_bipush dX6_sayJudge_71 (by decide) ?_
    refine zV_dup2 dX6_sayJudge_73 rfl rfl ?_
    refine zV_ialoadN (i := 6) (N := 10) (rfl) (by decide) (by decide) dX6_sayJudge_74 ?_
    refine zV_teq (w := ziv (D.2.1.length : Int)) (congrArg ziv (by rw [zup_fn (by decide), fn4.1 68 (by decide), zup_fn (by decide), fn3.1 68 (by decide), zup_fn (by decide), fn2.1 68 (by decide), zup_fn (by decide), st1.1 68 (by decide)]; exact hD.2.1.1.symm)) ?_
    refine zV_iconst dX6_sayJudge_75 ?_
    refine zV_iadd dX6_sayJudge_76 ?_
    refine zV_iastoreN (i := 6) (N := 10) (rfl) (by decide) (by decide) dX6_sayJudge_77 ?_
    exact zV_vreturn dX6_sayJudge_78 rfl (Nat.zero_le _) ⟨rfl, jud_ok hp hm st1 fn2 fn3 fn4 ts4⟩
  · have hv1 : 8 ≤ D.2.1.length ∧ h1 = wrg h 2 := by rcases hv with ⟨-, e⟩ | ⟨e, -⟩; exact e; rw [e] at h7; exact absurd h7 (by decide)
    exact zV_vreturn dX6_sayJudge_10 rfl (Nat.zero_le _) ⟨rfl, by unfold judP; rw [if_pos hv1.1, hv1.2]; exact lnS_w (by decide) htk⟩
set_option maxRecDepth 100000 in
theorem c6_sayOnce1 {E : zE} {h : zH} {T : Nat → Int} {n p : Nat} {D : zDf} {d k : Nat} (hp : preL h T n D p) (hm : ¬ D.2.2.2.1 = true) (hd : 4 ≤ d) : zCal E mX6_sayOnce d k [zrv E 64, ziv 1] h (fun r h' => r = none ∧ lnS h T n (potP T n D p) h') (fun _ _ => False) := by
  refine zCal_of (by decide) (Nat.le_of_ble_eq_true rfl) (fun a => ?_)
  show zV _ 0 0 [zrv E 64, ziv 1] [] _
  obtain ⟨hk, htk, hpn, hb0, hD, hsI, hok⟩ := id hp
  have tl := tB_lo (T := T) hpn
  have ta := tA_lo (T := T) hpn
  refine zV_aload_nr dX6_sayOnce_0 rfl rfl ?_
  refine zV_callV (As := []) lk6_235 (rfl) rfl rfl (c6_stepOn (T := T) (n := n) (p := tB T n p) (d - 1) 0 (by omega) hk htk.2.2.1 tl.2.1) ⟨by show _ + 1 ≤ d; omega, by show _ ≤ k; omega⟩ rfl (Nat.le_of_ble_eq_true rfl) dX6_sayOnce_1 (fun _ _ z => z.elim) (fun r h1 q => ?_)
  obtain ⟨rfl, st1, tk1⟩ := q
  have hk1 := mclk_st hk st1
  have z24 : h1 64 24 = 0 := by rw [st1.2 24 (by decide) (by decide) (by decide) (by decide) (by decide)]; exact hb0
  have ts1 : tsM h1 T n (.inr (tB T n p)) := ⟨z24, tk1, tl.2.1⟩
  refine zV_iload_n dX6_sayOnce_4 rfl rfl ?_
  refine zV_iconst dX6_sayOnce_5 ?_
  refine zR_icmp_ne (tgt := 24) dX6_sayOnce_6 (by decide) (by decide) (by decide) (fun h6 => ?_) (fun h6 => ?_)
  · exact absurd rfl h6
  · refine zV_aload_nr dX6_sayOnce_9 rfl rfl ?_
    refine gf6_42 rfl (rfl) dX6_sayOnce_10 ?_
    refine zV_teq (w := zrv E 68) rfl ?_
    refine zV_bipush dX6_sayOnce_13 (by decide) ?_
    refine zV_aload_nr dX6_sayOnce_15 rfl rfl ?_
    refine zV_iconst dX6_sayOnce_16 ?_
    refine zV_bipush dX6_sayOnce_17 (by decide) ?_
    refine zV_callV (As := [ziv 0, ziv 99]) lk6_242 (rfl) rfl rfl (c6_rnU (T := T) (n := n) (x := (.inr (tB T n p))) (d - 1) 0 (by omega) hk1 ts1 (by decide) (by decide)) ⟨by show _ + 1 ≤ d; omega, by show _ ≤ k; omega⟩ rfl (Nat.le_of_ble_eq_true rfl) dX6_sayOnce_19 (fun _ _ z => z.elim) (fun r h2 q => ?_)
    obtain ⟨rfl, fn2, ts2⟩ := q
    refine zV_iastoreN (i := 7) (N := 10) (rfl) (by decide) (by decide) dX6_sayOnce_22 ?_
    exact zV_vreturn dX6_sayOnce_23 rfl (Nat.zero_le _) ⟨rfl, pot_ok hp hm st1 fn2 ts2⟩
set_option maxRecDepth 100000 in
theorem c6_sayOnce2 {E : zE} {h : zH} {T : Nat → Int} {n p : Nat} {D : zDf} {d k : Nat} (hp : preL h T n D p) (hm : ¬ (ruO D 0).isSome = true) (hd : 51 ≤ d) : zCal E mX6_sayOnce d k [zrv E 64, ziv 2] h (fun r h' => r = none ∧ lnS h T n (rulP T n D 0 p) h') (fun _ _ => False) := by
  refine zCal_of (by decide) (Nat.le_of_ble_eq_true rfl) (fun a => ?_)
  show zV _ 0 0 [zrv E 64, ziv 2] [] _
  obtain ⟨hk, htk, hpn, hb0, hD, hsI, hok⟩ := id hp
  have tl := tB_lo (T := T) hpn
  have ta := tA_lo (T := T) hpn
  have hr0 : ruO D 0 = none := by
    cases e : ruO D 0 with
    | none => rfl
    | some x => rw [e] at hm; exact absurd rfl hm
  refine zV_aload_nr dX6_sayOnce_0 rfl rfl ?_
  refine zV_callV (As := []) lk6_235 (rfl) rfl rfl (c6_stepOn (T := T) (n := n) (p := tB T n p) (d - 1) 0 (by omega) hk htk.2.2.1 tl.2.1) ⟨by show _ + 1 ≤ d; omega, by show _ ≤ k; omega⟩ rfl (Nat.le_of_ble_eq_true rfl) dX6_sayOnce_1 (fun _ _ z => z.elim) (fun r h1 q => ?_)
  obtain ⟨rfl, st1, tk1⟩ := q
  have hk1 := mclk_st hk st1
  have z24 : h1 64 24 = 0 := by rw [st1.2 24 (by decide) (by decide) (by decide) (by decide) (by decide)]; exact hb0
  have ts1 : tsM h1 T n (.inr (tB T n p)) := ⟨z24, tk1, tl.2.1⟩
  refine zV_iload_n dX6_sayOnce_4 rfl rfl ?_
  refine zV_iconst dX6_sayOnce_5 ?_
  refine zR_icmp_ne (tgt := 24) dX6_sayOnce_6 (by decide) (by decide) (by decide) (fun h6 => ?_) (fun h6 => ?_)
  · refine zV_aload_nr dX6_sayOnce_24 rfl rfl ?_
    refine zV_iload_n dX6_sayOnce_25 rfl rfl ?_
    refine zV_iconst dX6_sayOnce_26 ?_
    refine zR_icmp_ne (tgt := 34) dX6_sayOnce_27 (by decide) (by decide) (by decide) (fun h27 => ?_) (fun h27 => ?_)
    · refine zV_iconst dX6_sayOnce_34 ?_
      refine pf6_238 rfl (rfl) (by decide) dX6_sayOnce_35 ?_
      refine zV_aload_nr dX6_sayOnce_38 rfl rfl ?_
      refine zV_aload_nr dX6_sayOnce_39 rfl rfl ?_
      refine gf6_238 rfl rfl dX6_sayOnce_40 ?_
      refine zV_teq (w := ziv 0) (congrArg ziv (by rw [zup_at, if_pos rfl])) ?_
      refine zR_if_eq (tgt := 53) dX6_sayOnce_43 (by decide) (by decide) (fun h43 => ?_) (fun h43 => ?_)
      · refine zV_aload_nr dX6_sayOnce_53 rfl rfl ?_
        refine gf6_33 rfl (rfl) dX6_sayOnce_54 ?_
        refine zV_teq (w := zrv E 66) rfl ?_
        refine zV_teq (w := zrv E (66 + 0)) rfl ?_
        refine pf6_39 rfl (rfl) dX6_sayOnce_57 ?_
        have fr1 : frH h (zup (zup h1 64 27 0) 64 3 ((66 + 0 : Nat) : Int)) := frH_trans (frH_nf (mnf_st st1)) ⟨fun c2 x => by rw [zup_fn (by omega), zup_fn (by omega)], fun j x y => by rw [zup_at, if_neg (by omega), zup_at, if_neg (by omega)], fun j _ => by rw [zup_fn (by decide), zup_fn (by decide)], fun c2 x _ i _ => by rw [zup_fn (by omega), zup_fn (by omega)], fun c2 x _ i _ => by rw [zup_fn (by omega), zup_fn (by omega)]⟩
        have e1 : ∀ c2 : Nat, c2 ≠ 64 → (zup (zup h1 64 27 0) 64 3 ((66 + 0 : Nat) : Int)) c2 = h c2 := fun c2 x => by rw [zup_fn x, zup_fn x]; exact st1.1 c2 x
        have ej : ∀ j, j ≠ 3 → j ≠ 27 → (zup (zup h1 64 27 0) 64 3 ((66 + 0 : Nat) : Int)) 64 j = h1 64 j := fun j x y => by rw [zup_at, if_neg x, zup_at, if_neg y]
        have hpM : preM (zup (zup h1 64 27 0) 64 3 ((66 + 0 : Nat) : Int)) T n 0 0 (tB T n p) := ⟨mclk_H hk fr1, by
            obtain ⟨x1, x2, x3, x4, x5⟩ := tk1
            exact ⟨by rw [ej 22 (by decide) (by decide)]; exact x1, by rw [ej 23 (by decide) (by decide)]; exact x2, by rw [ej 18 (by decide) (by decide)]; exact x3, by rw [ej 20 (by decide) (by decide)]; exact x4, by rw [ej 21 (by decide) (by decide)]; exact x5⟩, tl.2.1, by rw [ej 24 (by decide) (by decide)]; exact z24, by decide, by rw [zup_at, if_neg (by decide), zup_at, if_pos rfl]; rfl, by rw [e1 68 (by decide), (hD.2.2.2 0 (by decide)).1, hr0]; rfl, Nat.zero_le _, by rw [zup_at, if_pos rfl], str_H hsI fr1⟩
        refine zV_aload_nr dX6_sayOnce_60 rfl rfl ?_
        refine zV_iconst dX6_sayOnce_61 ?_
        refine zV_callV (As := [ziv 0]) lk6_255 (rfl) rfl rfl (c6_readExpr (ru := 0) 6 (d - 1) 0 (zup (zup h1 64 27 0) 64 3 ((66 + 0 : Nat) : Int)) 0 (tB T n p) 0 (by decide) (by omega) hpM) ⟨by show _ + 1 ≤ d; omega, by show _ ≤ k; omega⟩ rfl (Nat.le_of_ble_eq_true rfl) dX6_sayOnce_62 (fun _ _ z => z.elim) (fun r h3 q => ?_)
        have qn := q.1
        have ln9 := rul_ok (ru := 0) (by decide) hp hm fr1 e1 q
        subst qn
        exact zV_vreturn dX6_sayOnce_65 rfl (Nat.zero_le _) ⟨rfl, ln9⟩
      · exact absurd rfl h43
    · exact absurd h27 (by decide)
  · exact absurd h6 (by decide)
set_option maxRecDepth 100000 in
theorem c6_sayOnce4 {E : zE} {h : zH} {T : Nat → Int} {n p : Nat} {D : zDf} {d k : Nat} (hp : preL h T n D p) (hm : ¬ (ruO D 1).isSome = true) (hd : 51 ≤ d) : zCal E mX6_sayOnce d k [zrv E 64, ziv 4] h (fun r h' => r = none ∧ lnS h T n (rulP T n D 1 p) h') (fun _ _ => False) := by
  refine zCal_of (by decide) (Nat.le_of_ble_eq_true rfl) (fun a => ?_)
  show zV _ 0 0 [zrv E 64, ziv 4] [] _
  obtain ⟨hk, htk, hpn, hb0, hD, hsI, hok⟩ := id hp
  have tl := tB_lo (T := T) hpn
  have ta := tA_lo (T := T) hpn
  have hr0 : ruO D 1 = none := by
    cases e : ruO D 1 with
    | none => rfl
    | some x => rw [e] at hm; exact absurd rfl hm
  refine zV_aload_nr dX6_sayOnce_0 rfl rfl ?_
  refine zV_callV (As := []) lk6_235 (rfl) rfl rfl (c6_stepOn (T := T) (n := n) (p := tB T n p) (d - 1) 0 (by omega) hk htk.2.2.1 tl.2.1) ⟨by show _ + 1 ≤ d; omega, by show _ ≤ k; omega⟩ rfl (Nat.le_of_ble_eq_true rfl) dX6_sayOnce_1 (fun _ _ z => z.elim) (fun r h1 q => ?_)
  obtain ⟨rfl, st1, tk1⟩ := q
  have hk1 := mclk_st hk st1
  have z24 : h1 64 24 = 0 := by rw [st1.2 24 (by decide) (by decide) (by decide) (by decide) (by decide)]; exact hb0
  have ts1 : tsM h1 T n (.inr (tB T n p)) := ⟨z24, tk1, tl.2.1⟩
  refine zV_iload_n dX6_sayOnce_4 rfl rfl ?_
  refine zV_iconst dX6_sayOnce_5 ?_
  refine zR_icmp_ne (tgt := 24) dX6_sayOnce_6 (by decide) (by decide) (by decide) (fun h6 => ?_) (fun h6 => ?_)
  · refine zV_aload_nr dX6_sayOnce_24 rfl rfl ?_
    refine zV_iload_n dX6_sayOnce_25 rfl rfl ?_
    refine zV_iconst dX6_sayOnce_26 ?_
    refine zR_icmp_ne (tgt := 34) dX6_sayOnce_27 (by decide) (by decide) (by decide) (fun h27 => ?_) (fun h27 => ?_)
    · exact absurd rfl h27
    · refine zV_iconst dX6_sayOnce_30 ?_
      refine zV_goto (tgt := 35) dX6_sayOnce_31 (by decide) ?_
      refine pf6_238 rfl (rfl) (by decide) dX6_sayOnce_35 ?_
      refine zV_aload_nr dX6_sayOnce_38 rfl rfl ?_
      refine zV_aload_nr dX6_sayOnce_39 rfl rfl ?_
      refine gf6_238 rfl rfl dX6_sayOnce_40 ?_
      refine zV_teq (w := ziv 1) (congrArg ziv (by rw [zup_at, if_pos rfl])) ?_
      refine zR_if_eq (tgt := 53) dX6_sayOnce_43 (by decide) (by decide) (fun h43 => ?_) (fun h43 => ?_)
      · exact absurd h43 (by decide)
      · refine zV_aload_nr dX6_sayOnce_46 rfl rfl ?_
        refine gf6_36 rfl (rfl) dX6_sayOnce_47 ?_
        refine zV_teq (w := zrv E 67) rfl ?_
        refine zV_goto (tgt := 57) dX6_sayOnce_50 (by decide) ?_
        refine zV_teq (w := zrv E (66 + 1)) rfl ?_
        refine pf6_39 rfl (rfl) dX6_sayOnce_57 ?_
        have fr1 : frH h (zup (zup h1 64 27 1) 64 3 ((66 + 1 : Nat) : Int)) := frH_trans (frH_nf (mnf_st st1)) ⟨fun c2 x => by rw [zup_fn (by omega), zup_fn (by omega)], fun j x y => by rw [zup_at, if_neg (by omega), zup_at, if_neg (by omega)], fun j _ => by rw [zup_fn (by decide), zup_fn (by decide)], fun c2 x _ i _ => by rw [zup_fn (by omega), zup_fn (by omega)], fun c2 x _ i _ => by rw [zup_fn (by omega), zup_fn (by omega)]⟩
        have e1 : ∀ c2 : Nat, c2 ≠ 64 → (zup (zup h1 64 27 1) 64 3 ((66 + 1 : Nat) : Int)) c2 = h c2 := fun c2 x => by rw [zup_fn x, zup_fn x]; exact st1.1 c2 x
        have ej : ∀ j, j ≠ 3 → j ≠ 27 → (zup (zup h1 64 27 1) 64 3 ((66 + 1 : Nat) : Int)) 64 j = h1 64 j := fun j x y => by rw [zup_at, if_neg x, zup_at, if_neg y]
        have hpM : preM (zup (zup h1 64 27 1) 64 3 ((66 + 1 : Nat) : Int)) T n 1 0 (tB T n p) := ⟨mclk_H hk fr1, by
            obtain ⟨x1, x2, x3, x4, x5⟩ := tk1
            exact ⟨by rw [ej 22 (by decide) (by decide)]; exact x1, by rw [ej 23 (by decide) (by decide)]; exact x2, by rw [ej 18 (by decide) (by decide)]; exact x3, by rw [ej 20 (by decide) (by decide)]; exact x4, by rw [ej 21 (by decide) (by decide)]; exact x5⟩, tl.2.1, by rw [ej 24 (by decide) (by decide)]; exact z24, by decide, by rw [zup_at, if_neg (by decide), zup_at, if_pos rfl]; rfl, by rw [e1 68 (by decide), (hD.2.2.2 1 (by decide)).1, hr0]; rfl, Nat.zero_le _, by rw [zup_at, if_pos rfl], str_H hsI fr1⟩
        refine zV_aload_nr dX6_sayOnce_60 rfl rfl ?_
        refine zV_iconst dX6_sayOnce_61 ?_
        refine zV_callV (As := [ziv 0]) lk6_255 (rfl) rfl rfl (c6_readExpr (ru := 1) 6 (d - 1) 0 (zup (zup h1 64 27 1) 64 3 ((66 + 1 : Nat) : Int)) 0 (tB T n p) 0 (by decide) (by omega) hpM) ⟨by show _ + 1 ≤ d; omega, by show _ ≤ k; omega⟩ rfl (Nat.le_of_ble_eq_true rfl) dX6_sayOnce_62 (fun _ _ z => z.elim) (fun r h3 q => ?_)
        have qn := q.1
        have ln9 := rul_ok (ru := 1) (by decide) hp hm fr1 e1 q
        subst qn
        exact zV_vreturn dX6_sayOnce_65 rfl (Nat.zero_le _) ⟨rfl, ln9⟩
  · exact absurd h6 (by decide)
