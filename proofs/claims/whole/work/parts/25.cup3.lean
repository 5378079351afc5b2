theorem ruleV_congr {h h1 : zH} {t ru : Nat} (e7 : h1 (t + 7) = h (t + 7)) (e8 : h1 (t + 8) = h (t + 8)) (e9 : h1 (t + 9) = h (t + 9)) : ruleV h1 t ru = ruleV h t ru := by
  funext env; unfold ruleV; rw [e7, e8, e9]
theorem ruleOK_congr {h h1 : zH} {t ru : Nat} (e : ∀ o, 7 ≤ o → o ≤ 11 → h1 (t + o) = h (t + o)) (hr : ruleOK h t ru) : ruleOK h1 t ru := by
  unfold ruleOK at *
  rw [e 7 (by omega) (by omega), e 8 (by omega) (by omega), e 9 (by omega) (by omega), e 10 (by omega) (by omega), e 11 (by omega) (by omega)]
  exact hr
/-- a rule that is told, worked out -/
theorem c4_value {E : zE} {h : zH} {c t n ru : Nat} {th se : Int} (d k : Nat) (hd : 1 ≤ d) (hc : isCup c) (ht : isCourt t) (hn : n ≤ 8) (hl : h t 0 = (n : Int)) (hp : ∀ l, l < n → 0 ≤ h (c + 1) l ∧ h (c + 1) l < 12) (hru : ru < 2) (hok : ruleOK h t ru) (hto : h (t + 10) ru ≠ 0) (hrk : ∀ j, 2 ≤ j → j ≤ 4 → 0 ≤ h 28 j ∧ h 28 j ≤ 12) (hth : -2147483648 ≤ th ∧ th ≤ 2147483647) (hse : -2147483648 ≤ se ∧ se ≤ 2147483647) (hle : -2147483648 ≤ h c 8 ∧ h c 8 ≤ 2147483647) (hca : -2147483648 ≤ h c 6 ∧ h c 6 ≤ 2147483647) :
    zCal E mX4_valueOf d k [zrv E 28, zrv E t, ziv (ru : Int), zrv E c, ziv th, ziv se] h (fun r h' => r = some (ziv (ruleV h t ru (envL (h (c + 1)) n (h c 8) (h c 6) th se))) ∧ (∀ c2 : Nat, c2 ≠ 28 → c2 ≠ 29 → c2 ≠ 30 → h' c2 = h c2) ∧ ∀ j, 2 ≤ j → j ≤ 4 → 0 ≤ h' 28 j ∧ h' 28 j ≤ 12) (fun _ _ => False) := by
  rcases hok with h0 | ⟨-, fr, mm, e8, e9, h700, hlk, hwf, hnl⟩
  · exact absurd h0 hto
  · have base := c4_valueOf (E := E) (h := h) (th := th) (se := se) d k hd hc ht hn hl hp hru e8 e9 h700 hlk rfl rfl rfl hrk hth hse hle hca (hwf _)
    have he : evN (envS (h c 8) (if h (t + 11) ru = 0 then h 28 2 else mostS (h (c + 1)) n) (if h (t + 11) ru = 0 then h 28 3 else whereS (h (c + 1)) n) (if h (t + 11) ru = 0 then h 28 4 else oddS (h (c + 1)) n) (h c 6) th se) (h (t + 7)) fr mm = evN (envL (h (c + 1)) n (h c 8) (h c 6) th se) (h (t + 7)) fr mm := by
      apply evN_congr
      intro i hi hneg
      by_cases h0 : h (t + 11) ru = 0
      · have := hnl h0 i hi
        rw [if_pos h0, if_pos h0, if_pos h0]
        unfold envL envS
        repeat' split
        all_goals first | rfl | omega
      · rw [if_neg h0, if_neg h0, if_neg h0]; rfl
    have hv : ruleV h t ru (envL (h (c + 1)) n (h c 8) (h c 6) th se) = (evN (envL (h (c + 1)) n (h c 8) (h c 6) th se) (h (t + 7)) fr mm).headD 0 := by
      unfold ruleV
      rw [e8, e9, Int.toNat_natCast, Int.toNat_natCast, show fr + mm - fr = mm by omega]
    rw [hv, ← he]
    exact base
theorem ruleV_r {h : zH} {t ru : Nat} (hok : ruleOK h t ru) (hto : h (t + 10) ru ≠ 0) {env : Int → Int} (he : ∀ v, -2147483648 ≤ env v ∧ env v ≤ 2147483647) : -2147483648 ≤ ruleV h t ru env ∧ ruleV h t ru env ≤ 2147483647 := by
  rcases hok with h0 | ⟨-, fr, mm, e8, e9, -, -, hwf, -⟩
  · exact absurd h0 hto
  · unfold ruleV
    rw [e8, e9, Int.toNat_natCast, Int.toNat_natCast, show fr + mm - fr = mm by omega]
    exact evN_r he (hwf env)
theorem envL_r {p : Nat → Int} {n : Nat} (hn : n ≤ 8) {lev ca th se : Int} (h1 : -2147483648 ≤ lev ∧ lev ≤ 2147483647) (h5 : -2147483648 ≤ ca ∧ ca ≤ 2147483647) (h6 : -2147483648 ≤ th ∧ th ≤ 2147483647) (h7 : -2147483648 ≤ se ∧ se ≤ 2147483647) (v : Int) : -2147483648 ≤ envL p n lev ca th se v ∧ envL p n lev ca th se v ≤ 2147483647 := by
  have := surv_r p hn
  exact envS_r h1 (by omega) (by omega) (by omega) h5 h6 h7 v

set_option maxRecDepth 100000 in
theorem c4_reading {E : zE} {h : zH} {c t n : Nat} (d k : Nat) (hd : 2 ≤ d) (hc : isCup c) (ht : isCourt t) (hn : n ≤ 8) (hl : h t 0 = (n : Int)) (hp : ∀ l, l < n → 0 ≤ h (c + 1) l ∧ h (c + 1) l < 12) (hok : ruleOK h t 1) (hb : h (t + 10) 1 = 0 ∨ h (t + 10) 1 = 1) (hrk : ∀ j, 2 ≤ j → j ≤ 4 → 0 ≤ h 28 j ∧ h 28 j ≤ 12) (hle : -2147483648 ≤ h c 8 ∧ h c 8 ≤ 2147483647) (hca : -2147483648 ≤ h c 6 ∧ h c 6 ≤ 2147483647) : zCal E mX4_reading d k [zrv E 28, zrv E t, zrv E c] h (fun r h' => r = some (ziv (if h (t + 10) 1 = 0 then whereS (h (c + 1)) n + mostS (h (c + 1)) n else ruleV h t 1 (envL (h (c + 1)) n (h c 8) (h c 6) 0 0))) ∧ (∀ c2 : Nat, c2 ≠ 28 → c2 ≠ 29 → c2 ≠ 30 → h' c2 = h c2) ∧ ∀ j, 2 ≤ j → j ≤ 4 → 0 ≤ h' 28 j ∧ h' 28 j ≤ 12) (fun _ _ => False) := by
  refine zCal_of (by decide) (Nat.le_of_ble_eq_true rfl) (fun a => ?_)
  show zV _ 0 0 [zrv E 28, zrv E t, zrv E c] [] _
  refine zV_aload_nr dX4_reading_0 rfl rfl ?_
  refine gf4_47 rfl (court_0 ht) dX4_reading_1 ?_
  refine zV_iconst dX4_reading_4 ?_
  refine zV_zaloadN (i := 1) (N := 2) (court_10 ht) (by decide) (by decide) dX4_reading_5 ?_
  refine zR_if_eq (tgt := 19) dX4_reading_6 (by decide) (by omega) (fun h6 => ?_) (fun h6 => ?_)
  · refine zV_aload_nr dX4_reading_19 rfl rfl ?_
    refine zV_aload_nr dX4_reading_20 rfl rfl ?_
    refine zV_aload_nr dX4_reading_21 rfl rfl ?_
    refine zV_callV (As := [zrv E t, zrv E c]) lk4_55 (rfl) rfl rfl (c4_survey (d - 1) 0 hc ht hn hl hp) ⟨by show _ + 1 ≤ d; omega, by show _ ≤ k; omega⟩ rfl (Nat.le_of_ble_eq_true rfl) dX4_reading_22 (fun _ _ z => z.elim) (fun r h' q => ?_)
    obtain ⟨rfl, q⟩ := q
    have g1 := surv_r (h (c + 1)) hn
    refine zV_aload_nr dX4_reading_25 rfl rfl ?_
    refine gf4_35 rfl rfl dX4_reading_26 ?_
    refine zV_aload_nr dX4_reading_29 rfl rfl ?_
    refine gf4_32 rfl rfl dX4_reading_30 ?_
    refine zV_iadd dX4_reading_33 ?_
    exact zV_ireturn dX4_reading_34 rfl (Nat.zero_le _) ⟨by rw [if_pos h6, q.2.1, q.2.2.1], fun c2 a1 a2 a3 => q.1 c2 a1 a3, fun j j1 j2 => by
      rcases (show j = 2 ∨ j = 3 ∨ j = 4 by omega) with rfl | rfl | rfl
      · rw [q.2.1]; omega
      · rw [q.2.2.1]; omega
      · rw [q.2.2.2.1]; omega⟩
  · refine zV_aload_nr dX4_reading_9 rfl rfl ?_
    refine zV_aload_nr dX4_reading_10 rfl rfl ?_
    refine zV_iconst dX4_reading_11 ?_
    refine zV_aload_nr dX4_reading_12 rfl rfl ?_
    refine zV_iconst dX4_reading_13 ?_
    refine zV_iconst dX4_reading_14 ?_
    refine zV_callV (As := [zrv E t, ziv ((1 : Nat) : Int), zrv E c, ziv 0, ziv 0]) lk4_51 (rfl) rfl rfl (c4_value (d - 1) 0 (by omega) hc ht hn hl hp (by omega) hok h6 hrk (by decide) (by decide) hle hca) ⟨by show _ + 1 ≤ d; omega, by show _ ≤ k; omega⟩ rfl (Nat.le_of_ble_eq_true rfl) dX4_reading_15 (fun _ _ z => z.elim) (fun r h' q => ?_)
    obtain ⟨rfl, q⟩ := q
    exact zV_ireturn dX4_reading_18 rfl (Nat.zero_le _) ⟨by rw [if_neg h6], q⟩
set_option maxRecDepth 100000 in
theorem c2_sipOf {E : zE} {h : zH} {c t n j s : Nat} (d k : Nat) (hd : 2 ≤ d) (hc : isCup c) (ht : isCourt t) (hn : n ≤ 8) (hl : h t 0 = (n : Int)) (hp : ∀ l, l < n → 0 ≤ h (c + 1) l ∧ h (c + 1) l < 12) (hj : j < 8) (hs : s < 8) (hok : ruleOK h t 0) (hb : h (t + 10) 0 = 0 ∨ h (t + 10) 0 = 1) (hth : -2147483648 ≤ h (c + 2) j ∧ h (c + 2) j ≤ 2147483647) (hrk : ∀ j, 2 ≤ j → j ≤ 4 → 0 ≤ h 28 j ∧ h 28 j ≤ 12) (hle : -2147483648 ≤ h c 8 ∧ h c 8 ≤ 2147483647) (hca : -2147483648 ≤ h c 6 ∧ h c 6 ≤ 2147483647) : zCal E mX2_sipOf d k [zrv E c, ziv (j : Int), ziv (s : Int), zrv E t, zrv E 28] h (fun r h' => r = some (ziv (max 0 (min (if h (t + 10) 0 = 0 then h (c + 2) j else ruleV h t 0 (envL (h (c + 1)) n (h c 8) (h c 6) (h (c + 2) j) s)) (h c 8)))) ∧ (∀ c2 : Nat, c2 ≠ 28 → c2 ≠ 29 → c2 ≠ 30 → h' c2 = h c2) ∧ ∀ j, 2 ≤ j → j ≤ 4 → 0 ≤ h' 28 j ∧ h' 28 j ≤ 12) (fun _ _ => False) := by
  refine zCal_of (by decide) (Nat.le_of_ble_eq_true rfl) (fun a => ?_)
  show zV _ 0 0 [zrv E c, ziv (j : Int), ziv (s : Int), zrv E t, zrv E 28, .null] [] _
  have hc9 : c = 32 ∨ c = 43 ∨ c = 53 := hc
  have ht9 : t = 2 ∨ t = 16 := ht
  have J30 : ∀ (wa : Int) (h2 : zH), (wa = (if h (t + 10) 0 = 0 then h (c + 2) j else ruleV h t 0 (envL (h (c + 1)) n (h c 8) (h c 6) (h (c + 2) j) s))) → (-2147483648 ≤ wa ∧ wa ≤ 2147483647) → ((∀ c2 : Nat, c2 ≠ 28 → c2 ≠ 29 → c2 ≠ 30 → h2 c2 = h c2) ∧ ∀ j, 2 ≤ j → j ≤ 4 → 0 ≤ h2 28 j ∧ h2 28 j ≤ 12) → zV (E, mX2_sipOf, d, k, (fun r h' => r = some (ziv (max 0 (min (if h (t + 10) 0 = 0 then h (c + 2) j else ruleV h t 0 (envL (h (c + 1)) n (h c 8) (h c 6) (h (c + 2) j) s)) (h c 8)))) ∧ (∀ c2 : Nat, c2 ≠ 28 → c2 ≠ 29 → c2 ≠ 30 → h' c2 = h c2) ∧ ∀ j, 2 ≤ j → j ≤ 4 → 0 ≤ h' 28 j ∧ h' 28 j ≤ 12), (fun _ _ => False), a) 0 30 [zrv E c, ziv (j : Int), ziv (s : Int), zrv E t, zrv E 28, ziv wa] [] h2 := by
    intro wa h2 hwa hwr hq
    refine zV_iconst dX2_sipOf_30 ?_
    refine zV_iload dX2_sipOf_31 rfl ?_
    refine zV_aload_nr dX2_sipOf_33 rfl rfl ?_
    refine gf2_53 rfl (cup_0 hc) dX2_sipOf_34 ?_
    rw [hq.1 c (by omega) (by omega) (by omega)]
    refine zV_callS (As := [ziv wa, ziv (h c 8)]) lk2_96 (cJ_min (d - 1) 0 hwr hle) ⟨by show _ + 1 ≤ d; omega, by show _ ≤ k; omega⟩ rfl (Nat.le_of_ble_eq_true rfl) dX2_sipOf_37 (fun _ _ z => z.elim) (fun r h' q => ?_)
    obtain ⟨rfl, hh⟩ := q
    rw [hh]
    refine zV_callS (As := [ziv 0, ziv (min wa (h c 8))]) lk2_99 (cJ_max (d - 1) 0 (by decide) (by omega)) ⟨by show _ + 1 ≤ d; omega, by show _ ≤ k; omega⟩ rfl (Nat.le_of_ble_eq_true rfl) dX2_sipOf_40 (fun _ _ z => z.elim) (fun r h' q => ?_)
    obtain ⟨rfl, hh⟩ := q
    rw [hh]
    exact zV_ireturn dX2_sipOf_43 rfl (Nat.zero_le _) ⟨by rw [hwa], hq⟩
  refine zV_aload_nr dX2_sipOf_0 rfl rfl ?_
  refine gf2_15 rfl (cup_0 hc) dX2_sipOf_1 ?_
  refine zV_iload_n dX2_sipOf_4 rfl rfl ?_
  refine zV_ialoadN (i := j) (N := 8) (cup_2 hc) (by omega) (by decide) dX2_sipOf_5 ?_
  refine zV_istore dX2_sipOf_6 (Nat.le_of_ble_eq_true rfl) rfl ?_
  refine zV_aload_nr dX2_sipOf_8 rfl rfl ?_
  refine gf2_89 rfl (court_0 ht) dX2_sipOf_9 ?_
  refine zV_iconst dX2_sipOf_12 ?_
  refine zV_zaloadN (i := 0) (N := 2) (court_10 ht) (by decide) (by decide) dX2_sipOf_13 ?_
  refine zR_if_eq (tgt := 30) dX2_sipOf_14 (by decide) (by omega) (fun h14 => ?_) (fun h14 => ?_)
  · exact J30 _ h (by rw [if_pos h14]) hth ⟨fun _ _ _ _ => rfl, hrk⟩
  · refine zV_aload_r dX2_sipOf_17 rfl ?_
    refine zV_aload_nr dX2_sipOf_19 rfl rfl ?_
    refine zV_iconst dX2_sipOf_20 ?_
    refine zV_aload_nr dX2_sipOf_21 rfl rfl ?_
    refine zV_iload dX2_sipOf_22 rfl ?_
    refine zV_iload_n dX2_sipOf_24 rfl rfl ?_
    refine zV_callV (As := [zrv E t, ziv ((0 : Nat) : Int), zrv E c, ziv (h (c + 2) j), ziv (s : Int)]) lk2_92 (rfl) rfl rfl (c4_value (d - 1) 0 (by omega) hc ht hn hl hp (by omega) hok h14 hrk hth (by omega) hle hca) ⟨by show _ + 1 ≤ d; omega, by show _ ≤ k; omega⟩ rfl (Nat.le_of_ble_eq_true rfl) dX2_sipOf_25 (fun _ _ z => z.elim) (fun r h' q => ?_)
    obtain ⟨rfl, q⟩ := q
    refine zV_istore dX2_sipOf_28 (Nat.le_of_ble_eq_true rfl) rfl ?_
    exact J30 _ _ (by rw [if_neg h14]) (ruleV_r hok h14 (envL_r hn hle hca hth (by omega))) q
