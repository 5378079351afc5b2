/-- a court as it is heard, a cup that it is heard with -/
def courtOK (h : zH) (t n jn : Nat) : Prop := isCourt t ∧ n ≤ 8 ∧ jn ≤ 8 ∧ h t 0 = (n : Int) ∧ h t 3 = (jn : Int) ∧ (∀ l, l < n → 1 ≤ h (t + 2) l ∧ h (t + 2) l ≤ 9) ∧ (∀ j, j < jn → h (t + 6) j = 0 ∨ h (t + 6) j = 1) ∧ (∀ ru, ru < 2 → ruleOK h t ru)
def cupOK (h : zH) (c n jn : Nat) : Prop := isCup c ∧ (∀ l, l < n → 0 ≤ h (c + 1) l ∧ h (c + 1) l < 12) ∧ (∀ j, j < jn → 0 ≤ h (c + 2) j ∧ h (c + 2) j ≤ 30) ∧ (∀ j, j < jn → 0 ≤ h (c + 3) j ∧ h (c + 3) j ≤ 12) ∧ (∀ s, s < jn → 0 ≤ h (c + 4) s ∧ h (c + 4) s < jn) ∧ (0 ≤ h c 5 ∧ h c 5 ≤ 99) ∧ (0 ≤ h c 6 ∧ h c 6 ≤ 100000)
def rkOK (h : zH) : Prop := ∀ j, 2 ≤ j → j ≤ 4 → 0 ≤ h 28 j ∧ h 28 j ≤ 12
theorem ruleOK_b {h : zH} {t ru : Nat} (hr : ruleOK h t ru) : h (t + 10) ru = 0 ∨ h (t + 10) ru = 1 := by
  rcases hr with h0 | ⟨h1, -⟩
  · exact Or.inl h0
  · exact Or.inr h1
/-- the leaves, the level and the sips behind m seats -/
def caseX (h : zH) (c t n jn : Nat) (m : Nat) : (Nat → Int) × Int × (Nat → Int) := seatsN n jn (h (c + 4)) (h (c + 3)) (h (c + 2)) (h (t + 2)) (h (t + 6)) (h (t + 10) 0) (ruleV h t 0) (h c 6) (h (c + 1), h c 5, h (c + 5)) m
theorem caseX_s (h : zH) (c t n jn m : Nat) : caseX h c t n jn (m + 1) = seatStep n jn (h (c + 4)) (h (c + 3)) (h (c + 2)) (h (t + 2)) (h (t + 6)) (h (t + 10) 0) (ruleV h t 0) (h c 6) m (caseX h c t n jn m) := rfl
theorem seatStep_lo {n jn : Nat} {seats hands thirsts w barr : Nat → Int} {dt : Int} {dv : (Int → Int) → Int} {ca : Int} {s : Nat} {x : (Nat → Int) × Int × (Nat → Int)} (h2 : 0 ≤ x.2.1 ∧ x.2.1 ≤ 99) :
    (∀ l, l < n → 0 ≤ (seatStep n jn seats hands thirsts w barr dt dv ca s x).1 l ∧ (seatStep n jn seats hands thirsts w barr dt dv ca s x).1 l < 12) ∧ 0 ≤ (seatStep n jn seats hands thirsts w barr dt dv ca s x).2.1 ∧ (seatStep n jn seats hands thirsts w barr dt dv ca s x).2.1 ≤ 99 := by
  unfold seatStep
  dsimp only
  refine ⟨?_, ?_, ?_⟩
  · split
    · exact stirP_lo
    · exact fun l hl => blowP_lo stirP_lo n l hl
  · split <;> omega
  · split <;> omega
theorem caseX_lo {h : zH} {c t n jn : Nat} (hp : ∀ l, l < n → 0 ≤ h (c + 1) l ∧ h (c + 1) l < 12) (h5 : 0 ≤ h c 5 ∧ h c 5 ≤ 99) : ∀ m, (∀ l, l < n → 0 ≤ (caseX h c t n jn m).1 l ∧ (caseX h c t n jn m).1 l < 12) ∧ 0 ≤ (caseX h c t n jn m).2.1 ∧ (caseX h c t n jn m).2.1 ≤ 99 := by
  intro m
  induction m with
  | zero => exact ⟨hp, h5⟩
  | succ m ih => rw [caseX_s]; exact seatStep_lo ih.2
/-- behind a case: what has changed, and how -/
def heard (h : zH) (c t n jn : Nat) (h' : zH) : Prop := (∀ c2 : Nat, c2 ≠ c → c2 ≠ c + 1 → c2 ≠ c + 5 → c2 ≠ 28 → c2 ≠ 29 → c2 ≠ 30 → h' c2 = h c2) ∧ h' (c + 1) = (caseX h c t n jn jn).1 ∧ h' c 8 = (caseX h c t n jn jn).2.1 ∧ h' (c + 5) = (caseX h c t n jn jn).2.2 ∧ h' c 5 = h c 5 ∧ h' c 6 = h c 6 + 1 ∧
  h' c 7 = verdS (caseX h c t n jn jn).1 n (caseX h c t n jn jn).2.1 (h c 6) (h (t + 10) 1) (ruleV h t 1) ∧ rkOK h'
set_option maxRecDepth 100000 in
theorem c2_hear {E : zE} {h : zH} {c t n jn : Nat} (d k : Nat) (hd : 3 ≤ d) (hct : courtOK h t n jn) (hcu : cupOK h c n jn) (hrk : rkOK h) : zCal E mX2_hear d k [zrv E c, zrv E t, zrv E 28] h (fun r h' => r = none ∧ heard h c t n jn h') (fun _ _ => False) := by
  obtain ⟨ht, hn, hjn, hl, hj3, hw, hba, hru⟩ := hct
  obtain ⟨hc, hp, hth, hha, hse, hpo, hnu⟩ := hcu
  refine zCal_of (by decide) (Nat.le_of_ble_eq_true rfl) (fun a => ?_)
  show zV _ 0 0 [zrv E c, zrv E t, zrv E 28, .null, .null, .null, .null] [] _
  have hc9 : c = 32 ∨ c = 43 ∨ c = 53 := hc
  have ht9 : t = 2 ∨ t = 16 := ht
  refine zV_aload_nr dX2_hear_0 rfl rfl ?_
  refine zV_aload_nr dX2_hear_1 rfl rfl ?_
  refine gf2_27 rfl (cup_0 hc) dX2_hear_2 ?_
  refine pf2_53 rfl (cup_0 hc) dX2_hear_5 ?_
  refine zV_iconst dX2_hear_8 ?_
  refine zV_istore_n dX2_hear_9 rfl (Nat.le_of_ble_eq_true rfl) rfl ?_
  have L10 : ∀ (m : Nat) (s : Nat) (h1 : zH), (jn + 1 ≤ s + m) → (s ≤ jn) → (∀ c2 : Nat, c2 ≠ c → c2 ≠ c + 1 → c2 ≠ c + 5 → c2 ≠ 28 → c2 ≠ 29 → c2 ≠ 30 → h1 c2 = h c2) → (h1 (c + 1) = (caseX h c t n jn s).1) → (h1 c 8 = (caseX h c t n jn s).2.1) → (h1 (c + 5) = (caseX h c t n jn s).2.2) → (h1 c 5 = h c 5) → (h1 c 6 = h c 6) → (rkOK h1) → zV (E, mX2_hear, d, k, (fun r h' => r = none ∧ heard h c t n jn h'), (fun _ _ => False), a) 0 10 [zrv E c, zrv E t, zrv E 28, ziv (s : Int), .null, .null, .null] [] h1 := by
    intro m
    induction m with
    | zero => intro s h1 hm_ hsn hag x1 x2 x3 x5 x6 hrk1; exfalso; omega
    | succ m ih =>
      intro s h1 hm_ hsn hag x1 x2 x3 x5 x6 hrk1
      obtain ⟨r1, r2⟩ := caseX_lo (t := t) (jn := jn) hp hpo s
      have et : ∀ o, o ≤ 11 → h1 (t + o) = h (t + o) := fun o ho => hag (t + o) (by omega) (by omega) (by omega) (by omega) (by omega) (by omega)
      have et0 : h1 t = h t := et 0 (by omega)
      refine zV_iload_n dX2_hear_10 rfl rfl ?_
      refine zV_aload_nr dX2_hear_11 rfl rfl ?_
      refine gf2_56 rfl (court_0 ht) dX2_hear_12 ?_
      rw [et0, hj3]
      refine zR_icmp_ge (tgt := 134) dX2_hear_15 (by decide) (by omega) (by omega) (fun h15 => ?_) (fun h15 => ?_)
      · have e : jn = s := by omega
        subst e
        refine zV_aload_nr dX2_hear_134 rfl rfl ?_
        refine zV_aload_nr dX2_hear_135 rfl rfl ?_
        refine zV_aload_nr dX2_hear_136 rfl rfl ?_
        refine zV_aload_nr dX2_hear_137 rfl rfl ?_
        refine zV_callV (As := [zrv E t, zrv E c]) lk2_78 (rfl) rfl rfl (c4_reading (d - 1) 0 (by omega) hc ht hn (by rw [et0]; exact hl) (by rw [x1]; exact r1) (ruleOK_congr (fun o o1 o2 => et o o2) (hru 1 (by omega))) (by rw [et 10 (by omega)]; exact ruleOK_b (hru 1 (by omega))) hrk1 (by rw [x2]; omega) (by rw [x6]; omega)) ⟨by show _ + 1 ≤ d; omega, by show _ ≤ k; omega⟩ rfl (Nat.le_of_ble_eq_true rfl) dX2_hear_138 (fun _ _ z => z.elim) (fun r h' q => ?_)
        obtain ⟨rfl, q1, q2⟩ := q
        rw [et 10 (by omega), x1, x2, x6, ruleV_congr (h := h) (h1 := h1) (et 7 (by omega)) (et 8 (by omega)) (et 9 (by omega))]
        obtain ⟨vv, hvv⟩ : ∃ z, z = (if h (t + 10) 1 = 0 then whereS (caseX h c t n jn jn).1 n + mostS (caseX h c t n jn jn).1 n else ruleV h t 1 (envL (caseX h c t n jn jn).1 n (caseX h c t n jn jn).2.1 (h c 6) 0 0)) := ⟨_, rfl⟩
        rw [← hvv]
        have hvr : -2147483648 ≤ vv ∧ vv ≤ 2147483647 := by
          rw [hvv]
          split
          · have := surv_r (caseX h c t n jn jn).1 hn; omega
          · rename_i e; exact ruleV_r (hru 1 (by omega)) e (envL_r hn (by omega) (by omega) (by decide) (by decide))
        refine zV_iconst dX2_hear_141 ?_
        refine zV_callS (As := [ziv vv, ziv 5]) lk2_84 (cJ_floorMod (d - 1) 0 hvr (by decide)) ⟨by show _ + 1 ≤ d; omega, by show _ ≤ k; omega⟩ rfl (Nat.le_of_ble_eq_true rfl) dX2_hear_142 (fun _ _ z => z.elim) (fun r h' q => ?_)
        obtain ⟨rfl, hh⟩ := q
        rw [hh]
        refine pf2_31 rfl (cup_0 hc) dX2_hear_145 ?_
        refine zV_aload_nr dX2_hear_148 rfl rfl ?_
        refine zV_dup dX2_hear_149 rfl ?_
        refine gf2_40 rfl (cup_0 hc) dX2_hear_150 ?_
        refine zV_iconst dX2_hear_153 ?_
        refine zV_iadd dX2_hear_154 ?_
        refine pf2_40 rfl (cup_0 hc) dX2_hear_155 ?_
        exact zV_vreturn dX2_hear_158 rfl (Nat.zero_le _) ⟨rfl, fun c2 a1 a2 a3 a4 a5 a6 => by rw [zup_fn a1, zup_fn a1, q1 c2 a4 a5 a6]; exact hag c2 a1 a2 a3 a4 a5 a6, by rw [zup_fn (by omega), zup_fn (by omega), q1 _ (by omega) (by omega) (by omega)]; exact x1, by rw [zup_at, if_neg (by decide), zup_at, if_neg (by decide), q1 _ (by omega) (by omega) (by omega)]; exact x2, by rw [zup_fn (by omega), zup_fn (by omega), q1 _ (by omega) (by omega) (by omega)]; exact x3, by rw [zup_at, if_neg (by decide), zup_at, if_neg (by decide), q1 _ (by omega) (by omega) (by omega)]; exact x5, by rw [zup_at, if_pos rfl, zup_at, if_neg (by decide), q1 _ (by omega) (by omega) (by omega), x6], by rw [zup_at, if_neg (by decide), zup_at, if_pos rfl, hvv]; rfl, fun j j1 j2 => by rw [zup_fn (by omega), zup_fn (by omega)]; exact q2 j j1 j2⟩
      · refine zV_aload_nr dX2_hear_18 rfl rfl ?_
        refine gf2_21 rfl (cup_0 hc) dX2_hear_19 ?_
        refine zV_iload_n dX2_hear_22 rfl rfl ?_
        refine zV_ialoadN (i := s) (N := 8) (cup_4 hc) (by omega) (by decide) dX2_hear_23 ?_
        rw [hag (c + 4) (by omega) (by omega) (by omega) (by omega) (by omega) (by omega)]
        have hs4 := hse s (by omega)
        obtain ⟨jj, hjj⟩ : ∃ z : Nat, h (c + 4) s = (z : Int) := ⟨(h (c + 4) s).toNat, by omega⟩
        rw [hjj]
        have hjb : jj < jn := by omega
        refine zV_istore dX2_hear_24 (Nat.le_of_ble_eq_true rfl) rfl ?_
        refine zV_iload dX2_hear_26 rfl ?_
        refine zR_if_lt (tgt := 128) dX2_hear_28 (by decide) (by omega) (fun h28 => ?_) (fun h28 => ?_)
        · exfalso; omega
        · refine zV_iload dX2_hear_31 rfl ?_
          refine zV_bipush dX2_hear_33 (by decide) ?_
          refine zR_icmp_lt (tgt := 41) dX2_hear_35 (by decide) (by omega) (by omega) (fun h35 => ?_) (fun h35 => ?_)
          · have J58 : ∀ (lb : Int), (lb = if s + 1 = jn then 1 else 0) → zV (E, mX2_hear, d, k, (fun r h' => r = none ∧ heard h c t n jn h'), (fun _ _ => False), a) 0 58 [zrv E c, zrv E t, zrv E 28, ziv (s : Int), ziv (jj : Int), ziv lb, .null] [] h1 := by
              intro lb hlb
              have J76 : ∀ (sip : Int) (h2 : zH), (sip = (if s + 1 = jn then 0 else max 0 (min (if h (t + 10) 0 = 0 then h (c + 2) jj else ruleV h t 0 (envL (caseX h c t n jn s).1 n (caseX h c t n jn s).2.1 (h c 6) (h (c + 2) jj) s)) (caseX h c t n jn s).2.1))) → (∀ c2 : Nat, c2 ≠ 28 → c2 ≠ 29 → c2 ≠ 30 → h2 c2 = h1 c2) → (rkOK h2) → zV (E, mX2_hear, d, k, (fun r h' => r = none ∧ heard h c t n jn h'), (fun _ _ => False), a) 0 76 [zrv E c, zrv E t, zrv E 28, ziv (s : Int), ziv (jj : Int), ziv lb, .null] [ziv sip] h2 := by
                intro sip h2 hsip ha2 hrk2
                refine zV_istore dX2_hear_76 (Nat.le_of_ble_eq_true rfl) rfl ?_
                refine zV_aload_nr dX2_hear_78 rfl rfl ?_
                refine gf2_24 rfl (cup_0 hc) dX2_hear_79 ?_
                refine zV_iload dX2_hear_82 rfl ?_
                refine zV_iload dX2_hear_84 rfl ?_
                refine zV_iastoreN (i := jj) (N := 8) (cup_5 hc) (by omega) (by decide) dX2_hear_86 ?_
                refine zV_aload_nr dX2_hear_87 rfl rfl ?_
                refine zV_dup dX2_hear_88 rfl ?_
                refine gf2_53 rfl (cup_0 hc) dX2_hear_89 ?_
                refine zV_iload dX2_hear_92 rfl ?_
                refine zV_isub dX2_hear_94 ?_
                refine pf2_53 rfl (cup_0 hc) dX2_hear_95 ?_
                have J128 : ∀ (h4 : zH), (∀ c2 : Nat, c2 ≠ c → c2 ≠ c + 1 → c2 ≠ c + 5 → c2 ≠ 28 → c2 ≠ 29 → c2 ≠ 30 → h4 c2 = h c2) → (h4 (c + 1) = (caseX h c t n jn (s + 1)).1) → (h4 c 8 = (caseX h c t n jn (s + 1)).2.1) → (h4 (c + 5) = (caseX h c t n jn (s + 1)).2.2) → (h4 c 5 = h c 5) → (h4 c 6 = h c 6) → (rkOK h4) → zV (E, mX2_hear, d, k, (fun r h' => r = none ∧ heard h c t n jn h'), (fun _ _ => False), a) 0 128 [zrv E c, zrv E t, zrv E 28, ziv (s : Int), ziv (jj : Int), ziv lb, ziv sip] [] h4 := by
                  intro h4 hag x1 x2 x3 x5 x6 hrk4
                  refine zV_iinc dX2_hear_128 rfl (Nat.le_of_ble_eq_true rfl) rfl ?_
                  refine zV_goto (tgt := 10) dX2_hear_131 (by decide) ?_
                  refine zV_drop 4 ?_
                  refine zV_drop 5 ?_
                  refine zV_drop 6 ?_
                  exact ih (s + 1) h4 (by omega) (by omega) hag x1 x2 x3 x5 x6 hrk4
                have hsr : 0 ≤ sip ∧ sip ≤ (caseX h c t n jn s).2.1 := by rw [hsip]; split <;> omega
                have e2c : h2 c = h1 c := ha2 c (by omega) (by omega) (by omega)
                rw [zup_fn (show c ≠ c + 5 by omega), e2c, x2]
                obtain ⟨h3, hh3⟩ : ∃ z, z = zup (zup h2 (c + 5) jj sip) c 8 ((caseX h c t n jn s).2.1 - sip) := ⟨_, rfl⟩
                rw [← hh3]
                have g0 : ∀ c2 : Nat, c2 ≠ c → c2 ≠ c + 5 → c2 ≠ 28 → c2 ≠ 29 → c2 ≠ 30 → h3 c2 = h1 c2 := fun c2 a1 a2 a3 a4 a5 => by rw [hh3, zup_fn a1, zup_fn a2, ha2 c2 a3 a4 a5]
                have g1 : h3 (c + 1) = (caseX h c t n jn s).1 := by rw [g0 _ (by omega) (by omega) (by omega) (by omega) (by omega)]; exact x1
                have g2 : h3 c 8 = (caseX h c t n jn s).2.1 - sip := by rw [hh3, zup_at, if_pos rfl]
                have g5 : h3 c 5 = h c 5 := by rw [hh3, zup_at, if_neg (by decide), zup_fn (by omega), e2c, x5]
                have g6 : h3 c 6 = h c 6 := by rw [hh3, zup_at, if_neg (by decide), zup_fn (by omega), e2c, x6]
                have g3 : h3 (c + 5) = fun i => if i = jj then sip else (caseX h c t n jn s).2.2 i := by rw [hh3, zup_fn (by omega)]; funext i; rw [zup_at, ha2 (c + 5) (by omega) (by omega) (by omega), x3]
                have gt : ∀ o, o ≤ 11 → h3 (t + o) = h (t + o) := fun o ho => by rw [g0 (t + o) (by omega) (by omega) (by omega) (by omega) (by omega)]; exact et o ho
                have gt0 : h3 t = h t := gt 0 (by omega)
                have g4 : h3 (c + 3) = h (c + 3) := by rw [g0 _ (by omega) (by omega) (by omega) (by omega) (by omega)]; exact hag _ (by omega) (by omega) (by omega) (by omega) (by omega) (by omega)
                have grk : rkOK h3 := fun j j1 j2 => by rw [hh3, zup_fn (by omega), zup_fn (by omega)]; exact hrk2 j j1 j2
                have hX : caseX h c t n jn (s + 1) = ((if h (t + 6) jj = 0 then stirP (caseX h c t n jn s).1 (h (t + 2)) (pushS (h (c + 3) jj) ((caseX h c t n jn s).2.1 - sip)) n else blowP (stirP (caseX h c t n jn s).1 (h (t + 2)) (pushS (h (c + 3) jj) ((caseX h c t n jn s).2.1 - sip)) n) n), (caseX h c t n jn s).2.1 - sip, fun i => if i = jj then sip else (caseX h c t n jn s).2.2 i) := by
                  rw [caseX_s]
                  unfold seatStep
                  dsimp only
                  rw [hjj, Int.toNat_natCast, ← hsip]
                refine zV_aload_nr dX2_hear_98 rfl rfl ?_
                refine zV_aload_nr dX2_hear_99 rfl rfl ?_
                refine gf2_18 rfl (cup_0 hc) dX2_hear_100 ?_
                refine zV_iload dX2_hear_103 rfl ?_
                refine zV_ialoadN (i := jj) (N := 8) (cup_3 hc) (by omega) (by decide) dX2_hear_105 ?_
                rw [g4]
                refine zV_aload_nr dX2_hear_106 rfl rfl ?_
                refine zV_callV (As := [ziv (h (c + 3) jj), zrv E t]) lk2_63 (cup_0 hc) rfl rfl (c2_stirBy (n := n) (d - 1) 0 (by omega) hc ht hn (by rw [gt0]; exact hl) (by rw [g1]; exact r1) (by rw [gt 2 (by omega)]; exact hw) (hha jj hjb) (by rw [g2]; omega)) ⟨by show _ + 1 ≤ d; omega, by show _ ≤ k; omega⟩ rfl (Nat.le_of_ble_eq_true rfl) dX2_hear_107 (fun _ _ z => z.elim) (fun r h' q => ?_)
                obtain ⟨rfl, hh⟩ := q
                rw [g1, g2, gt 2 (by omega)] at hh
                rw [hh]
                refine zV_aload_nr dX2_hear_110 rfl rfl ?_
                refine gf2_67 rfl (court_0 ht) dX2_hear_111 ?_
                refine zV_iload dX2_hear_114 rfl ?_
                refine zV_zaloadN (i := jj) (N := 8) (court_6 ht) (by omega) (by decide) dX2_hear_116 ?_
                rw [zst_ne (show t + 6 ≠ c + 1 by omega), gt 6 (by omega)]
                refine zR_if_eq (tgt := 128) dX2_hear_117 (by decide) (by have := hba jj hjb; omega) (fun h117 => ?_) (fun h117 => ?_)
                · exact J128 _ (fun c2 a1 a2 a3 a4 a5 a6 => by rw [zst_ne a2]; rw [g0 c2 a1 a3 a4 a5 a6]; exact hag c2 a1 a2 a3 a4 a5 a6) (by rw [zst_same, hX, if_pos h117]) (by rw [zst_ne (by omega), hX]; exact g2) (by rw [zst_ne (by omega), hX]; exact g3) (by rw [zst_ne (by omega)]; exact g5) (by rw [zst_ne (by omega)]; exact g6) (fun j j1 j2 => by rw [zst_ne (by omega)]; exact grk j j1 j2)
                · refine zV_aload_nr dX2_hear_120 rfl rfl ?_
                  refine zV_aload_nr dX2_hear_121 rfl rfl ?_
                  refine gf2_71 rfl (court_0 ht) dX2_hear_122 ?_
                  rw [zst_ne (show t ≠ c + 1 by omega), gt0, hl]
                  refine zV_callV (As := [ziv (n : Int)]) lk2_74 (cup_0 hc) rfl rfl (c2_blow (d - 1) 0 hc hn (by rw [zst_same]; exact stirP_lo)) ⟨by show _ + 1 ≤ d; omega, by show _ ≤ k; omega⟩ rfl (Nat.le_of_ble_eq_true rfl) dX2_hear_125 (fun _ _ z => z.elim) (fun r h' q => ?_)
                  obtain ⟨rfl, hh5⟩ := q
                  rw [hh5]
                  exact J128 _ (fun c2 a1 a2 a3 a4 a5 a6 => by rw [zst_ne a2, zst_ne a2]; rw [g0 c2 a1 a3 a4 a5 a6]; exact hag c2 a1 a2 a3 a4 a5 a6) (by rw [zst_same, zst_same, hX, if_neg h117]) (by rw [zst_ne (by omega), zst_ne (by omega), hX]; exact g2) (by rw [zst_ne (by omega), zst_ne (by omega), hX]; exact g3) (by rw [zst_ne (by omega), zst_ne (by omega)]; exact g5) (by rw [zst_ne (by omega), zst_ne (by omega)]; exact g6) (fun j j1 j2 => by rw [zst_ne (by omega), zst_ne (by omega)]; exact grk j j1 j2)
              refine zV_iload dX2_hear_58 rfl ?_
              refine zR_if_eq (tgt := 67) dX2_hear_60 (by decide) (by rw [hlb]; split <;> omega) (fun h60 => ?_) (fun h60 => ?_)
              · have e2 : h1 (c + 2) = h (c + 2) := hag _ (by omega) (by omega) (by omega) (by omega) (by omega) (by omega)
                refine zV_aload_nr dX2_hear_67 rfl rfl ?_
                refine zV_iload dX2_hear_68 rfl ?_
                refine zV_iload_n dX2_hear_70 rfl rfl ?_
                refine zV_aload_nr dX2_hear_71 rfl rfl ?_
                refine zV_aload_nr dX2_hear_72 rfl rfl ?_
                refine zV_callV (As := [ziv (jj : Int), ziv (s : Int), zrv E t, zrv E 28]) lk2_59 (cup_0 hc) rfl rfl (c2_sipOf (d - 1) 0 (by omega) hc ht hn (by rw [et0]; exact hl) (by rw [x1]; exact r1) (by omega) (by omega) (ruleOK_congr (fun o o1 o2 => et o o2) (hru 0 (by omega))) (by rw [et 10 (by omega)]; exact ruleOK_b (hru 0 (by omega))) (by rw [e2]; have := hth jj hjb; omega) hrk1 (by rw [x2]; omega) (by rw [x6]; omega)) ⟨by show _ + 1 ≤ d; omega, by show _ ≤ k; omega⟩ rfl (Nat.le_of_ble_eq_true rfl) dX2_hear_73 (fun _ _ z => z.elim) (fun r h' q => ?_)
                obtain ⟨rfl, q1, q2⟩ := q
                exact J76 _ _ (by
                  have e1 : ¬ s + 1 = jn := by rw [h60] at hlb; intro z; rw [if_pos z] at hlb; omega
                  rw [if_neg e1, et 10 (by omega), e2, x1, x2, x6, ruleV_congr (h := h) (h1 := h1) (et 7 (by omega)) (et 8 (by omega)) (et 9 (by omega))]) q1 q2
              · refine zV_iconst dX2_hear_63 ?_
                refine zV_goto (tgt := 76) dX2_hear_64 (by decide) ?_
                exact J76 0 h1 (by rw [if_pos (by rw [hlb] at h60; exact Decidable.byContradiction fun z => h60 (if_neg z))]) (fun _ _ _ _ => rfl) hrk1
            refine zV_iload_n dX2_hear_41 rfl rfl ?_
            refine zV_aload_nr dX2_hear_42 rfl rfl ?_
            refine gf2_56 rfl (court_0 ht) dX2_hear_43 ?_
            refine zV_iconst dX2_hear_46 ?_
            refine zV_isub dX2_hear_47 ?_
            rw [et0, hj3]
            refine zR_icmp_ne (tgt := 55) dX2_hear_48 (by decide) (by omega) (by omega) (fun h48 => ?_) (fun h48 => ?_)
            · refine zV_iconst dX2_hear_55 ?_
              refine zV_istore dX2_hear_56 (Nat.le_of_ble_eq_true rfl) rfl ?_
              exact J58 0 (by rw [if_neg (by omega)])
            · refine zV_iconst dX2_hear_51 ?_
              refine zV_goto (tgt := 56) dX2_hear_52 (by decide) ?_
              refine zV_istore dX2_hear_56 (Nat.le_of_ble_eq_true rfl) rfl ?_
              exact J58 1 (by rw [if_pos (by omega)])
          · exfalso; omega
  exact L10 (jn + 1) 0 _ (by omega) (by omega) (fun c2 a1 a2 a3 a4 a5 a6 => zup_fn a1) (by rw [zup_fn (by omega)]; rfl) (by rw [zup_at, if_pos rfl]; rfl) (by rw [zup_fn (by omega)]; rfl) (by rw [zup_at, if_neg (by decide)]) (by rw [zup_at, if_neg (by decide)]) (fun j j1 j2 => by rw [zup_fn (by omega)]; exact hrk j j1 j2)
