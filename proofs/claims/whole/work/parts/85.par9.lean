/-! THE REFERENCE: a draft taken over; the court -/
def hlf (h : zH) (c m s : Nat) : zH := fun c2 i => if c2 = c ∧ i < s then h c (m + i) else h c2 i
theorem hlf_0 (h : zH) (c m : Nat) : hlf h c m 0 = h := by
  funext c2 i; unfold hlf; rw [if_neg (fun z => Nat.not_lt_zero i z.2)]
theorem hlf_s (h : zH) (c m s : Nat) (hs : s < m) : zup (hlf h c m s) c s (hlf h c m s c (m + s)) = hlf h c m (s + 1) := by
  funext c2 i
  by_cases e : c2 = c
  · subst e
    rw [zup_at]
    unfold hlf
    by_cases e2 : i = s
    · subst e2; rw [if_pos rfl, if_neg (by omega), if_pos ⟨rfl, by omega⟩]
    · rw [if_neg e2]
      by_cases e3 : i < s
      · rw [if_pos ⟨rfl, e3⟩, if_pos ⟨rfl, by omega⟩]
      · rw [if_neg (by omega), if_neg (by omega)]
  · rw [zup_fn e]; unfold hlf; rw [if_neg (fun z => e z.1), if_neg (fun z => e z.1)]
def thv (h : zH) : zH := hlf (hlf (hlf (hlf (hlf (hlf (hlf (hlf (hlf h 68 5 5) 69 8 8) 70 8 8) 71 8 8) 72 8 8) 73 8 8) 74 8 8) 75 700 700) 76 700 700
theorem hlf_ne {h : zH} {c m s c2 : Nat} (e : c2 ≠ c) : hlf h c m s c2 = h c2 := by funext i; unfold hlf; rw [if_neg (fun z => e z.1)]
theorem hlf_in {h : zH} {c m s i : Nat} (e : i < s) : hlf h c m s c i = h c (m + i) := by unfold hlf; rw [if_pos ⟨rfl, e⟩]
theorem thv_o (h : zH) {c2 : Nat} (e : c2 < 68 ∨ 76 < c2) : thv h c2 = h c2 := by
  unfold thv
  rw [hlf_ne (by omega), hlf_ne (by omega), hlf_ne (by omega), hlf_ne (by omega), hlf_ne (by omega), hlf_ne (by omega), hlf_ne (by omega), hlf_ne (by omega), hlf_ne (by omega)]
theorem thv_68 (h : zH) {i : Nat} (hi : i < 5) : thv h 68 i = h 68 (5 + i) := by
  unfold thv
  rw [hlf_ne (by decide), hlf_ne (by decide), hlf_ne (by decide), hlf_ne (by decide), hlf_ne (by decide), hlf_ne (by decide), hlf_ne (by decide), hlf_ne (by decide), hlf_in hi]
theorem thv_8 (h : zH) {c i : Nat} (hc : 69 ≤ c ∧ c ≤ 74) (hi : i < 8) : thv h c i = h c (8 + i) := by
  unfold thv
  rcases (show c = 69 ∨ c = 70 ∨ c = 71 ∨ c = 72 ∨ c = 73 ∨ c = 74 by omega) with rfl | rfl | rfl | rfl | rfl | rfl
  · rw [hlf_ne (by decide), hlf_ne (by decide), hlf_ne (by decide), hlf_ne (by decide), hlf_ne (by decide), hlf_ne (by decide), hlf_ne (by decide), hlf_in hi, hlf_ne (by decide)]
  · rw [hlf_ne (by decide), hlf_ne (by decide), hlf_ne (by decide), hlf_ne (by decide), hlf_ne (by decide), hlf_ne (by decide), hlf_in hi, hlf_ne (by decide), hlf_ne (by decide)]
  · rw [hlf_ne (by decide), hlf_ne (by decide), hlf_ne (by decide), hlf_ne (by decide), hlf_ne (by decide), hlf_in hi, hlf_ne (by decide), hlf_ne (by decide), hlf_ne (by decide)]
  · rw [hlf_ne (by decide), hlf_ne (by decide), hlf_ne (by decide), hlf_ne (by decide), hlf_in hi, hlf_ne (by decide), hlf_ne (by decide), hlf_ne (by decide), hlf_ne (by decide)]
  · rw [hlf_ne (by decide), hlf_ne (by decide), hlf_ne (by decide), hlf_in hi, hlf_ne (by decide), hlf_ne (by decide), hlf_ne (by decide), hlf_ne (by decide), hlf_ne (by decide)]
  · rw [hlf_ne (by decide), hlf_ne (by decide), hlf_in hi, hlf_ne (by decide), hlf_ne (by decide), hlf_ne (by decide), hlf_ne (by decide), hlf_ne (by decide), hlf_ne (by decide)]
theorem thv_r (h : zH) {ru i : Nat} (hr : ru < 2) (hi : i < 700) : thv h (75 + ru) i = h (75 + ru) (700 + i) := by
  unfold thv
  rcases (show ru = 0 ∨ ru = 1 by omega) with rfl | rfl
  · rw [hlf_ne (by decide), hlf_in hi, hlf_ne (by decide), hlf_ne (by decide), hlf_ne (by decide), hlf_ne (by decide), hlf_ne (by decide), hlf_ne (by decide), hlf_ne (by decide)]
  · rw [hlf_in hi, hlf_ne (by decide), hlf_ne (by decide), hlf_ne (by decide), hlf_ne (by decide), hlf_ne (by decide), hlf_ne (by decide), hlf_ne (by decide), hlf_ne (by decide)]
def tkV (h : zH) (b c : Nat) (i : Nat) : Int := if (i : Int) < h 68 b then h c (8 + i) else 0
def tkQ (h h' : zH) : Prop := (∀ c2 : Nat, c2 ≠ 64 → c2 ≠ 78 → c2 ≠ 80 → c2 ≠ 81 → c2 ≠ 82 → h' c2 = thv h c2) ∧ (∀ i, i < 8 → h' 80 i = tkV h 5 69 i) ∧ (∀ i, i < 8 → h' 78 i = tkV h 6 72 i) ∧ (∀ i, i < 8 → h' 82 i = tkV h 6 73 i) ∧ (∀ i : Nat, i < 8 → h' 81 i = (i : Int)) ∧ (h' 64 32 = 0 ∧ h' 64 33 = h 68 7 ∧ h' 64 34 = -1 ∧ h' 64 35 = 0 ∧ h' 64 36 = 0 ∧ h' 64 58 = 0) ∧ ∀ j, j ≠ 32 → j ≠ 33 → j ≠ 34 → j ≠ 35 → j ≠ 36 → j ≠ 58 → h' 64 j = h 64 j

set_option maxRecDepth 100000 in
theorem c6_takeHalf5 {E : zE} {h : zH} {c : Nat} (d k : Nat) (hcz : zsh[c]? = some (.inr (0, 10))) : zCal E mX6_takeHalf d k [zrv E c] h (fun r h' => r = none ∧ h' = hlf h c 5 5) (fun _ _ => False) := by
  refine zCal_of (by decide) (Nat.le_of_ble_eq_true rfl) (fun a => ?_)
  show zV _ 0 0 [zrv E c, .null] [] _
  refine zV_iconst dX6_takeHalf_0 ?_
  refine zV_istore_n dX6_takeHalf_1 rfl (Nat.le_of_ble_eq_true rfl) rfl ?_
  have L2 : ∀ (m : Nat) (s : Nat), (5 + 1 ≤ s + m) → (s ≤ 5) → zV (E, mX6_takeHalf, d, k, (fun r h' => r = none ∧ h' = hlf h c 5 5), (fun _ _ => False), a) 0 2 [zrv E c, ziv (s : Int)] [] (hlf h c 5 s) := by
    intro m
    induction m with
    | zero => intro s hm_ hs; exfalso; omega
    | succ m ih =>
      intro s hm_ hs
      refine zV_iload_n dX6_takeHalf_2 rfl rfl ?_
      refine zV_aload_nr dX6_takeHalf_3 rfl rfl ?_
      refine zV_alen (t := 0) (N := 10) (hcz) dX6_takeHalf_4 ?_
      refine zV_iconst dX6_takeHalf_5 ?_
      refine zV_idiv dX6_takeHalf_6 (by decide) ?_
      refine zV_teq (w := ziv ((5 : Nat) : Int)) (congrArg ziv (by decide +kernel)) ?_
      refine zR_icmp_ge (tgt := 27) dX6_takeHalf_7 (by decide) (by omega) (by decide) (fun h7 => ?_) (fun h7 => ?_)
      · exact zV_vreturn dX6_takeHalf_27 rfl (Nat.zero_le _) ⟨rfl, by rw [show s = 5 by omega]⟩
      · refine zV_aload_nr dX6_takeHalf_10 rfl rfl ?_
        refine zV_iload_n dX6_takeHalf_11 rfl rfl ?_
        refine zV_aload_nr dX6_takeHalf_12 rfl rfl ?_
        refine zV_aload_nr dX6_takeHalf_13 rfl rfl ?_
        refine zV_alen (t := 0) (N := 10) (hcz) dX6_takeHalf_14 ?_
        refine zV_iconst dX6_takeHalf_15 ?_
        refine zV_idiv dX6_takeHalf_16 (by decide) ?_
        refine zV_teq (w := ziv ((5 : Nat) : Int)) (congrArg ziv (by decide +kernel)) ?_
        refine zV_iload_n dX6_takeHalf_17 rfl rfl ?_
        refine zV_iadd dX6_takeHalf_18 ?_
        refine zV_teq (w := ziv ((5 + s : Nat) : Int)) (congrArg ziv (by omega)) ?_
        refine zV_ialoadN (i := (5 + s)) (N := 10) (hcz) (by omega) (by decide) dX6_takeHalf_19 ?_
        refine zV_iastoreN (i := s) (N := 10) (hcz) (by omega) (by decide) dX6_takeHalf_20 ?_
        refine zV_iinc dX6_takeHalf_21 rfl (Nat.le_of_ble_eq_true rfl) rfl ?_
        refine zV_goto (tgt := 2) dX6_takeHalf_24 (by decide) ?_
        rw [hlf_s h c 5 s (by omega)]
        exact ih (s + 1) (by omega) (by omega)
  have := L2 (5 + 1) 0 (by omega) (by omega)
  rw [hlf_0] at this
  exact this
set_option maxRecDepth 100000 in
theorem c6_takeHalf8 {E : zE} {h : zH} {c : Nat} (d k : Nat) (hcz : zsh[c]? = some (.inr (0, 16))) : zCal E mX6_takeHalf d k [zrv E c] h (fun r h' => r = none ∧ h' = hlf h c 8 8) (fun _ _ => False) := by
  refine zCal_of (by decide) (Nat.le_of_ble_eq_true rfl) (fun a => ?_)
  show zV _ 0 0 [zrv E c, .null] [] _
  refine zV_iconst dX6_takeHalf_0 ?_
  refine zV_istore_n dX6_takeHalf_1 rfl (Nat.le_of_ble_eq_true rfl) rfl ?_
  have L2 : ∀ (m : Nat) (s : Nat), (8 + 1 ≤ s + m) → (s ≤ 8) → zV (E, mX6_takeHalf, d, k, (fun r h' => r = none ∧ h' = hlf h c 8 8), (fun _ _ => False), a) 0 2 [zrv E c, ziv (s : Int)] [] (hlf h c 8 s) := by
    intro m
    induction m with
    | zero => intro s hm_ hs; exfalso; omega
    | succ m ih =>
      intro s hm_ hs
      refine zV_iload_n dX6_takeHalf_2 rfl rfl ?_
      refine zV_aload_nr dX6_takeHalf_3 rfl rfl ?_
      refine zV_alen (t := 0) (N := 16) (hcz) dX6_takeHalf_4 ?_
      refine zV_iconst dX6_takeHalf_5 ?_
      refine zV_idiv dX6_takeHalf_6 (by decide) ?_
      refine zV_teq (w := ziv ((8 : Nat) : Int)) (congrArg ziv (by decide +kernel)) ?_
      refine zR_icmp_ge (tgt := 27) dX6_takeHalf_7 (by decide) (by omega) (by decide) (fun h7 => ?_) (fun h7 => ?_)
      · exact zV_vreturn dX6_takeHalf_27 rfl (Nat.zero_le _) ⟨rfl, by rw [show s = 8 by omega]⟩
      · refine zV_aload_nr dX6_takeHalf_10 rfl rfl ?_
        refine zV_iload_n dX6_takeHalf_11 rfl rfl ?_
        refine zV_aload_nr dX6_takeHalf_12 rfl rfl ?_
        refine zV_aload_nr dX6_takeHalf_13 rfl rfl ?_
        refine zV_alen (t := 0) (N := 16) (hcz) dX6_takeHalf_14 ?_
        refine zV_iconst dX6_takeHalf_15 ?_
        refine zV_idiv dX6_takeHalf_16 (by decide) ?_
        refine zV_teq (w := ziv ((8 : Nat) : Int)) (congrArg ziv (by decide +kernel)) ?_
        refine zV_iload_n dX6_takeHalf_17 rfl rfl ?_
        refine zV_iadd dX6_takeHalf_18 ?_
        refine zV_teq (w := ziv ((8 + s : Nat) : Int)) (congrArg ziv (by omega)) ?_
        refine zV_ialoadN (i := (8 + s)) (N := 16) (hcz) (by omega) (by decide) dX6_takeHalf_19 ?_
        refine zV_iastoreN (i := s) (N := 16) (hcz) (by omega) (by decide) dX6_takeHalf_20 ?_
        refine zV_iinc dX6_takeHalf_21 rfl (Nat.le_of_ble_eq_true rfl) rfl ?_
        refine zV_goto (tgt := 2) dX6_takeHalf_24 (by decide) ?_
        rw [hlf_s h c 8 s (by omega)]
        exact ih (s + 1) (by omega) (by omega)
  have := L2 (8 + 1) 0 (by omega) (by omega)
  rw [hlf_0] at this
  exact this
set_option maxRecDepth 100000 in
theorem c6_takeHalf700 {E : zE} {h : zH} {c : Nat} (d k : Nat) (hcz : zsh[c]? = some (.inr (0, 1400))) : zCal E mX6_takeHalf d k [zrv E c] h (fun r h' => r = none ∧ h' = hlf h c 700 700) (fun _ _ => False) := by
  refine zCal_of (by decide) (Nat.le_of_ble_eq_true rfl) (fun a => ?_)
  show zV _ 0 0 [zrv E c, .null] [] _
  refine zV_iconst dX6_takeHalf_0 ?_
  refine zV_istore_n dX6_takeHalf_1 rfl (Nat.le_of_ble_eq_true rfl) rfl ?_
  have L2 : ∀ (m : Nat) (s : Nat), (700 + 1 ≤ s + m) → (s ≤ 700) → zV (E, mX6_takeHalf, d, k, (fun r h' => r = none ∧ h' = hlf h c 700 700), (fun _ _ => False), a) 0 2 [zrv E c, ziv (s : Int)] [] (hlf h c 700 s) := by
    intro m
    induction m with
    | zero => intro s hm_ hs; exfalso; omega
    | succ m ih =>
      intro s hm_ hs
      refine zV_iload_n dX6_takeHalf_2 rfl rfl ?_
      refine zV_aload_nr dX6_takeHalf_3 rfl rfl ?_
      refine zV_alen (t := 0) (N := 1400) (hcz) dX6_takeHalf_4 ?_
      refine zV_iconst dX6_takeHalf_5 ?_
      refine zV_idiv dX6_takeHalf_6 (by decide) ?_
      refine zV_teq (w := ziv ((700 : Nat) : Int)) (congrArg ziv (by decide +kernel)) ?_
      refine zR_icmp_ge (tgt := 27) dX6_takeHalf_7 (by decide) (by omega) (by decide) (fun h7 => ?_) (fun h7 => ?_)
      · exact zV_vreturn dX6_takeHalf_27 rfl (Nat.zero_le _) ⟨rfl, by rw [show s = 700 by omega]⟩
      · refine zV_aload_nr dX6_takeHalf_10 rfl rfl ?_
        refine zV_iload_n dX6_takeHalf_11 rfl rfl ?_
        refine zV_aload_nr dX6_takeHalf_12 rfl rfl ?_
        refine zV_aload_nr dX6_takeHalf_13 rfl rfl ?_
        refine zV_alen (t := 0) (N := 1400) (hcz) dX6_takeHalf_14 ?_
        refine zV_iconst dX6_takeHalf_15 ?_
        refine zV_idiv dX6_takeHalf_16 (by decide) ?_
        refine zV_teq (w := ziv ((700 : Nat) : Int)) (congrArg ziv (by decide +kernel)) ?_
        refine zV_iload_n dX6_takeHalf_17 rfl rfl ?_
        refine zV_iadd dX6_takeHalf_18 ?_
        refine zV_teq (w := ziv ((700 + s : Nat) : Int)) (congrArg ziv (by omega)) ?_
        refine zV_ialoadN (i := (700 + s)) (N := 1400) (hcz) (by omega) (by decide) dX6_takeHalf_19 ?_
        refine zV_iastoreN (i := s) (N := 1400) (hcz) (by omega) (by decide) dX6_takeHalf_20 ?_
        refine zV_iinc dX6_takeHalf_21 rfl (Nat.le_of_ble_eq_true rfl) rfl ?_
        refine zV_goto (tgt := 2) dX6_takeHalf_24 (by decide) ?_
        rw [hlf_s h c 700 s (by omega)]
        exact ih (s + 1) (by omega) (by omega)
  have := L2 (700 + 1) 0 (by omega) (by omega)
  rw [hlf_0] at this
  exact this
set_option maxRecDepth 100000 in
theorem c6_takeOver {E : zE} {h : zH} {na nb : Nat} (d k : Nat) (hd : 1 ≤ d) (ha : h 68 5 = (na : Int)) (ha8 : na ≤ 8) (hb : h 68 6 = (nb : Int)) (hb8 : nb ≤ 8) : zCal E mX6_takeOver d k [zrv E 64] h (fun r h' => r = none ∧ tkQ h h') (fun _ _ => False) := by
  refine zCal_of (by decide) (Nat.le_of_ble_eq_true rfl) (fun a => ?_)
  show zV _ 0 0 [zrv E 64, .null, .null] [] _
  have t0 : thv h 68 0 = (na : Int) := (thv_68 h (by decide)).trans ha
  have t1 : thv h 68 1 = (nb : Int) := (thv_68 h (by decide)).trans hb
  have t2 : thv h 68 2 = h 68 7 := thv_68 h (by decide)
  refine zV_aload_nr dX6_takeOver_0 rfl rfl ?_
  refine gf6_42 rfl (rfl) dX6_takeOver_1 ?_
  refine zV_teq (w := zrv E 68) rfl ?_
  refine zV_callS (As := [zrv E 68]) lk6_309 (c6_takeHalf5 (c := 68) (d - 1) 0 rfl) ⟨by show _ + 1 ≤ d; omega, by show _ ≤ k; omega⟩ rfl (Nat.le_of_ble_eq_true rfl) dX6_takeOver_4 (fun _ _ z => z.elim) (fun r g1 q => ?_)
  obtain ⟨rfl, hh⟩ := q
  subst hh
  refine zV_aload_nr dX6_takeOver_7 rfl rfl ?_
  refine gf6_46 rfl (rfl) dX6_takeOver_8 ?_
  refine zV_teq (w := zrv E 69) rfl ?_
  refine zV_callS (As := [zrv E 69]) lk6_309 (c6_takeHalf8 (c := 69) (d - 1) 0 rfl) ⟨by show _ + 1 ≤ d; omega, by show _ ≤ k; omega⟩ rfl (Nat.le_of_ble_eq_true rfl) dX6_takeOver_11 (fun _ _ z => z.elim) (fun r g2 q => ?_)
  obtain ⟨rfl, hh⟩ := q
  subst hh
  refine zV_aload_nr dX6_takeOver_14 rfl rfl ?_
  refine gf6_49 rfl (rfl) dX6_takeOver_15 ?_
  refine zV_teq (w := zrv E 70) rfl ?_
  refine zV_callS (As := [zrv E 70]) lk6_309 (c6_takeHalf8 (c := 70) (d - 1) 0 rfl) ⟨by show _ + 1 ≤ d; omega, by show _ ≤ k; omega⟩ rfl (Nat.le_of_ble_eq_true rfl) dX6_takeOver_18 (fun _ _ z => z.elim) (fun r g3 q => ?_)
  obtain ⟨rfl, hh⟩ := q
  subst hh
  refine zV_aload_nr dX6_takeOver_21 rfl rfl ?_
  refine gf6_52 rfl (rfl) dX6_takeOver_22 ?_
  refine zV_teq (w := zrv E 71) rfl ?_
  refine zV_callS (As := [zrv E 71]) lk6_309 (c6_takeHalf8 (c := 71) (d - 1) 0 rfl) ⟨by show _ + 1 ≤ d; omega, by show _ ≤ k; omega⟩ rfl (Nat.le_of_ble_eq_true rfl) dX6_takeOver_25 (fun _ _ z => z.elim) (fun r g4 q => ?_)
  obtain ⟨rfl, hh⟩ := q
  subst hh
  refine zV_aload_nr dX6_takeOver_28 rfl rfl ?_
  refine gf6_55 rfl (rfl) dX6_takeOver_29 ?_
  refine zV_teq (w := zrv E 72) rfl ?_
  refine zV_callS (As := [zrv E 72]) lk6_309 (c6_takeHalf8 (c := 72) (d - 1) 0 rfl) ⟨by show _ + 1 ≤ d; omega, by show _ ≤ k; omega⟩ rfl (Nat.le_of_ble_eq_true rfl) dX6_takeOver_32 (fun _ _ z => z.elim) (fun r g5 q => ?_)
  obtain ⟨rfl, hh⟩ := q
  subst hh
  refine zV_aload_nr dX6_takeOver_35 rfl rfl ?_
  refine gf6_58 rfl (rfl) dX6_takeOver_36 ?_
  refine zV_teq (w := zrv E 73) rfl ?_
  refine zV_callS (As := [zrv E 73]) lk6_309 (c6_takeHalf8 (c := 73) (d - 1) 0 rfl) ⟨by show _ + 1 ≤ d; omega, by show _ ≤ k; omega⟩ rfl (Nat.le_of_ble_eq_true rfl) dX6_takeOver_39 (fun _ _ z => z.elim) (fun r g6 q => ?_)
  obtain ⟨rfl, hh⟩ := q
  subst hh
  refine zV_aload_nr dX6_takeOver_42 rfl rfl ?_
  refine gf6_61 rfl (rfl) dX6_takeOver_43 ?_
  refine zV_teq (w := zrv E 74) rfl ?_
  refine zV_callS (As := [zrv E 74]) lk6_309 (c6_takeHalf8 (c := 74) (d - 1) 0 rfl) ⟨by show _ + 1 ≤ d; omega, by show _ ≤ k; omega⟩ rfl (Nat.le_of_ble_eq_true rfl) dX6_takeOver_46 (fun _ _ z => z.elim) (fun r g7 q => ?_)
  obtain ⟨rfl, hh⟩ := q
  subst hh
  refine zV_aload_nr dX6_takeOver_49 rfl rfl ?_
  refine gf6_64 rfl (rfl) dX6_takeOver_50 ?_
  refine zV_teq (w := zrv E 75) rfl ?_
  refine zV_callS (As := [zrv E 75]) lk6_309 (c6_takeHalf700 (c := 75) (d - 1) 0 rfl) ⟨by show _ + 1 ≤ d; omega, by show _ ≤ k; omega⟩ rfl (Nat.le_of_ble_eq_true rfl) dX6_takeOver_53 (fun _ _ z => z.elim) (fun r g8 q => ?_)
  obtain ⟨rfl, hh⟩ := q
  subst hh
  refine zV_aload_nr dX6_takeOver_56 rfl rfl ?_
  refine gf6_67 rfl (rfl) dX6_takeOver_57 ?_
  refine zV_teq (w := zrv E 76) rfl ?_
  refine zV_callS (As := [zrv E 76]) lk6_309 (c6_takeHalf700 (c := 76) (d - 1) 0 rfl) ⟨by show _ + 1 ≤ d; omega, by show _ ≤ k; omega⟩ rfl (Nat.le_of_ble_eq_true rfl) dX6_takeOver_60 (fun _ _ z => z.elim) (fun r g9 q => ?_)
  obtain ⟨rfl, hh⟩ := q
  subst hh
  show zV _ 0 63 [zrv E 64, .null, .null] [] (thv h)
  refine zV_aload_nr dX6_takeOver_63 rfl rfl ?_
  refine zV_iconst dX6_takeOver_64 ?_
  refine pf6_313 rfl (rfl) dX6_takeOver_65 ?_
  refine zV_aload_nr dX6_takeOver_68 rfl rfl ?_
  refine zV_aload_nr dX6_takeOver_69 rfl rfl ?_
  refine gf6_42 rfl (rfl) dX6_takeOver_70 ?_
  refine zV_teq (w := zrv E 68) rfl ?_
  refine zV_iconst dX6_takeOver_73 ?_
  refine zV_ialoadN (i := 2) (N := 10) (rfl) (by decide) (by decide) dX6_takeOver_74 ?_
  refine zV_teq (w := ziv (h 68 7)) (congrArg ziv (by rw [zup_fn (by decide)]; exact t2.symm)) ?_
  refine pf6_151 rfl (rfl) dX6_takeOver_75 ?_
  refine zV_aload_nr dX6_takeOver_78 rfl rfl ?_
  refine zV_iconst dX6_takeOver_79 ?_
  refine pf6_154 rfl (rfl) dX6_takeOver_80 ?_
  refine zV_iconst dX6_takeOver_83 ?_
  refine zV_istore_n dX6_takeOver_84 rfl (Nat.le_of_ble_eq_true rfl) rfl ?_
  have L85 : ∀ (m : Nat) (s : Nat) (h1 : zH), (8 + 1 ≤ s + m) → (s ≤ 8) → (∀ c2 : Nat, c2 ≠ 80 → h1 c2 = (zup (zup (zup (thv h) 64 32 0) 64 33 (h 68 7)) 64 34 (-1)) c2) → (∀ i, i < s → h1 80 i = tkV h 5 69 i) → zV (E, mX6_takeOver, d, k, (fun r h' => r = none ∧ tkQ h h'), (fun _ _ => False), a) 0 85 [zrv E 64, ziv (s : Int), .null] [] h1 := by
    intro m
    induction m with
    | zero => intro s h1 hm_ hs o1 o2; exfalso; omega
    | succ m ih =>
      intro s h1 hm_ hs o1 o2
      refine zV_iload_n dX6_takeOver_85 rfl rfl ?_
      refine zV_bipush dX6_takeOver_86 (by decide) ?_
      refine zR_icmp_ge (tgt := 123) dX6_takeOver_88 (by decide) (by omega) (by decide) (fun h88 => ?_) (fun h88 => ?_)
      · refine zV_iconst dX6_takeOver_123 ?_
        refine zV_istore_n dX6_takeOver_124 rfl (Nat.le_of_ble_eq_true rfl) rfl ?_
        have L125 : ∀ (m2 : Nat) (s : Nat) (x2 : Value) (h2 : zH), (8 + 1 ≤ s + m2) → (s ≤ 8) → (∀ c2 : Nat, c2 ≠ 78 → c2 ≠ 81 → c2 ≠ 82 → h2 c2 = h1 c2) → (∀ i, i < s → h2 78 i = tkV h 6 72 i) → (∀ i, i < s → h2 82 i = tkV h 6 73 i) → (∀ i : Nat, i < s → h2 81 i = (i : Int)) → zV (E, mX6_takeOver, d, k, (fun r h' => r = none ∧ tkQ h h'), (fun _ _ => False), a) 0 125 [zrv E 64, ziv (s : Int), x2] [] h2 := by
          intro m2
          induction m2 with
          | zero => intro s x2 h2 hm_ hs2 p1 p2 p3 p4; exfalso; omega
          | succ m2 ih2 =>
            intro s x2 h2 hm_ hs2 p1 p2 p3 p4
            refine zV_iload_n dX6_takeOver_125 rfl rfl ?_
            refine zV_bipush dX6_takeOver_126 (by decide) ?_
            refine zR_icmp_ge (tgt := 200) dX6_takeOver_128 (by decide) (by omega) (by decide) (fun h128 => ?_) (fun h128 => ?_)
            · refine zV_aload_nr dX6_takeOver_200 rfl rfl ?_
              refine zV_iconst dX6_takeOver_201 ?_
              refine pf6_316 rfl (rfl) dX6_takeOver_202 ?_
              refine zV_aload_nr dX6_takeOver_205 rfl rfl ?_
              refine zV_iconst dX6_takeOver_206 ?_
              refine pf6_319 rfl (rfl) dX6_takeOver_207 ?_
              refine zV_aload_nr dX6_takeOver_210 rfl rfl ?_
              refine zV_iconst dX6_takeOver_211 ?_
              refine pf6_322 rfl (rfl) (by decide) dX6_takeOver_212 ?_
              exact zV_vreturn dX6_takeOver_215 rfl (Nat.zero_le _) ⟨rfl, by
                  have hs8 : s = 8 := by omega
                  have f64 : h2 64 = (zup (zup (zup (thv h) 64 32 0) 64 33 (h 68 7)) 64 34 (-1)) 64 := by rw [p1 64 (by decide) (by decide) (by decide), o1 64 (by decide)]
                  refine ⟨fun c2 a b c d e => by rw [zup_fn a, zup_fn a, zup_fn a, p1 c2 b d e, o1 c2 c, zup_fn a, zup_fn a, zup_fn a], fun i hi => ?_, fun i hi => ?_, fun i hi => ?_, fun i hi => ?_, ⟨?_, ?_, ?_, ?_, ?_, ?_⟩, fun j a b c d e f => ?_⟩
                  · rw [zup_fn (by decide), zup_fn (by decide), zup_fn (by decide), p1 80 (by decide) (by decide) (by decide)]; exact o2 i (by omega)
                  · rw [zup_fn (by decide), zup_fn (by decide), zup_fn (by decide)]; exact p2 i (by omega)
                  · rw [zup_fn (by decide), zup_fn (by decide), zup_fn (by decide)]; exact p3 i (by omega)
                  · rw [zup_fn (by decide), zup_fn (by decide), zup_fn (by decide)]; exact p4 i (by omega)
                  · rw [zup_at, if_neg (by decide), zup_at, if_neg (by decide), zup_at, if_neg (by decide), f64, zup_at, if_neg (by decide), zup_at, if_neg (by decide), zup_at, if_pos rfl]
                  · rw [zup_at, if_neg (by decide), zup_at, if_neg (by decide), zup_at, if_neg (by decide), f64, zup_at, if_neg (by decide), zup_at, if_pos rfl]
                  · rw [zup_at, if_neg (by decide), zup_at, if_neg (by decide), zup_at, if_neg (by decide), f64, zup_at, if_pos rfl]
                  · rw [zup_at, if_neg (by decide), zup_at, if_neg (by decide), zup_at, if_pos rfl]
                  · rw [zup_at, if_neg (by decide), zup_at, if_pos rfl]
                  · rw [zup_at, if_pos rfl]
                  · rw [zup_at, if_neg f, zup_at, if_neg e, zup_at, if_neg d, f64, zup_at, if_neg c, zup_at, if_neg b, zup_at, if_neg a, thv_o h (by decide)]⟩
            · refine zV_iload_n dX6_takeOver_131 rfl rfl ?_
              refine zV_aload_nr dX6_takeOver_132 rfl rfl ?_
              refine gf6_42 rfl (rfl) dX6_takeOver_133 ?_
              refine zV_teq (w := zrv E 68) rfl ?_
              refine zV_iconst dX6_takeOver_136 ?_
              refine zV_ialoadN (i := 1) (N := 10) (rfl) (by decide) (by decide) dX6_takeOver_137 ?_
              refine zV_teq (w := ziv (nb : Int)) (congrArg ziv (by rw [p1 68 (by decide) (by decide) (by decide), o1 68 (by decide), zup_fn (by decide), zup_fn (by decide), zup_fn (by decide)]; exact t1.symm)) ?_
              refine zR_icmp_ge (tgt := 145) dX6_takeOver_138 (by decide) (by omega) (by omega) (fun h138 => ?_) (fun h138 => ?_)
              · have v8 : (0 : Int) = tkV h 6 72 s := by unfold tkV; rw [hb, if_neg (by omega)]
                have v2 : (0 : Int) = tkV h 6 73 s := by unfold tkV; rw [hb, if_neg (by omega)]
                refine zV_iconst dX6_takeOver_145 ?_
                refine zV_istore_n dX6_takeOver_146 rfl (Nat.le_of_ble_eq_true rfl) rfl ?_
                refine zV_aload_nr dX6_takeOver_147 rfl rfl ?_
                refine gf6_73 rfl (rfl) dX6_takeOver_148 ?_
                refine zV_teq (w := zrv E 78) rfl ?_
                refine zV_iload_n dX6_takeOver_151 rfl rfl ?_
                refine zV_iload_n dX6_takeOver_152 rfl rfl ?_
                refine zR_if_eq (tgt := 165) dX6_takeOver_153 (by decide) (by decide) (fun h153 => ?_) (fun h153 => ?_)
                · refine zV_iconst dX6_takeOver_165 ?_
                  refine zV_iastoreN (i := s) (N := 8) (rfl) (by omega) (by decide) dX6_takeOver_166 ?_
                  refine zV_aload_nr dX6_takeOver_167 rfl rfl ?_
                  refine gf6_88 rfl (rfl) dX6_takeOver_168 ?_
                  refine zV_teq (w := zrv E 82) rfl ?_
                  refine zV_iload_n dX6_takeOver_171 rfl rfl ?_
                  refine zV_iload_n dX6_takeOver_172 rfl rfl ?_
                  refine zR_if_eq (tgt := 185) dX6_takeOver_173 (by decide) (by decide) (fun h173 => ?_) (fun h173 => ?_)
                  · refine zV_iconst dX6_takeOver_185 ?_
                    refine zV_iastoreN (i := s) (N := 8) (rfl) (by omega) (by decide) dX6_takeOver_186 ?_
                    refine zV_aload_nr dX6_takeOver_187 rfl rfl ?_
                    refine gf6_85 rfl (rfl) dX6_takeOver_188 ?_
                    refine zV_teq (w := zrv E 81) rfl ?_
                    refine zV_iload_n dX6_takeOver_191 rfl rfl ?_
                    refine zV_iload_n dX6_takeOver_192 rfl rfl ?_
                    refine zV_iastoreN (i := s) (N := 8) (rfl) (by omega) (by decide) dX6_takeOver_193 ?_
                    refine zV_iinc dX6_takeOver_194 rfl (Nat.le_of_ble_eq_true rfl) rfl ?_
                    refine zV_goto (tgt := 125) dX6_takeOver_197 (by decide) ?_
                    refine ih2 (s + 1) _ _ (by omega) (by omega) (fun c2 a b c => by rw [zup_fn b, zup_fn c, zup_fn a]; exact p1 c2 a b c) (fun i hi => ?_) (fun i hi => ?_) (fun i hi => ?_)
                    · rw [zup_fn (by decide), zup_fn (by decide), zup_at]
                      by_cases e : i = s
                      · rw [if_pos e, e]; exact v8
                      · rw [if_neg e]; exact p2 i (by omega)
                    · rw [zup_fn (by decide), zup_at]
                      by_cases e : i = s
                      · rw [if_pos e, e]; exact v2
                      · rw [if_neg e, zup_fn (by decide)]; exact p3 i (by omega)
                    · rw [zup_at]
                      by_cases e : i = s
                      · rw [if_pos e, e]
                      · rw [if_neg e, zup_fn (by decide), zup_fn (by decide)]; exact p4 i (by omega)
                  · exact absurd rfl h173
                · exact absurd rfl h153
              · have v8 : h2 72 s = tkV h 6 72 s := by unfold tkV; rw [hb, if_pos (by omega), p1 72 (by decide) (by decide) (by decide), o1 72 (by decide), zup_fn (by decide), zup_fn (by decide), zup_fn (by decide)]; exact thv_8 h (by decide) (by omega)
                have v2 : zup h2 78 s (h2 72 s) 73 s = tkV h 6 73 s := by unfold tkV; rw [hb, if_pos (by omega), zup_fn (by decide), p1 73 (by decide) (by decide) (by decide), o1 73 (by decide), zup_fn (by decide), zup_fn (by decide), zup_fn (by decide)]; exact thv_8 h (by decide) (by omega)
                refine zV_iconst dX6_takeOver_141 ?_
                refine zV_goto (tgt := 146) dX6_takeOver_142 (by decide) ?_
                refine zV_istore_n dX6_takeOver_146 rfl (Nat.le_of_ble_eq_true rfl) rfl ?_
                refine zV_aload_nr dX6_takeOver_147 rfl rfl ?_
                refine gf6_73 rfl (rfl) dX6_takeOver_148 ?_
                refine zV_teq (w := zrv E 78) rfl ?_
                refine zV_iload_n dX6_takeOver_151 rfl rfl ?_
                refine zV_iload_n dX6_takeOver_152 rfl rfl ?_
                refine zR_if_eq (tgt := 165) dX6_takeOver_153 (by decide) (by decide) (fun h153 => ?_) (fun h153 => ?_)
                · exact absurd h153 (by decide)
                · refine zV_aload_nr dX6_takeOver_156 rfl rfl ?_
                  refine gf6_55 rfl (rfl) dX6_takeOver_157 ?_
                  refine zV_teq (w := zrv E 72) rfl ?_
                  refine zV_iload_n dX6_takeOver_160 rfl rfl ?_
                  refine zV_ialoadN (i := s) (N := 16) (rfl) (by omega) (by decide) dX6_takeOver_161 ?_
                  refine zV_goto (tgt := 166) dX6_takeOver_162 (by decide) ?_
                  refine zV_iastoreN (i := s) (N := 8) (rfl) (by omega) (by decide) dX6_takeOver_166 ?_
                  refine zV_aload_nr dX6_takeOver_167 rfl rfl ?_
                  refine gf6_88 rfl (rfl) dX6_takeOver_168 ?_
                  refine zV_teq (w := zrv E 82) rfl ?_
                  refine zV_iload_n dX6_takeOver_171 rfl rfl ?_
                  refine zV_iload_n dX6_takeOver_172 rfl rfl ?_
                  refine zR_if_eq (tgt := 185) dX6_takeOver_173 (by decide) (by decide) (fun h173 => ?_) (fun h173 => ?_)
                  · exact absurd h173 (by decide)
                  · refine zV_aload_nr dX6_takeOver_176 rfl rfl ?_
                    refine gf6_58 rfl (rfl) dX6_takeOver_177 ?_
                    refine zV_teq (w := zrv E 73) rfl ?_
                    refine zV_iload_n dX6_takeOver_180 rfl rfl ?_
                    refine zV_ialoadN (i := s) (N := 16) (rfl) (by omega) (by decide) dX6_takeOver_181 ?_
                    refine zV_goto (tgt := 186) dX6_takeOver_182 (by decide) ?_
                    refine zV_iastoreN (i := s) (N := 8) (rfl) (by omega) (by decide) dX6_takeOver_186 ?_
                    refine zV_aload_nr dX6_takeOver_187 rfl rfl ?_
                    refine gf6_85 rfl (rfl) dX6_takeOver_188 ?_
                    refine zV_teq (w := zrv E 81) rfl ?_
                    refine zV_iload_n dX6_takeOver_191 rfl rfl ?_
                    refine zV_iload_n dX6_takeOver_192 rfl rfl ?_
                    refine zV_iastoreN (i := s) (N := 8) (rfl) (by omega) (by decide) dX6_takeOver_193 ?_
                    refine zV_iinc dX6_takeOver_194 rfl (Nat.le_of_ble_eq_true rfl) rfl ?_
                    refine zV_goto (tgt := 125) dX6_takeOver_197 (by decide) ?_
                    refine ih2 (s + 1) _ _ (by omega) (by omega) (fun c2 a b c => by rw [zup_fn b, zup_fn c, zup_fn a]; exact p1 c2 a b c) (fun i hi => ?_) (fun i hi => ?_) (fun i hi => ?_)
                    · rw [zup_fn (by decide), zup_fn (by decide), zup_at]
                      by_cases e : i = s
                      · rw [if_pos e, e]; exact v8
                      · rw [if_neg e]; exact p2 i (by omega)
                    · rw [zup_fn (by decide), zup_at]
                      by_cases e : i = s
                      · rw [if_pos e, e]; exact v2
                      · rw [if_neg e, zup_fn (by decide)]; exact p3 i (by omega)
                    · rw [zup_at]
                      by_cases e : i = s
                      · rw [if_pos e, e]
                      · rw [if_neg e, zup_fn (by decide), zup_fn (by decide)]; exact p4 i (by omega)
        exact L125 9 0 .null h1 (by omega) (by omega) (fun _ _ _ _ => rfl) (fun i hi => absurd hi (Nat.not_lt_zero i)) (fun i hi => absurd hi (Nat.not_lt_zero i)) (fun i hi => absurd hi (Nat.not_lt_zero i))
      · refine zV_aload_nr dX6_takeOver_91 rfl rfl ?_
        refine gf6_82 rfl (rfl) dX6_takeOver_92 ?_
        refine zV_teq (w := zrv E 80) rfl ?_
        refine zV_iload_n dX6_takeOver_95 rfl rfl ?_
        refine zV_iload_n dX6_takeOver_96 rfl rfl ?_
        refine zV_aload_nr dX6_takeOver_97 rfl rfl ?_
        refine gf6_42 rfl (rfl) dX6_takeOver_98 ?_
        refine zV_teq (w := zrv E 68) rfl ?_
        refine zV_iconst dX6_takeOver_101 ?_
        refine zV_ialoadN (i := 0) (N := 10) (rfl) (by decide) (by decide) dX6_takeOver_102 ?_
        refine zV_teq (w := ziv (na : Int)) (congrArg ziv (by rw [o1 68 (by decide), zup_fn (by decide), zup_fn (by decide), zup_fn (by decide)]; exact t0.symm)) ?_
        refine zR_icmp_ge (tgt := 115) dX6_takeOver_103 (by decide) (by omega) (by omega) (fun h103 => ?_) (fun h103 => ?_)
        · have v0 : (0 : Int) = tkV h 5 69 s := by unfold tkV; rw [ha, if_neg (by omega)]
          refine zV_iconst dX6_takeOver_115 ?_
          refine zV_iastoreN (i := s) (N := 8) (rfl) (by omega) (by decide) dX6_takeOver_116 ?_
          refine zV_iinc dX6_takeOver_117 rfl (Nat.le_of_ble_eq_true rfl) rfl ?_
          refine zV_goto (tgt := 85) dX6_takeOver_120 (by decide) ?_
          exact ih (s + 1) _ (by omega) (by omega) (fun c2 e => by rw [zup_fn e]; exact o1 c2 e) (fun i hi => by
            rw [zup_at]
            by_cases e : i = s
            · rw [if_pos e, e]; exact v0
            · rw [if_neg e]; exact o2 i (by omega))
        · have v0 : h1 69 s = tkV h 5 69 s := by unfold tkV; rw [ha, if_pos (by omega), o1 69 (by decide), zup_fn (by decide), zup_fn (by decide), zup_fn (by decide)]; exact thv_8 h (by decide) (by omega)
          refine zV_aload_nr dX6_takeOver_106 rfl rfl ?_
          refine gf6_46 rfl (rfl) dX6_takeOver_107 ?_
          refine zV_teq (w := zrv E 69) rfl ?_
          refine zV_iload_n dX6_takeOver_110 rfl rfl ?_
          refine zV_ialoadN (i := s) (N := 16) (rfl) (by omega) (by decide) dX6_takeOver_111 ?_
          refine zV_goto (tgt := 116) dX6_takeOver_112 (by decide) ?_
          refine zV_iastoreN (i := s) (N := 8) (rfl) (by omega) (by decide) dX6_takeOver_116 ?_
          refine zV_iinc dX6_takeOver_117 rfl (Nat.le_of_ble_eq_true rfl) rfl ?_
          refine zV_goto (tgt := 85) dX6_takeOver_120 (by decide) ?_
          exact ih (s + 1) _ (by omega) (by omega) (fun c2 e => by rw [zup_fn e]; exact o1 c2 e) (fun i hi => by
            rw [zup_at]
            by_cases e : i = s
            · rw [if_pos e, e]; exact v0
            · rw [if_neg e]; exact o2 i (by omega))
  exact L85 9 0 (zup (zup (zup (thv h) 64 32 0) 64 33 (h 68 7)) 64 34 (-1)) (by omega) (by omega) (fun _ _ => rfl) (fun i hi => absurd hi (Nat.not_lt_zero i))
