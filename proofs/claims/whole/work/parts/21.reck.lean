/-! THE CUP -/
def isCup (c : Nat) : Prop := c = 32 ∨ c = 43 ∨ c = 53
def isCourt (t : Nat) : Prop := t = 2 ∨ t = 16
theorem cup_0 {c : Nat} (hc : isCup c) : zsh[c]? = some (.inl 2) := by rcases hc with rfl | rfl | rfl <;> rfl
theorem cup_1 {c : Nat} (hc : isCup c) : zsh[c + 1]? = some (.inr (0, 8)) := by rcases hc with rfl | rfl | rfl <;> rfl
theorem cup_2 {c : Nat} (hc : isCup c) : zsh[c + 2]? = some (.inr (0, 8)) := by rcases hc with rfl | rfl | rfl <;> rfl
theorem cup_3 {c : Nat} (hc : isCup c) : zsh[c + 3]? = some (.inr (0, 8)) := by rcases hc with rfl | rfl | rfl <;> rfl
theorem cup_4 {c : Nat} (hc : isCup c) : zsh[c + 4]? = some (.inr (0, 8)) := by rcases hc with rfl | rfl | rfl <;> rfl
theorem cup_5 {c : Nat} (hc : isCup c) : zsh[c + 5]? = some (.inr (0, 8)) := by rcases hc with rfl | rfl | rfl <;> rfl
theorem court_0 {t : Nat} (ht : isCourt t) : zsh[t]? = some (.inl 1) := by rcases ht with rfl | rfl <;> rfl
theorem court_1 {t : Nat} (ht : isCourt t) : zsh[t + 1]? = some (.inr (0, 8)) := by rcases ht with rfl | rfl <;> rfl
theorem court_2 {t : Nat} (ht : isCourt t) : zsh[t + 2]? = some (.inr (0, 8)) := by rcases ht with rfl | rfl <;> rfl
theorem court_3 {t : Nat} (ht : isCourt t) : zsh[t + 3]? = some (.inr (0, 8)) := by rcases ht with rfl | rfl <;> rfl
theorem court_4 {t : Nat} (ht : isCourt t) : zsh[t + 4]? = some (.inr (0, 8)) := by rcases ht with rfl | rfl <;> rfl
theorem court_5 {t : Nat} (ht : isCourt t) : zsh[t + 5]? = some (.inr (0, 8)) := by rcases ht with rfl | rfl <;> rfl
theorem court_6 {t : Nat} (ht : isCourt t) : zsh[t + 6]? = some (.inr (1, 8)) := by rcases ht with rfl | rfl <;> rfl
theorem court_7 {t : Nat} (ht : isCourt t) : zsh[t + 7]? = some (.inr (0, 700)) := by rcases ht with rfl | rfl <;> rfl
theorem court_8 {t : Nat} (ht : isCourt t) : zsh[t + 8]? = some (.inr (0, 2)) := by rcases ht with rfl | rfl <;> rfl
theorem court_9 {t : Nat} (ht : isCourt t) : zsh[t + 9]? = some (.inr (0, 2)) := by rcases ht with rfl | rfl <;> rfl
theorem court_10 {t : Nat} (ht : isCourt t) : zsh[t + 10]? = some (.inr (1, 2)) := by rcases ht with rfl | rfl <;> rfl
theorem court_11 {t : Nat} (ht : isCourt t) : zsh[t + 11]? = some (.inr (1, 2)) := by rcases ht with rfl | rfl <;> rfl
/-- the first place from s on, of m places, that holds j, or -1 -/
def seatS (f : Nat → Int) (j : Int) : Nat → Nat → Int
  | _, 0 => -1
  | s, n + 1 => if f s = j then (s : Int) else seatS f j (s + 1) n

/-- what a rule may name: level, most, where, odd, case, thirst, seat -/
def envS (lev mo wh od ca th se v : Int) : Int := if v = -15 then th else if v = -14 then ca else if v = -13 then od else if v = -12 then wh else if v = -11 then mo else if v = -10 then lev else se
/-- two numbers joined by an operator, kept an int -/
def joinS (op x y : Int) : Int := if op = -1 then (if x ≠ 0 ∨ y ≠ 0 then 1 else 0) else if op = -2 then (if x ≠ 0 ∧ y ≠ 0 then 1 else 0) else if op = -4 then (if x < y then 1 else 0) else if op = -5 then (if x = y then 1 else 0)
  else if op = -6 then zn (x + y) else if op = -7 then zn (x - y) else if op = -8 then zn (x * y) else if y = 0 then 0 else zdiv x y
/-- one step of a rule over its stack -/
def evT (env : Int → Int) (tok : Int) (st : List Int) : List Int :=
  if 0 ≤ tok ∨ tok < -9 then (if 0 ≤ tok then tok else env tok) :: st
  else if tok = -3 then (match st with | x :: r => (if x = 0 then 1 else 0) :: r | [] => [])
  else match st with | y :: x :: r => joinS tok x y :: r | r => r
/-- m steps from fr on -/
def evN (env : Int → Int) (tk : Nat → Int) (fr : Nat) : Nat → List Int
  | 0 => []
  | m + 1 => evT env (tk (fr + m)) (evN env tk fr m)
/-- each of the m steps finds its operands, and room -/
def wfN (env : Int → Int) (tk : Nat → Int) (fr m : Nat) : Prop := ∀ i, i < m → -16 ≤ tk (fr + i) ∧ tk (fr + i) ≤ 9999 ∧
  (0 ≤ tk (fr + i) ∨ tk (fr + i) < -9 → (evN env tk fr i).length < 64) ∧ (tk (fr + i) = -3 → 1 ≤ (evN env tk fr i).length) ∧ (¬ (0 ≤ tk (fr + i) ∨ tk (fr + i) < -9) → tk (fr + i) ≠ -3 → 2 ≤ (evN env tk fr i).length)
/-- a row of places holds a stack, its lowest at 0 -/
def stk (f : Nat → Int) : List Int → Prop
  | [] => True
  | x :: r => f r.length = x ∧ stk f r
theorem stk_up {h : zH} {c k : Nat} {v : Int} : ∀ {st : List Int}, st.length ≤ k → stk (h c) st → stk (zup h c k v c) st := by
  intro st
  induction st with
  | nil => intro _ _; trivial
  | cons x r ih =>
    intro hk hs
    simp only [List.length_cons] at hk
    refine ⟨?_, ih (by omega) hs.2⟩
    rw [zup_at, if_neg (by omega)]
    exact hs.1
def rngS (st : List Int) : Prop := ∀ x ∈ st, -2147483648 ≤ x ∧ x ≤ 2147483647
theorem zdiv_r (x y : Int) : -2147483648 ≤ zdiv x y ∧ zdiv x y ≤ 2147483647 := by
  unfold zdiv
  have h1 := Int32.le_toInt (Int32.ofInt x / Int32.ofInt y)
  have h2 := Int32.toInt_lt (Int32.ofInt x / Int32.ofInt y)
  omega
theorem joinS_r (op x y : Int) : -2147483648 ≤ joinS op x y ∧ joinS op x y ≤ 2147483647 := by
  unfold joinS
  have a1 := zn_lo (x + y); have a2 := zn_hi (x + y); have b1 := zn_lo (x - y); have b2 := zn_hi (x - y); have c1 := zn_lo (x * y); have c2 := zn_hi (x * y); have d := zdiv_r x y
  repeat' split
  all_goals omega
theorem rng_evT {env : Int → Int} {tok : Int} {st : List Int} (he : ∀ v, -2147483648 ≤ env v ∧ env v ≤ 2147483647) (ht : tok ≤ 9999) (hs : rngS st) : rngS (evT env tok st) := by
  unfold evT
  split
  · intro x hx
    rcases List.mem_cons.mp hx with rfl | hx
    · split
      · omega
      · exact he _
    · exact hs x hx
  · split
    · match st, hs with
      | [], _ => intro x hx; cases hx
      | y :: r, hs =>
        intro x hx
        rcases List.mem_cons.mp hx with rfl | hx
        · split <;> omega
        · exact hs x (List.mem_cons_of_mem _ hx)
    · match st, hs with
      | [], hs => exact hs
      | [y], hs => exact hs
      | y :: z :: r, hs =>
        intro x hx
        rcases List.mem_cons.mp hx with rfl | hx
        · exact joinS_r _ _ _
        · exact hs x (List.mem_cons_of_mem _ (List.mem_cons_of_mem _ hx))
theorem rng_evN {env : Int → Int} {tk : Nat → Int} {fr m : Nat} (he : ∀ v, -2147483648 ≤ env v ∧ env v ≤ 2147483647) (hw : wfN env tk fr m) : ∀ i, i ≤ m → rngS (evN env tk fr i) := by
  intro i
  induction i with
  | zero => intro _ x hx; cases hx
  | succ i ih => intro hi; exact rng_evT he (hw i (by omega)).2.1 (ih (by omega))

set_option maxRecDepth 100000 in
theorem c4_survey {E : zE} {h : zH} {c t n : Nat} (d k : Nat) (hc : isCup c) (ht : isCourt t) (hn : n ≤ 8) (hl : h t 0 = (n : Int)) (hp : ∀ l, l < n → 0 ≤ h (c + 1) l ∧ h (c + 1) l < 12) : zCal E mX4_survey d k [zrv E 28, zrv E t, zrv E c] h (fun r h' => r = none ∧ (∀ c2 : Nat, c2 ≠ 28 → c2 ≠ 30 → h' c2 = h c2) ∧ h' 28 2 = mostS (h (c + 1)) n ∧ h' 28 3 = whereS (h (c + 1)) n ∧ h' 28 4 = oddS (h (c + 1)) n ∧ ∀ q : Nat, q < 12 → h' 30 q = cntS (h (c + 1)) q n) (fun _ _ => False) := by
  refine zCal_of (by decide) (Nat.le_of_ble_eq_true rfl) (fun a => ?_)
  show zV _ 0 0 [zrv E 28, zrv E t, zrv E c, .null, .null] [] _
  have hc9 : c = 32 ∨ c = 43 ∨ c = 53 := hc
  have ht9 : t = 2 ∨ t = 16 := ht
  refine zV_iconst dX4_survey_0 ?_
  refine zV_istore_n dX4_survey_1 rfl (Nat.le_of_ble_eq_true rfl) rfl ?_
  have L2 : ∀ (m : Nat) (s : Nat) (h1 : zH), (13 ≤ s + m) → (s ≤ 12) → (∀ c2 : Nat, c2 ≠ 30 → h1 c2 = h c2) → (∀ q : Nat, q < s → h1 30 q = 0) → zV (E, mX4_survey, d, k, (fun r h' => r = none ∧ (∀ c2 : Nat, c2 ≠ 28 → c2 ≠ 30 → h' c2 = h c2) ∧ h' 28 2 = mostS (h (c + 1)) n ∧ h' 28 3 = whereS (h (c + 1)) n ∧ h' 28 4 = oddS (h (c + 1)) n ∧ ∀ q : Nat, q < 12 → h' 30 q = cntS (h (c + 1)) q n), (fun _ _ => False), a) 0 2 [zrv E 28, zrv E t, zrv E c, ziv (s : Int), .null] [] h1 := by
    intro m
    induction m with
    | zero => intro s h1 hm_ hsn hag hz; exfalso; omega
    | succ m ih =>
      intro s h1 hm_ hsn hag hz
      refine zV_iload_n dX4_survey_2 rfl rfl ?_
      refine zV_bipush dX4_survey_3 (by decide) ?_
      refine zR_icmp_ge (tgt := 21) dX4_survey_5 (by decide) (by omega) (by omega) (fun h5 => ?_) (fun h5 => ?_)
      · refine zV_aload_nr dX4_survey_21 rfl rfl ?_
        refine zV_iconst dX4_survey_22 ?_
        refine pf4_18 rfl (rfl) dX4_survey_23 ?_
        refine zV_iconst dX4_survey_26 ?_
        refine zV_istore_n dX4_survey_27 rfl (Nat.le_of_ble_eq_true rfl) rfl ?_
        have L28 : ∀ (m : Nat) (s : Nat) (h1 : zH), (n + 1 ≤ s + m) → (s ≤ n) → (∀ c2 : Nat, c2 ≠ 28 → c2 ≠ 30 → h1 c2 = h c2) → (∀ q : Nat, q < 12 → h1 30 q = cntS (h (c + 1)) q s) → (h1 28 4 = oddS (h (c + 1)) s) → zV (E, mX4_survey, d, k, (fun r h' => r = none ∧ (∀ c2 : Nat, c2 ≠ 28 → c2 ≠ 30 → h' c2 = h c2) ∧ h' 28 2 = mostS (h (c + 1)) n ∧ h' 28 3 = whereS (h (c + 1)) n ∧ h' 28 4 = oddS (h (c + 1)) n ∧ ∀ q : Nat, q < 12 → h' 30 q = cntS (h (c + 1)) q n), (fun _ _ => False), a) 0 28 [zrv E 28, zrv E t, zrv E c, ziv (s : Int), .null] [] h1 := by
          intro m
          induction m with
          | zero => intro s h1 hm_ hsn hag hz ho; exfalso; omega
          | succ m ih =>
            intro s h1 hm_ hsn hag hz ho
            refine zV_iload_n dX4_survey_28 rfl rfl ?_
            refine zV_aload_nr dX4_survey_29 rfl rfl ?_
            refine gf4_22 rfl (court_0 ht) dX4_survey_30 ?_
            rw [hag t (by omega) (by omega), hl]
            refine zR_icmp_ge (tgt := 86) dX4_survey_33 (by decide) (by omega) (by omega) (fun h33 => ?_) (fun h33 => ?_)
            · have e : n = s := by omega
              subst e
              refine zV_aload_nr dX4_survey_86 rfl rfl ?_
              refine zV_iconst dX4_survey_87 ?_
              refine pf4_32 rfl (rfl) dX4_survey_88 ?_
              refine zV_aload_nr dX4_survey_91 rfl rfl ?_
              refine zV_iconst dX4_survey_92 ?_
              refine pf4_35 rfl (rfl) dX4_survey_93 ?_
              refine zV_iconst dX4_survey_96 ?_
              refine zV_istore_n dX4_survey_97 rfl (Nat.le_of_ble_eq_true rfl) rfl ?_
              have L98 : ∀ (m : Nat) (s : Nat) (h1 : zH), (13 ≤ s + m) → (s ≤ 12) → (∀ c2 : Nat, c2 ≠ 28 → c2 ≠ 30 → h1 c2 = h c2) → (∀ q : Nat, q < 12 → h1 30 q = cntS (h (c + 1)) q n) → (h1 28 4 = oddS (h (c + 1)) n) → (h1 28 2 = (mwS (h (c + 1)) n s).1) → (h1 28 3 = (mwS (h (c + 1)) n s).2) → zV (E, mX4_survey, d, k, (fun r h' => r = none ∧ (∀ c2 : Nat, c2 ≠ 28 → c2 ≠ 30 → h' c2 = h c2) ∧ h' 28 2 = mostS (h (c + 1)) n ∧ h' 28 3 = whereS (h (c + 1)) n ∧ h' 28 4 = oddS (h (c + 1)) n ∧ ∀ q : Nat, q < 12 → h' 30 q = cntS (h (c + 1)) q n), (fun _ _ => False), a) 0 98 [zrv E 28, zrv E t, zrv E c, ziv (s : Int), .null] [] h1 := by
                intro m
                induction m with
                | zero => intro s h1 hm_ hsn hag hz ho hmo hwh; exfalso; omega
                | succ m ih =>
                  intro s h1 hm_ hsn hag hz ho hmo hwh
                  refine zV_iload_n dX4_survey_98 rfl rfl ?_
                  refine zV_bipush dX4_survey_99 (by decide) ?_
                  refine zR_icmp_ge (tgt := 138) dX4_survey_101 (by decide) (by omega) (by omega) (fun h101 => ?_) (fun h101 => ?_)
                  · have e : s = 12 := by omega
                    subst e
                    exact zV_vreturn dX4_survey_138 rfl (Nat.zero_le _) ⟨rfl, hag, hmo, hwh, ho, hz⟩
                  · refine zV_aload_nr dX4_survey_104 rfl rfl ?_
                    refine gf4_15 rfl (rfl) dX4_survey_105 ?_
                    refine zV_teq (w := zrv E 30) rfl ?_
                    refine zV_iload_n dX4_survey_108 rfl rfl ?_
                    refine zV_ialoadN (i := s) (N := 12) (rfl) (by omega) (by decide) dX4_survey_109 ?_
                    refine zV_aload_nr dX4_survey_110 rfl rfl ?_
                    refine gf4_32 rfl rfl dX4_survey_111 ?_
                    rw [hz s (by omega), hmo]
                    have g1 := cntS_lo (h (c + 1)) s n
                    have g2 := mwS_lo (h (c + 1)) n s
                    refine zR_icmp_le (tgt := 132) dX4_survey_114 (by decide) (by omega) (by omega) (fun h114 => ?_) (fun h114 => ?_)
                    · have hmw : mwS (h (c + 1)) n (s + 1) = mwS (h (c + 1)) n s := by rw [mwS_s, if_neg (by omega)]
                      refine zV_iinc dX4_survey_132 rfl (Nat.le_of_ble_eq_true rfl) rfl ?_
                      refine zV_goto (tgt := 98) dX4_survey_135 (by decide) ?_
                      exact ih (s + 1) _ (by omega) (by omega) hag hz ho (by rw [hmw]; exact hmo) (by rw [hmw]; exact hwh)
                    · have hmw : mwS (h (c + 1)) n (s + 1) = (cntS (h (c + 1)) s n, (s : Int)) := by rw [mwS_s, if_pos (by omega)]
                      refine zV_aload_nr dX4_survey_117 rfl rfl ?_
                      refine zV_aload_nr dX4_survey_118 rfl rfl ?_
                      refine gf4_15 rfl (rfl) dX4_survey_119 ?_
                      refine zV_teq (w := zrv E 30) rfl ?_
                      refine zV_iload_n dX4_survey_122 rfl rfl ?_
                      refine zV_ialoadN (i := s) (N := 12) (rfl) (by omega) (by decide) dX4_survey_123 ?_
                      refine pf4_32 rfl (rfl) dX4_survey_124 ?_
                      refine zV_aload_nr dX4_survey_127 rfl rfl ?_
                      refine zV_iload_n dX4_survey_128 rfl rfl ?_
                      refine pf4_35 rfl (rfl) dX4_survey_129 ?_
                      refine zV_iinc dX4_survey_132 rfl (Nat.le_of_ble_eq_true rfl) rfl ?_
                      refine zV_goto (tgt := 98) dX4_survey_135 (by decide) ?_
                      exact ih (s + 1) _ (by omega) (by omega) (fun c2 a1 a2 => by rw [zup_fn a1, zup_fn a1]; exact hag c2 a1 a2) (fun q hq => by rw [zup_fn (by decide), zup_fn (by decide)]; exact hz q hq) ho (by rw [hmw]; exact hz s (by omega)) (by rw [hmw]; rfl)
              exact L98 13 0 _ (by omega) (by omega) (fun c2 a1 a2 => by rw [zup_fn a1, zup_fn a1]; exact hag c2 a1 a2) (fun q hq => by rw [zup_fn (by decide), zup_fn (by decide)]; exact hz q hq) (by rw [zup_at, zup_at]; exact ho) (by rw [zup_at, zup_at]; rfl) (by rw [zup_at]; rfl)
            · refine zV_aload_nr dX4_survey_36 rfl rfl ?_
              refine gf4_27 rfl (cup_0 hc) dX4_survey_37 ?_
              refine zV_iload_n dX4_survey_40 rfl rfl ?_
              refine zV_ialoadN (i := s) (N := 8) (cup_1 hc) (by omega) (by decide) dX4_survey_41 ?_
              rw [hag (c + 1) (by omega) (by omega)]
              have hb := hp s (by omega)
              refine zV_istore dX4_survey_42 (Nat.le_of_ble_eq_true rfl) rfl ?_
              refine zV_iload dX4_survey_44 rfl ?_
              refine zR_if_lt (tgt := 80) dX4_survey_46 (by decide) (by omega) (fun h46 => ?_) (fun h46 => ?_)
              · exfalso; omega
              · refine zV_iload dX4_survey_49 rfl ?_
                refine zV_bipush dX4_survey_51 (by decide) ?_
                refine zR_icmp_ge (tgt := 80) dX4_survey_53 (by decide) (by omega) (by omega) (fun h53 => ?_) (fun h53 => ?_)
                · exfalso; omega
                · refine zV_aload_nr dX4_survey_56 rfl rfl ?_
                  refine gf4_15 rfl (rfl) dX4_survey_57 ?_
                  refine zV_teq (w := zrv E 30) rfl ?_
                  refine zV_iload dX4_survey_60 rfl ?_
                  refine zV_dup2 dX4_survey_62 rfl rfl ?_
                  refine zV_iaload (N := 12) (rfl) (by omega) (by decide) dX4_survey_63 ?_
                  refine zV_iconst dX4_survey_64 ?_
                  refine zV_iadd dX4_survey_65 ?_
                  refine zV_iastore (N := 12) (rfl) (by omega) (by decide) dX4_survey_66 ?_
                  refine zV_aload_nr dX4_survey_67 rfl rfl ?_
                  refine zV_dup dX4_survey_68 rfl ?_
                  refine gf4_18 rfl rfl dX4_survey_69 ?_
                  refine zV_iload dX4_survey_72 rfl ?_
                  refine zV_iconst dX4_survey_74 ?_
                  refine zV_iand dX4_survey_75 ?_
                  refine zV_iadd dX4_survey_76 ?_
                  refine pf4_18 rfl (rfl) dX4_survey_77 ?_
                  have hz2 : ∀ q : Nat, q < 12 → (zup (zup h1 30 (h (c + 1) s).toNat (h1 30 (h (c + 1) s).toNat + 1)) 28 4 (zup h1 30 (h (c + 1) s).toNat (h1 30 (h (c + 1) s).toNat + 1) 28 4 + zand (h (c + 1) s) 1)) 30 q = cntS (h (c + 1)) q (s + 1) := by
                    intro q hq
                    rw [zup_fn (by decide), zup_at]
                    rw [cntS_s]
                    by_cases e : (h (c + 1) s).toNat = q
                    · subst e
                      rw [if_pos rfl, if_pos (by omega), hz _ hq]
                    · rw [if_neg (fun z => e z.symm), if_neg (by omega), hz q hq]
                  have ho2 : (zup (zup h1 30 (h (c + 1) s).toNat (h1 30 (h (c + 1) s).toNat + 1)) 28 4 (zup h1 30 (h (c + 1) s).toNat (h1 30 (h (c + 1) s).toNat + 1) 28 4 + zand (h (c + 1) s) 1)) 28 4 = oddS (h (c + 1)) (s + 1) := by
                    rw [zup_at, if_pos rfl, zup_fn (by decide), ho, zand1 hb.1 hb.2]
                    rfl
                  refine zV_iinc dX4_survey_80 rfl (Nat.le_of_ble_eq_true rfl) rfl ?_
                  refine zV_goto (tgt := 28) dX4_survey_83 (by decide) ?_
                  refine zV_drop 4 ?_
                  exact ih (s + 1) _ (by omega) (by omega) (fun c2 a1 a2 => by rw [zup_fn a1, zup_fn a2]; exact hag c2 a1 a2) hz2 ho2
        exact L28 (n + 1) 0 _ (by omega) (by omega) (fun c2 a1 a2 => by rw [zup_fn a1]; exact hag c2 a2) (fun q hq => by rw [zup_fn (by decide)]; exact hz q (by omega)) (by rw [zup_at]; rfl)
      · refine zV_aload_nr dX4_survey_8 rfl rfl ?_
        refine gf4_15 rfl (rfl) dX4_survey_9 ?_
        refine zV_teq (w := zrv E 30) rfl ?_
        refine zV_iload_n dX4_survey_12 rfl rfl ?_
        refine zV_iconst dX4_survey_13 ?_
        refine zV_iastoreN (i := s) (N := 12) (rfl) (by omega) (by decide) dX4_survey_14 ?_
        refine zV_iinc dX4_survey_15 rfl (Nat.le_of_ble_eq_true rfl) rfl ?_
        refine zV_goto (tgt := 2) dX4_survey_18 (by decide) ?_
        exact ih (s + 1) _ (by omega) (by omega) (fun c2 hc2 => by rw [zup_fn hc2]; exact hag c2 hc2) (fun q hq => if e : q = s then (by rw [zup_at, if_pos e]) else (by rw [zup_at, if_neg e]; exact hz q (by omega)))
  exact L2 13 0 h (by omega) (by omega) (fun _ _ => rfl) (fun q hq => absurd hq (by omega))
set_option maxRecDepth 100000 in
theorem c4_named {E : zE} {h : zH} {c : Nat} {v x y : Int} (d k : Nat) (hc : isCup c) (hv0 : -2147483648 ≤ v ∧ v ≤ 2147483647) : zCal E mX4_named d k [zrv E 28, ziv v, zrv E c, ziv x, ziv y] h (fun r h' => r = some (ziv (envS (h c 8) (h 28 2) (h 28 3) (h 28 4) (h c 6) x y v)) ∧ h' = h) (fun _ _ => False) := by
  refine zCal_of (by decide) (Nat.le_of_ble_eq_true rfl) (fun a => ?_)
  show zV _ 0 0 [zrv E 28, ziv v, zrv E c, ziv x, ziv y] [] _
  refine zV_iload_n dX4_named_0 rfl rfl ?_
  rcases (show v = -15 ∨ v = -14 ∨ v = -13 ∨ v = -12 ∨ v = -11 ∨ v = -10 ∨ (v < -15 ∨ -10 < v) by omega) with hv1 | hv1 | hv1 | hv1 | hv1 | hv1 | hv1
  · refine zV_teq (congrArg ziv hv1.symm) ?_
    refine zV_tableIn (off := 64) (tgt := 65) dX4_named_1 (by decide) (by decide) (by decide) (by decide) ?_
    refine zV_iload_n dX4_named_65 rfl rfl ?_
    exact zV_ireturn dX4_named_66 rfl (Nat.zero_le _) ⟨by subst hv1; rfl, rfl⟩
  · refine zV_teq (congrArg ziv hv1.symm) ?_
    refine zV_tableIn (off := 59) (tgt := 60) dX4_named_1 (by decide) (by decide) (by decide) (by decide) ?_
    refine zV_aload_nr dX4_named_60 rfl rfl ?_
    refine gf4_82 rfl (cup_0 hc) dX4_named_61 ?_
    exact zV_ireturn dX4_named_64 rfl (Nat.zero_le _) ⟨by subst hv1; rfl, rfl⟩
  · refine zV_teq (congrArg ziv hv1.symm) ?_
    refine zV_tableIn (off := 54) (tgt := 55) dX4_named_1 (by decide) (by decide) (by decide) (by decide) ?_
    refine zV_aload_nr dX4_named_55 rfl rfl ?_
    refine gf4_18 rfl rfl dX4_named_56 ?_
    exact zV_ireturn dX4_named_59 rfl (Nat.zero_le _) ⟨by subst hv1; rfl, rfl⟩
  · refine zV_teq (congrArg ziv hv1.symm) ?_
    refine zV_tableIn (off := 49) (tgt := 50) dX4_named_1 (by decide) (by decide) (by decide) (by decide) ?_
    refine zV_aload_nr dX4_named_50 rfl rfl ?_
    refine gf4_35 rfl rfl dX4_named_51 ?_
    exact zV_ireturn dX4_named_54 rfl (Nat.zero_le _) ⟨by subst hv1; rfl, rfl⟩
  · refine zV_teq (congrArg ziv hv1.symm) ?_
    refine zV_tableIn (off := 44) (tgt := 45) dX4_named_1 (by decide) (by decide) (by decide) (by decide) ?_
    refine zV_aload_nr dX4_named_45 rfl rfl ?_
    refine gf4_32 rfl rfl dX4_named_46 ?_
    exact zV_ireturn dX4_named_49 rfl (Nat.zero_le _) ⟨by subst hv1; rfl, rfl⟩
  · refine zV_teq (congrArg ziv hv1.symm) ?_
    refine zV_tableIn (off := 39) (tgt := 40) dX4_named_1 (by decide) (by decide) (by decide) (by decide) ?_
    refine zV_aload_nr dX4_named_40 rfl rfl ?_
    refine gf4_79 rfl (cup_0 hc) dX4_named_41 ?_
    exact zV_ireturn dX4_named_44 rfl (Nat.zero_le _) ⟨by subst hv1; rfl, rfl⟩
  · refine zV_tableOut (tgt := 67) dX4_named_1 (by rw [zn_of (by omega) (by omega)]; omega) (by decide) ?_
    refine zV_iload dX4_named_67 rfl ?_
    exact zV_ireturn dX4_named_69 rfl (Nat.zero_le _) ⟨by unfold envS; rw [if_neg (by omega), if_neg (by omega), if_neg (by omega), if_neg (by omega), if_neg (by omega), if_neg (by omega)], rfl⟩
set_option maxRecDepth 100000 in
theorem c4_joined {E : zE} {h : zH} {op x y : Int} (d k : Nat) (hop : -2147483648 ≤ op ∧ op ≤ 2147483647) (hx : -2147483648 ≤ x ∧ x ≤ 2147483647) (hy : -2147483648 ≤ y ∧ y ≤ 2147483647) : zCal E mX4_joined d k [ziv op, ziv x, ziv y] h (fun r h' => r = some (ziv (joinS op x y)) ∧ h' = h) (fun _ _ => False) := by
  refine zCal_of (by decide) (Nat.le_of_ble_eq_true rfl) (fun a => ?_)
  show zV _ 0 0 [ziv op, ziv x, ziv y] [] _
  refine zV_iload_n dX4_joined_0 rfl rfl ?_
  rcases (show op = -8 ∨ op = -7 ∨ op = -6 ∨ op = -5 ∨ op = -4 ∨ op = -3 ∨ op = -2 ∨ op = -1 ∨ (op < -8 ∨ -1 < op) by omega) with hv1 | hv1 | hv1 | hv1 | hv1 | hv1 | hv1 | hv1 | hv1
  · refine zV_teq (congrArg ziv hv1.symm) ?_
    refine zV_tableIn (off := 105) (tgt := 106) dX4_joined_1 (by decide) (by decide) (by decide) (by decide) ?_
    refine zV_iload_n dX4_joined_106 rfl rfl ?_
    refine zV_iload_n dX4_joined_107 rfl rfl ?_
    refine zV_imul dX4_joined_108 ?_
    exact zV_ireturn dX4_joined_109 rfl (Nat.zero_le _) ⟨by first | (subst hv1; simp [joinS, ziv_zn, *]; done) | (subst hv1; simp [joinS]; rw [if_neg (by omega)]; done) | (subst hv1; simp [joinS]; rw [if_pos (by omega)]; done) | (unfold joinS; simp [ziv_zn, show op ≠ -1 by omega, show op ≠ -2 by omega, show op ≠ -4 by omega, show op ≠ -5 by omega, show op ≠ -6 by omega, show op ≠ -7 by omega, show op ≠ -8 by omega, *]), rfl⟩
  · refine zV_teq (congrArg ziv hv1.symm) ?_
    refine zV_tableIn (off := 101) (tgt := 102) dX4_joined_1 (by decide) (by decide) (by decide) (by decide) ?_
    refine zV_iload_n dX4_joined_102 rfl rfl ?_
    refine zV_iload_n dX4_joined_103 rfl rfl ?_
    refine zV_isub dX4_joined_104 ?_
    exact zV_ireturn dX4_joined_105 rfl (Nat.zero_le _) ⟨by first | (subst hv1; simp [joinS, ziv_zn, *]; done) | (subst hv1; simp [joinS]; rw [if_neg (by omega)]; done) | (subst hv1; simp [joinS]; rw [if_pos (by omega)]; done) | (unfold joinS; simp [ziv_zn, show op ≠ -1 by omega, show op ≠ -2 by omega, show op ≠ -4 by omega, show op ≠ -5 by omega, show op ≠ -6 by omega, show op ≠ -7 by omega, show op ≠ -8 by omega, *]), rfl⟩
  · refine zV_teq (congrArg ziv hv1.symm) ?_
    refine zV_tableIn (off := 97) (tgt := 98) dX4_joined_1 (by decide) (by decide) (by decide) (by decide) ?_
    refine zV_iload_n dX4_joined_98 rfl rfl ?_
    refine zV_iload_n dX4_joined_99 rfl rfl ?_
    refine zV_iadd dX4_joined_100 ?_
    exact zV_ireturn dX4_joined_101 rfl (Nat.zero_le _) ⟨by first | (subst hv1; simp [joinS, ziv_zn, *]; done) | (subst hv1; simp [joinS]; rw [if_neg (by omega)]; done) | (subst hv1; simp [joinS]; rw [if_pos (by omega)]; done) | (unfold joinS; simp [ziv_zn, show op ≠ -1 by omega, show op ≠ -2 by omega, show op ≠ -4 by omega, show op ≠ -5 by omega, show op ≠ -6 by omega, show op ≠ -7 by omega, show op ≠ -8 by omega, *]), rfl⟩
  · refine zV_teq (congrArg ziv hv1.symm) ?_
    refine zV_tableIn (off := 86) (tgt := 87) dX4_joined_1 (by decide) (by decide) (by decide) (by decide) ?_
    refine zV_iload_n dX4_joined_87 rfl rfl ?_
    refine zV_iload_n dX4_joined_88 rfl rfl ?_
    refine zR_icmp_ne (tgt := 96) dX4_joined_89 (by decide) hx hy (fun h89 => ?_) (fun h89 => ?_)
    · refine zV_iconst dX4_joined_96 ?_
      exact zV_ireturn dX4_joined_97 rfl (Nat.zero_le _) ⟨by first | (subst hv1; simp [joinS, ziv_zn, *]; done) | (subst hv1; simp [joinS]; rw [if_neg (by omega)]; done) | (subst hv1; simp [joinS]; rw [if_pos (by omega)]; done) | (unfold joinS; simp [ziv_zn, show op ≠ -1 by omega, show op ≠ -2 by omega, show op ≠ -4 by omega, show op ≠ -5 by omega, show op ≠ -6 by omega, show op ≠ -7 by omega, show op ≠ -8 by omega, *]), rfl⟩
    · refine zV_iconst dX4_joined_92 ?_
      refine zV_goto (tgt := 97) dX4_joined_93 (by decide) ?_
      exact zV_ireturn dX4_joined_97 rfl (Nat.zero_le _) ⟨by first | (subst hv1; simp [joinS, ziv_zn, *]; done) | (subst hv1; simp [joinS]; rw [if_neg (by omega)]; done) | (subst hv1; simp [joinS]; rw [if_pos (by omega)]; done) | (unfold joinS; simp [ziv_zn, show op ≠ -1 by omega, show op ≠ -2 by omega, show op ≠ -4 by omega, show op ≠ -5 by omega, show op ≠ -6 by omega, show op ≠ -7 by omega, show op ≠ -8 by omega, *]), rfl⟩
  · refine zV_teq (congrArg ziv hv1.symm) ?_
    refine zV_tableIn (off := 75) (tgt := 76) dX4_joined_1 (by decide) (by decide) (by decide) (by decide) ?_
    refine zV_iload_n dX4_joined_76 rfl rfl ?_
    refine zV_iload_n dX4_joined_77 rfl rfl ?_
    refine zR_icmp_ge (tgt := 85) dX4_joined_78 (by decide) hx hy (fun h78 => ?_) (fun h78 => ?_)
    · refine zV_iconst dX4_joined_85 ?_
      exact zV_ireturn dX4_joined_86 rfl (Nat.zero_le _) ⟨by first | (subst hv1; simp [joinS, ziv_zn, *]; done) | (subst hv1; simp [joinS]; rw [if_neg (by omega)]; done) | (subst hv1; simp [joinS]; rw [if_pos (by omega)]; done) | (unfold joinS; simp [ziv_zn, show op ≠ -1 by omega, show op ≠ -2 by omega, show op ≠ -4 by omega, show op ≠ -5 by omega, show op ≠ -6 by omega, show op ≠ -7 by omega, show op ≠ -8 by omega, *]), rfl⟩
    · refine zV_iconst dX4_joined_81 ?_
      refine zV_goto (tgt := 86) dX4_joined_82 (by decide) ?_
      exact zV_ireturn dX4_joined_86 rfl (Nat.zero_le _) ⟨by first | (subst hv1; simp [joinS, ziv_zn, *]; done) | (subst hv1; simp [joinS]; rw [if_neg (by omega)]; done) | (subst hv1; simp [joinS]; rw [if_pos (by omega)]; done) | (unfold joinS; simp [ziv_zn, show op ≠ -1 by omega, show op ≠ -2 by omega, show op ≠ -4 by omega, show op ≠ -5 by omega, show op ≠ -6 by omega, show op ≠ -7 by omega, show op ≠ -8 by omega, *]), rfl⟩
  · refine zV_teq (congrArg ziv hv1.symm) ?_
    refine zV_tableIn (off := 109) (tgt := 110) dX4_joined_1 (by decide) (by decide) (by decide) (by decide) ?_
    refine zV_iload_n dX4_joined_110 rfl rfl ?_
    refine zR_if_ne (tgt := 118) dX4_joined_111 (by decide) hy (fun h111 => ?_) (fun h111 => ?_)
    · refine zV_iload_n dX4_joined_118 rfl rfl ?_
      refine zV_iload_n dX4_joined_119 rfl rfl ?_
      refine zV_idiv dX4_joined_120 (by rw [zn_of hy.1 hy.2]; exact h111) ?_
      exact zV_ireturn dX4_joined_121 rfl (Nat.zero_le _) ⟨by first | (subst hv1; simp [joinS, ziv_zn, *]; done) | (subst hv1; simp [joinS]; rw [if_neg (by omega)]; done) | (subst hv1; simp [joinS]; rw [if_pos (by omega)]; done) | (unfold joinS; simp [ziv_zn, show op ≠ -1 by omega, show op ≠ -2 by omega, show op ≠ -4 by omega, show op ≠ -5 by omega, show op ≠ -6 by omega, show op ≠ -7 by omega, show op ≠ -8 by omega, *]), rfl⟩
    · refine zV_iconst dX4_joined_114 ?_
      refine zV_goto (tgt := 121) dX4_joined_115 (by decide) ?_
      exact zV_ireturn dX4_joined_121 rfl (Nat.zero_le _) ⟨by first | (subst hv1; simp [joinS, ziv_zn, *]; done) | (subst hv1; simp [joinS]; rw [if_neg (by omega)]; done) | (subst hv1; simp [joinS]; rw [if_pos (by omega)]; done) | (unfold joinS; simp [ziv_zn, show op ≠ -1 by omega, show op ≠ -2 by omega, show op ≠ -4 by omega, show op ≠ -5 by omega, show op ≠ -6 by omega, show op ≠ -7 by omega, show op ≠ -8 by omega, *]), rfl⟩
  · refine zV_teq (congrArg ziv hv1.symm) ?_
    refine zV_tableIn (off := 61) (tgt := 62) dX4_joined_1 (by decide) (by decide) (by decide) (by decide) ?_
    refine zV_iload_n dX4_joined_62 rfl rfl ?_
    refine zR_if_eq (tgt := 74) dX4_joined_63 (by decide) hx (fun h63 => ?_) (fun h63 => ?_)
    · refine zV_iconst dX4_joined_74 ?_
      exact zV_ireturn dX4_joined_75 rfl (Nat.zero_le _) ⟨by first | (subst hv1; simp [joinS, ziv_zn, *]; done) | (subst hv1; simp [joinS]; rw [if_neg (by omega)]; done) | (subst hv1; simp [joinS]; rw [if_pos (by omega)]; done) | (unfold joinS; simp [ziv_zn, show op ≠ -1 by omega, show op ≠ -2 by omega, show op ≠ -4 by omega, show op ≠ -5 by omega, show op ≠ -6 by omega, show op ≠ -7 by omega, show op ≠ -8 by omega, *]), rfl⟩
    · refine zV_iload_n dX4_joined_66 rfl rfl ?_
      refine zR_if_eq (tgt := 74) dX4_joined_67 (by decide) hy (fun h67 => ?_) (fun h67 => ?_)
      · refine zV_iconst dX4_joined_74 ?_
        exact zV_ireturn dX4_joined_75 rfl (Nat.zero_le _) ⟨by first | (subst hv1; simp [joinS, ziv_zn, *]; done) | (subst hv1; simp [joinS]; rw [if_neg (by omega)]; done) | (subst hv1; simp [joinS]; rw [if_pos (by omega)]; done) | (unfold joinS; simp [ziv_zn, show op ≠ -1 by omega, show op ≠ -2 by omega, show op ≠ -4 by omega, show op ≠ -5 by omega, show op ≠ -6 by omega, show op ≠ -7 by omega, show op ≠ -8 by omega, *]), rfl⟩
      · refine zV_iconst dX4_joined_70 ?_
        refine zV_goto (tgt := 75) dX4_joined_71 (by decide) ?_
        exact zV_ireturn dX4_joined_75 rfl (Nat.zero_le _) ⟨by first | (subst hv1; simp [joinS, ziv_zn, *]; done) | (subst hv1; simp [joinS]; rw [if_neg (by omega)]; done) | (subst hv1; simp [joinS]; rw [if_pos (by omega)]; done) | (unfold joinS; simp [ziv_zn, show op ≠ -1 by omega, show op ≠ -2 by omega, show op ≠ -4 by omega, show op ≠ -5 by omega, show op ≠ -6 by omega, show op ≠ -7 by omega, show op ≠ -8 by omega, *]), rfl⟩
  · refine zV_teq (congrArg ziv hv1.symm) ?_
    refine zV_tableIn (off := 47) (tgt := 48) dX4_joined_1 (by decide) (by decide) (by decide) (by decide) ?_
    refine zV_iload_n dX4_joined_48 rfl rfl ?_
    refine zR_if_ne (tgt := 56) dX4_joined_49 (by decide) hx (fun h49 => ?_) (fun h49 => ?_)
    · refine zV_iconst dX4_joined_56 ?_
      refine zV_goto (tgt := 61) dX4_joined_57 (by decide) ?_
      exact zV_ireturn dX4_joined_61 rfl (Nat.zero_le _) ⟨by first | (subst hv1; simp [joinS, ziv_zn, *]; done) | (subst hv1; simp [joinS]; rw [if_neg (by omega)]; done) | (subst hv1; simp [joinS]; rw [if_pos (by omega)]; done) | (unfold joinS; simp [ziv_zn, show op ≠ -1 by omega, show op ≠ -2 by omega, show op ≠ -4 by omega, show op ≠ -5 by omega, show op ≠ -6 by omega, show op ≠ -7 by omega, show op ≠ -8 by omega, *]), rfl⟩
    · refine zV_iload_n dX4_joined_52 rfl rfl ?_
      refine zR_if_eq (tgt := 60) dX4_joined_53 (by decide) hy (fun h53 => ?_) (fun h53 => ?_)
      · refine zV_iconst dX4_joined_60 ?_
        exact zV_ireturn dX4_joined_61 rfl (Nat.zero_le _) ⟨by first | (subst hv1; simp [joinS, ziv_zn, *]; done) | (subst hv1; simp [joinS]; rw [if_neg (by omega)]; done) | (subst hv1; simp [joinS]; rw [if_pos (by omega)]; done) | (unfold joinS; simp [ziv_zn, show op ≠ -1 by omega, show op ≠ -2 by omega, show op ≠ -4 by omega, show op ≠ -5 by omega, show op ≠ -6 by omega, show op ≠ -7 by omega, show op ≠ -8 by omega, *]), rfl⟩
      · refine zV_iconst dX4_joined_56 ?_
        refine zV_goto (tgt := 61) dX4_joined_57 (by decide) ?_
        exact zV_ireturn dX4_joined_61 rfl (Nat.zero_le _) ⟨by first | (subst hv1; simp [joinS, ziv_zn, *]; done) | (subst hv1; simp [joinS]; rw [if_neg (by omega)]; done) | (subst hv1; simp [joinS]; rw [if_pos (by omega)]; done) | (unfold joinS; simp [ziv_zn, show op ≠ -1 by omega, show op ≠ -2 by omega, show op ≠ -4 by omega, show op ≠ -5 by omega, show op ≠ -6 by omega, show op ≠ -7 by omega, show op ≠ -8 by omega, *]), rfl⟩
  · refine zV_tableOut (tgt := 110) dX4_joined_1 (by rw [zn_of (by omega) (by omega)]; omega) (by decide) ?_
    refine zV_iload_n dX4_joined_110 rfl rfl ?_
    refine zR_if_ne (tgt := 118) dX4_joined_111 (by decide) hy (fun h111 => ?_) (fun h111 => ?_)
    · refine zV_iload_n dX4_joined_118 rfl rfl ?_
      refine zV_iload_n dX4_joined_119 rfl rfl ?_
      refine zV_idiv dX4_joined_120 (by rw [zn_of hy.1 hy.2]; exact h111) ?_
      exact zV_ireturn dX4_joined_121 rfl (Nat.zero_le _) ⟨by first | (subst hv1; simp [joinS, ziv_zn, *]; done) | (subst hv1; simp [joinS]; rw [if_neg (by omega)]; done) | (subst hv1; simp [joinS]; rw [if_pos (by omega)]; done) | (unfold joinS; simp [ziv_zn, show op ≠ -1 by omega, show op ≠ -2 by omega, show op ≠ -4 by omega, show op ≠ -5 by omega, show op ≠ -6 by omega, show op ≠ -7 by omega, show op ≠ -8 by omega, *]), rfl⟩
    · refine zV_iconst dX4_joined_114 ?_
      refine zV_goto (tgt := 121) dX4_joined_115 (by decide) ?_
      exact zV_ireturn dX4_joined_121 rfl (Nat.zero_le _) ⟨by first | (subst hv1; simp [joinS, ziv_zn, *]; done) | (subst hv1; simp [joinS]; rw [if_neg (by omega)]; done) | (subst hv1; simp [joinS]; rw [if_pos (by omega)]; done) | (unfold joinS; simp [ziv_zn, show op ≠ -1 by omega, show op ≠ -2 by omega, show op ≠ -4 by omega, show op ≠ -5 by omega, show op ≠ -6 by omega, show op ≠ -7 by omega, show op ≠ -8 by omega, *]), rfl⟩
