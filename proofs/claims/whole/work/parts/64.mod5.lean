/-! THE REFERENCE: a case -/
def t01 (v : Int) : Int := if v = 0 then 0 else 1
/-- what stays while cases go by, as the reference has it -/
def gM (h : zH) : zG := (h 81, h 82, h 78, h 64 33, h 70, h 71, t01 (h 68 3), ruM h 0, t01 (h 68 4), ruM h 1)
def wantM (h : zH) (n s : Nat) : Int := if t01 (h 68 3) = 0 then h 78 (h 81 s).toNat else ruM h 0 (envL (h 80) n (h 64 37) (h 64 32) (h 78 (h 81 s).toNat) s)
def sipM (h : zH) (n s : Nat) : Int := max 0 (min (wantM h n s) (h 64 37))
theorem ev_r {env : Int → Int} {l : List Int} {dr b : Bool} (hg : ∀ k, k + 31 ≤ 64 → hgL l k = some (k + 1)) (hx : ∀ x ∈ l, tkB dr b x) (he : ∀ v, -2147483648 ≤ env v ∧ env v ≤ 2147483647) : -2147483648 ≤ (evN env (fun i => l.getD i 0) 0 l.length).headD 0 ∧ (evN env (fun i => l.getD i 0) 0 l.length).headD 0 ≤ 2147483647 :=
  evN_r he (wf_of (tk := fun i => l.getD i 0) (fr := 0) (l := l) (fun i _ => by rw [Nat.zero_add]) hg hx env)
/-- the value that the reference finds is its rule's -/
theorem ruM_of {h : zH} {ru : Nat} {l : List Int} {b : Bool} {e1 e2 : Int → Int} (hl : h 68 (3 + ru) = (l.length : Int)) (hx : ∀ x ∈ l, tkB (decide (ru = 0)) b x) (hs : ∀ i, i < l.length → h (75 + ru) i = enc (l.getD i 0)) (he : ∀ x ∈ l, x < -9 → e1 x = e2 x) : (evN e1 (fun i => l.getD i 0) 0 l.length).headD 0 = ruM h ru e2 := by
  unfold ruM
  rw [hl, Int.toNat_natCast]
  have hm : ∀ i, i < l.length → l.getD i 0 ∈ l := fun i hi => by rw [List.getD_eq_getElem?_getD, List.getElem?_eq_getElem hi]; exact List.getElem_mem hi
  rw [evN_congr (e1 := e1) (e2 := e2) l.length (fun i hi hz => he _ (hm (0 + i) (by omega)) hz)]
  rw [evN_sh (tk := fun i => l.getD i 0) (t2 := fun i => dec (h (75 + ru) i)) (f1 := 0) (f2 := 0) l.length (fun i hi => by
    show l.getD (0 + i) 0 = dec (h (75 + ru) (0 + i))
    rw [Nat.zero_add, hs i hi, dec_enc (hx _ (hm i hi)).1])]
theorem askE_L {f p : Nat → Int} {n : Nat} {lev ca th se : Int} (h0 : f 0 = lev) (h1 : f 1 = mostS p n) (h2 : f 2 = whereS p n) (h3 : f 3 = oddS p n) (h4 : f 4 = ca) (h5 : f 5 = th) (h6 : f 6 = se) {x : Int} (hx : -16 ≤ x ∧ x < -9) : askE f x = envL p n lev ca th se x := by
  unfold askE envL envS
  rcases (show x = -10 ∨ x = -11 ∨ x = -12 ∨ x = -13 ∨ x = -14 ∨ x = -15 ∨ x = -16 by omega) with rfl | rfl | rfl | rfl | rfl | rfl | rfl
  · exact h0
  · exact h1
  · exact h2
  · exact h3
  · exact h4
  · exact h5
  · exact h6
theorem askE_R {f p : Nat → Int} {n : Nat} {lev ca th se : Int} (h0 : f 0 = lev) (h1 : f 1 = mostS p n) (h2 : f 2 = whereS p n) (h3 : f 3 = oddS p n) (h4 : f 4 = ca) {x : Int} (hx : -15 < x ∧ x < -9) : askE f x = envL p n lev ca th se x := by
  unfold askE envL envS
  rcases (show x = -10 ∨ x = -11 ∨ x = -12 ∨ x = -13 ∨ x = -14 by omega) with rfl | rfl | rfl | rfl | rfl
  · exact h0
  · exact h1
  · exact h2
  · exact h3
  · exact h4
theorem ruM_r {h : zH} {ru : Nat} (hr : mRu h ru) (h0 : h 68 (3 + ru) ≠ 0) {env : Int → Int} (he : ∀ v, -2147483648 ≤ env v ∧ env v ≤ 2147483647) : -2147483648 ≤ ruM h ru env ∧ ruM h ru env ≤ 2147483647 := by
  rcases hr with z | ⟨l, b, -, -, hl, hg, hx, hs⟩
  · exact absurd z h0
  · rw [← ruM_of (e1 := env) (e2 := env) hl hx hs (fun _ _ _ => rfl)]
    exact ev_r hg hx he
def fr1 (h h' : zH) : Prop := (∀ c2 : Nat, c2 ≠ 64 → c2 ≠ 84 → c2 ≠ 85 → c2 ≠ 86 → h' c2 = h c2) ∧ ∀ j, j ≠ 37 → h' 64 j = h 64 j

theorem push_b {x y : Int} (hx : 0 ≤ x ∧ x ≤ 12) (hy : 0 ≤ y ∧ y ≤ 99) : -54 ≤ (x - 6) * (y / 10) ∧ (x - 6) * (y / 10) ≤ 54 := by
  have h1 : 0 ≤ y / 10 ∧ y / 10 ≤ 9 := by omega
  generalize y / 10 = z at h1
  rcases (show z = 0 ∨ z = 1 ∨ z = 2 ∨ z = 3 ∨ z = 4 ∨ z = 5 ∨ z = 6 ∨ z = 7 ∨ z = 8 ∨ z = 9 by omega) with rfl | rfl | rfl | rfl | rfl | rfl | rfl | rfl | rfl | rfl <;> omega
theorem tdiv_b {x y : Int} (hx : -54 ≤ x ∧ x ≤ 54) (hy : 1 ≤ y ∧ y ≤ 9) : -54 ≤ x.tdiv y ∧ x.tdiv y ≤ 54 := by
  have h1 : (x.tdiv y).natAbs ≤ x.natAbs := by rw [Int.natAbs_tdiv]; exact Nat.div_le_self _ _
  omega

theorem and_msk : ∀ s : Nat, s < 8 → ∀ x : Nat, x < 256 → (zand (x : Int) (zshl 1 (s : Int) - 1) = 0 ↔ x % 2 ^ s = 0) := by decide +kernel
theorem ptN_mod (f : Nat → Int) (w : Int) (s : Nat) : ∀ k, ptN f w (s + k) % 2 ^ s = ptN f w s := by
  intro k
  induction k with
  | zero => exact Nat.mod_eq_of_lt (ptN_lo f w s)
  | succ k ih =>
    show ptN f w (s + k + 1) % 2 ^ s = _
    rw [ptN_s]
    split
    · rw [Nat.pow_add, Nat.add_mul_mod_self_left]; exact ih
    · exact ih
theorem ptN_hit (f : Nat → Int) (w : Int) : ∀ s, ptN f w s = 0 ↔ hitB f w s = false := by
  intro s
  induction s with
  | zero => exact ⟨fun _ => rfl, fun _ => rfl⟩
  | succ s ih =>
    rw [ptN_s, hitB_s]
    have h2 : 0 < 2 ^ s := Nat.pow_pos (by decide)
    split
    · rename_i e
      rw [decide_eq_true e]
      simp
    · rename_i e
      rw [decide_eq_false e, Bool.or_false]; exact ih
theorem pt_hit (f : Nat → Int) (w : Int) {s n : Nat} (hs : s < n) (hn : n ≤ 8) : zand (ptN f w n : Int) (zshl 1 (s : Int) - 1) = 0 ↔ hitB f w s = false := by
  rw [and_msk s (by omega) _ (ptN_256 f w hn), ← ptN_hit]
  have := ptN_mod f w s (n - s)
  rw [show s + (n - s) = n by omega] at this
  rw [this]
theorem stirP_0 (p w : Nat → Int) (u : Int) : stirP p w u 0 = p := by funext l; unfold stirP; rw [if_neg (Nat.not_lt_zero l)]
theorem stirP_st (p w : Nat → Int) (u : Int) (l : Nat) : stirP p w u (l + 1) = fun j => if j = l then stirS (p l) u (w l) else stirP p w u l j := by
  funext j
  unfold stirP
  by_cases e : j = l
  · subst e; rw [if_pos (by omega), if_pos rfl]
  · rw [if_neg e]
    by_cases e2 : j < l
    · rw [if_pos e2, if_pos (by omega)]
    · rw [if_neg e2, if_neg (by omega)]
def mFr (h h1 : zH) : Prop := (∀ c2 : Nat, c2 ≠ 64 → c2 ≠ 80 → c2 ≠ 84 → c2 ≠ 85 → c2 ≠ 86 → h1 c2 = h c2) ∧ ∀ j, j ≠ 32 → j ≠ 34 → j ≠ 37 → h1 64 j = h 64 j
def injM (f : Nat → Int) (jn : Nat) : Prop := ∀ a b, a < jn → b < jn → f a = f b → a = b
def XM (h : zH) (n jn s : Nat) : (Nat → Int) × Int × (Nat → Int) := seatsG n jn (gM h) (h 64 32) (h 80, h 64 33, fun _ => 0) s
theorem XM_s (h : zH) (n jn s : Nat) : XM h n jn (s + 1) = seatStep n jn (h 81) (h 82) (h 78) (h 70) (h 71) (t01 (h 68 3)) (ruM h 0) (h 64 32) s (XM h n jn s) := rfl
theorem XM_lo {h : zH} {n jn : Nat} (hdy : mDy h n jn) : ∀ s, (∀ l, l < n → 0 ≤ (XM h n jn s).1 l ∧ (XM h n jn s).1 l < 12) ∧ 0 ≤ (XM h n jn s).2.1 ∧ (XM h n jn s).2.1 ≤ 99 := by
  intro s
  induction s with
  | zero => exact ⟨hdy.1, hdy.2.2.2.2.1⟩
  | succ s ih => rw [XM_s]; exact seatStep_lo ih.2
def wX (h : zH) (n jn s j : Nat) : Int := if t01 (h 68 3) = 0 then h 78 j else ruM h 0 (envL (XM h n jn s).1 n (XM h n jn s).2.1 (h 64 32) (h 78 j) s)
theorem XM_s2 {h : zH} {n jn s j : Nat} (hjj : h 81 s = (j : Int)) : (XM h n jn (s + 1)).2.1 = (XM h n jn s).2.1 - (if s + 1 = jn then 0 else max 0 (min (wX h n jn s j) (XM h n jn s).2.1)) := by
  rw [XM_s]; unfold seatStep; dsimp only; rw [hjj]; rfl
theorem XM_s3 {h : zH} {n jn s j : Nat} (hjj : h 81 s = (j : Int)) (i : Nat) : (XM h n jn (s + 1)).2.2 i = if i = j then (if s + 1 = jn then 0 else max 0 (min (wX h n jn s j) (XM h n jn s).2.1)) else (XM h n jn s).2.2 i := by
  rw [XM_s]; unfold seatStep; dsimp only; rw [hjj]; rfl
theorem XM_s1 {h : zH} {n jn s j : Nat} (hjj : h 81 s = (j : Int)) : (XM h n jn (s + 1)).1 = if h 71 j = 0 then stirP (XM h n jn s).1 (h 70) (pushS (h 82 j) (XM h n jn (s + 1)).2.1) n else blowP (stirP (XM h n jn s).1 (h 70) (pushS (h 82 j) (XM h n jn (s + 1)).2.1) n) n := by
  rw [XM_s2 hjj, XM_s]; unfold seatStep; dsimp only; rw [hjj]; rfl
theorem XM_sip {h : zH} {n jn s j : Nat} (hin : injM (h 81) jn) (hs : s < jn) (hjj : h 81 s = (j : Int)) (hb : ∀ s, s < jn → 0 ≤ h 81 s) : (XM h n jn s).2.2 j = 0 := by
  have : ∀ m, m ≤ s → (XM h n jn m).2.2 j = 0 := by
    intro m
    induction m with
    | zero => intro _; rfl
    | succ m ih =>
      intro hm
      have h0 := hb m (by omega)
      obtain ⟨j2, hj2⟩ : ∃ j2 : Nat, h 81 m = (j2 : Int) := ⟨(h 81 m).toNat, by omega⟩
      rw [XM_s3 hj2]
      split
      · rename_i e
        have := hin m s (by omega) hs (by rw [hj2, hjj, e])
        omega
      · exact ih (by omega)
  exact this s (Nat.le_refl _)
theorem ruM_congr {h h1 : zH} {ru : Nat} (e1 : h1 68 = h 68) (e2 : h1 (75 + ru) = h (75 + ru)) : ruM h1 ru = ruM h ru := by
  funext env; unfold ruM; rw [e1, e2]
theorem mRu_congr {h h1 : zH} {ru : Nat} (e1 : h1 68 = h 68) (e2 : h1 (75 + ru) = h (75 + ru)) (hr : mRu h ru) : mRu h1 ru := by
  unfold mRu; rw [e1, e2]; exact hr
theorem mCt_congr {h h1 : zH} {n jn : Nat} (e68 : h1 68 = h 68) (e70 : h1 70 = h 70) (e71 : h1 71 = h 71) (e74 : h1 74 = h 74) (e75 : h1 75 = h 75) (e76 : h1 76 = h 76) (hct : mCt h n jn) : mCt h1 n jn := by
  obtain ⟨a1, a2, a3, a4, a5, a6⟩ := hct
  exact ⟨by rw [e68]; exact a1, by rw [e70]; exact a2, by rw [e71]; exact a3, by rw [e74]; exact a4, mRu_congr e68 e75 a5, mRu_congr e68 e76 a6⟩
theorem mFr_ct {h h1 : zH} {n jn : Nat} (hct : mCt h n jn) (f : mFr h h1) : mCt h1 n jn ∧ gM h1 = gM h := by
  have e : ∀ c2 : Nat, c2 ≠ 64 → c2 ≠ 80 → c2 ≠ 84 → c2 ≠ 85 → c2 ≠ 86 → h1 c2 = h c2 := f.1
  have e68 := e 68 (by decide) (by decide) (by decide) (by decide) (by decide)
  have e70 := e 70 (by decide) (by decide) (by decide) (by decide) (by decide)
  have e71 := e 71 (by decide) (by decide) (by decide) (by decide) (by decide)
  have e75 := e 75 (by decide) (by decide) (by decide) (by decide) (by decide)
  have e76 := e 76 (by decide) (by decide) (by decide) (by decide) (by decide)
  refine ⟨mCt_congr e68 e70 e71 (e 74 (by decide) (by decide) (by decide) (by decide) (by decide)) e75 e76 hct, ?_⟩
  unfold gM
  rw [e 81 (by decide) (by decide) (by decide) (by decide) (by decide), e 82 (by decide) (by decide) (by decide) (by decide) (by decide), e 78 (by decide) (by decide) (by decide) (by decide) (by decide), f.2 33 (by decide) (by decide) (by decide), e70, e71, ruM_congr (ru := 0) e68 e75, ruM_congr (ru := 1) e68 e76, e68]
theorem mFr_dy {h h1 : zH} {n jn : Nat} (hdy : mDy h n jn) (f : mFr h h1) (hp : ∀ l, l < n → 0 ≤ h1 80 l ∧ h1 80 l < 12) (hc : 0 ≤ h1 64 32 ∧ h1 64 32 ≤ 100000) : mDy h1 n jn := by
  obtain ⟨a1, a2, a3, a4, a5, a6⟩ := hdy
  have e : ∀ c2 : Nat, c2 ≠ 64 → c2 ≠ 80 → c2 ≠ 84 → c2 ≠ 85 → c2 ≠ 86 → h1 c2 = h c2 := f.1
  exact ⟨hp, by rw [e 78 (by decide) (by decide) (by decide) (by decide) (by decide)]; exact a2, by rw [e 82 (by decide) (by decide) (by decide) (by decide) (by decide)]; exact a3, by rw [e 81 (by decide) (by decide) (by decide) (by decide) (by decide)]; exact a4, by rw [f.2 33 (by decide) (by decide) (by decide)]; exact a5, hc⟩
theorem mFr_fr1 {h h1 h3 : zH} (f : mFr h h1) (g : fr1 h1 h3) : mFr h h3 := ⟨fun c2 a b c d e => (g.1 c2 a c d e).trans (f.1 c2 a b c d e), fun j a b c => (g.2 j c).trans (f.2 j a b c)⟩
def mcS (h : zH) (n jn s : Nat) (h1 : zH) : Prop := mFr h h1 ∧ h1 64 32 = h 64 32 ∧ h1 80 = (XM h n jn s).1 ∧ h1 64 37 = (XM h n jn s).2.1 ∧ (injM (h 81) jn → agn 8 (h1 86) (XM h n jn s).2.2)
theorem mcS_0 {h h1 : zH} {n jn : Nat} (f1 : ∀ c2 : Nat, c2 ≠ 86 → h1 c2 = zup h 64 37 (h 64 33) c2) (z1 : ∀ i, i < 8 → h1 86 i = 0) : mcS h n jn 0 h1 :=
  ⟨⟨fun c2 a b c d e => by rw [f1 c2 e, zup_fn a], fun j a b c => by rw [f1 64 (by decide), zup_at, if_neg c]⟩, by rw [f1 64 (by decide), zup_at, if_neg (by decide)], by rw [f1 80 (by decide), zup_fn (by decide)]; rfl, by rw [f1 64 (by decide), zup_at, if_pos rfl]; rfl, fun _ i hi => z1 i hi⟩
theorem mcS_st {h h2 : zH} {n jn s : Nat} {P : Nat → Int} (f9 : mFr h h2) (c9 : h2 64 32 = h 64 32) (l9 : h2 64 37 = (XM h n jn (s + 1)).2.1) (d9 : injM (h 81) jn → agn 8 (h2 86) (XM h n jn (s + 1)).2.2) (hP : P = (XM h n jn (s + 1)).1) : mcS h n jn (s + 1) (zst h2 80 P) :=
  ⟨⟨fun c2 a b c d e => by rw [zst_ne b]; exact f9.1 c2 a b c d e, fun j a b c => by rw [zst_ne (by decide)]; exact f9.2 j a b c⟩, by rw [zst_ne (by decide)]; exact c9, by rw [zst_same]; exact hP, by rw [zst_ne (by decide)]; exact l9, fun hi => by rw [zst_ne (by decide)]; exact d9 hi⟩
theorem sip_XM {h h1 : zH} {n jn s j : Nat} (hjj : h 81 s = (j : Int)) (f1 : mFr h h1) (q1 : h1 64 32 = h 64 32) (q2 : h1 80 = (XM h n jn s).1) (q3 : h1 64 37 = (XM h n jn s).2.1) (gm : gM h1 = gM h) : sipM h1 n s = max 0 (min (wX h n jn s j) (XM h n jn s).2.1) := by
  have e : ∀ c2 : Nat, c2 ≠ 64 → c2 ≠ 80 → c2 ≠ 84 → c2 ≠ 85 → c2 ≠ 86 → h1 c2 = h c2 := f1.1
  unfold sipM wantM wX
  have er : ruM h1 0 = ruM h 0 := congrArg (fun g : zG => g.2.2.2.2.2.2.2.1) gm
  rw [er, e 68 (by decide) (by decide) (by decide) (by decide) (by decide), e 78 (by decide) (by decide) (by decide) (by decide) (by decide), e 81 (by decide) (by decide) (by decide) (by decide) (by decide), hjj, q1, q2, q3, Int.toNat_natCast]
/-- behind a case, as the reference has it -/
def mcase (h : zH) (n jn : Nat) (h' : zH) : Prop := mFr h h' ∧ h' 80 = (XM h n jn jn).1 ∧ h' 64 37 = (XM h n jn jn).2.1 ∧ (injM (h 81) jn → agn 8 (h' 86) (XM h n jn jn).2.2) ∧ h' 64 34 = verdS (XM h n jn jn).1 n (XM h n jn jn).2.1 (h 64 32) (t01 (h 68 4)) (ruM h 1) ∧ h' 64 32 = h 64 32 + 1
theorem mcase_fin {h h1 h3 : zH} {n jn : Nat} {w : Int} (hI : mcS h n jn jn h1) (f9 : ∀ c2 : Nat, c2 ≠ 84 → c2 ≠ 85 → h3 c2 = h1 c2) (hww : w % 5 = verdS (XM h n jn jn).1 n (XM h n jn jn).2.1 (h 64 32) (t01 (h 68 4)) (ruM h 1)) : mcase h n jn (zup (zup h3 64 34 (w % 5)) 64 32 ((zup h3 64 34 (w % 5)) 64 32 + 1)) := by
  obtain ⟨f1, q1, q2, q3, q4⟩ := hI
  have e64 : h3 64 = h1 64 := f9 64 (by decide) (by decide)
  refine ⟨⟨fun c2 a b c d e => by rw [zup_fn a, zup_fn a, f9 c2 c d]; exact f1.1 c2 a b c d e, fun j a b c => by rw [zup_at, if_neg a, zup_at, if_neg b, e64]; exact f1.2 j a b c⟩, by rw [zup_fn (by decide), zup_fn (by decide), f9 80 (by decide) (by decide)]; exact q2, by rw [zup_at, if_neg (by decide), zup_at, if_neg (by decide), e64]; exact q3, fun hi => by rw [zup_fn (by decide), zup_fn (by decide), f9 86 (by decide) (by decide)]; exact q4 hi, ?_, ?_⟩
  · rw [zup_at, if_neg (by decide), zup_at, if_pos rfl]; exact hww
  · rw [zup_at, if_pos rfl, zup_at, if_neg (by decide), e64, q1]

set_option maxRecDepth 100000 in
theorem c6_drink {E : zE} {h : zH} {n jn s : Nat} (d k : Nat) (hd : 6 ≤ d) (hct : mCt h n jn) (hdy : mDy h n jn) (hs : s < jn) (hlv : 0 ≤ h 64 37 ∧ h 64 37 ≤ 99) : zCal E mX6_drink d k [zrv E 64, ziv (s : Int)] h (fun r h' => r = none ∧ fr1 h h' ∧ h' 64 37 = h 64 37 - sipM h n s ∧ ∀ i, h' 86 i = if i = (h 81 s).toNat then sipM h n s else h 86 i) (fun _ _ => False) := by
  refine zCal_of (by decide) (Nat.le_of_ble_eq_true rfl) (fun a => ?_)
  show zV _ 0 0 [zrv E 64, ziv (s : Int), .null, .null] [] _
  obtain ⟨⟨hn, hjn, t0, t1⟩, hw, hbl, hwi, hr0, hr1⟩ := hct
  obtain ⟨dl, dt, dh, ds, dp, dc⟩ := hdy
  have hj := ds s hs
  obtain ⟨j, hjj⟩ : ∃ j : Nat, h 81 s = (j : Int) := ⟨(h 81 s).toNat, by omega⟩
  have hj2 : j < jn := by omega
  have ht := dt j hj2
  have ej : (h 81 s).toNat = j := by omega
  refine zV_aload_nr dX6_drink_0 rfl rfl ?_
  refine gf6_85 rfl (rfl) dX6_drink_1 ?_
  refine zV_teq (w := zrv E 81) rfl ?_
  refine zV_iload_n dX6_drink_4 rfl rfl ?_
  refine zV_ialoadN (i := s) (N := 8) (rfl) (by omega) (by decide) dX6_drink_5 ?_
  refine zV_teq (w := ziv (j : Int)) (congrArg ziv hjj.symm) ?_
  refine zV_istore_n dX6_drink_6 rfl (Nat.le_of_ble_eq_true rfl) rfl ?_
  refine zV_aload_nr dX6_drink_7 rfl rfl ?_
  refine gf6_73 rfl (rfl) dX6_drink_8 ?_
  refine zV_teq (w := zrv E 78) rfl ?_
  refine zV_iload_n dX6_drink_11 rfl rfl ?_
  refine zV_ialoadN (i := j) (N := 8) (rfl) (by omega) (by decide) dX6_drink_12 ?_
  refine zV_istore_n dX6_drink_13 rfl (Nat.le_of_ble_eq_true rfl) rfl ?_
  refine zV_aload_nr dX6_drink_14 rfl rfl ?_
  refine gf6_42 rfl (rfl) dX6_drink_15 ?_
  refine zV_teq (w := zrv E 68) rfl ?_
  refine zV_iconst dX6_drink_18 ?_
  refine zV_ialoadN (i := 3) (N := 10) (rfl) (by decide) (by decide) dX6_drink_19 ?_
  have J62 : ∀ (w : Int) (h1 : zH), (∀ c2 : Nat, c2 ≠ 84 → c2 ≠ 85 → h1 c2 = h c2) → (-2147483648 ≤ w ∧ w ≤ 2147483647) → (w = wantM h n s) → zV (E, mX6_drink, d, k, (fun r h' => r = none ∧ fr1 h h' ∧ h' 64 37 = h 64 37 - sipM h n s ∧ ∀ i, h' 86 i = if i = (h 81 s).toNat then sipM h n s else h 86 i), (fun _ _ => False), a) 0 62 [zrv E 64, ziv (s : Int), ziv (j : Int), ziv w] [] h1 := by
    intro w h1 f9 hwr hww
    have e64 : h1 64 = h 64 := f9 64 (by decide) (by decide)
    have e86 : h1 86 = h 86 := f9 86 (by decide) (by decide)
    have esip : sipM h n s = max 0 (min (h 64 37) w) := by unfold sipM; rw [← hww]; omega
    refine zV_aload_nr dX6_drink_62 rfl rfl ?_
    refine gf6_100 rfl (rfl) dX6_drink_63 ?_
    refine zV_teq (w := zrv E 86) rfl ?_
    refine zV_iload_n dX6_drink_66 rfl rfl ?_
    refine zV_iconst dX6_drink_67 ?_
    refine zV_aload_nr dX6_drink_68 rfl rfl ?_
    refine gf6_338 rfl rfl dX6_drink_69 ?_
    refine zV_iload_n dX6_drink_72 rfl rfl ?_
    rw [e64]
    refine zV_callS (As := [ziv (h 64 37), ziv w]) lk6_198 (cJ_min (d - 1) 0 (by omega) hwr) ⟨by show _ + 1 ≤ d; omega, by show _ ≤ k; omega⟩ rfl (Nat.le_of_ble_eq_true rfl) dX6_drink_73 (fun _ _ z => z.elim) (fun r h9 q => ?_)
    obtain ⟨rfl, hh⟩ := q
    rw [hh]
    clear hh
    refine zV_callS (As := [ziv 0, ziv (min (h 64 37) w)]) lk6_354 (cJ_max (d - 1) 0 (by omega) (by omega)) ⟨by show _ + 1 ≤ d; omega, by show _ ≤ k; omega⟩ rfl (Nat.le_of_ble_eq_true rfl) dX6_drink_76 (fun _ _ z => z.elim) (fun r h9 q => ?_)
    obtain ⟨rfl, hh⟩ := q
    rw [hh]
    clear hh
    refine zV_teq (w := ziv (sipM h n s)) (congrArg ziv esip) ?_
    refine zV_iastoreN (i := j) (N := 8) (rfl) (by omega) (by decide) dX6_drink_79 ?_
    refine zV_aload_nr dX6_drink_80 rfl rfl ?_
    refine zV_dup dX6_drink_81 rfl ?_
    refine gf6_338 rfl rfl dX6_drink_82 ?_
    refine zV_aload_nr dX6_drink_85 rfl rfl ?_
    refine gf6_100 rfl (rfl) dX6_drink_86 ?_
    refine zV_teq (w := zrv E 86) rfl ?_
    refine zV_iload_n dX6_drink_89 rfl rfl ?_
    refine zV_ialoadN (i := j) (N := 8) (rfl) (by omega) (by decide) dX6_drink_90 ?_
    refine zV_isub dX6_drink_91 ?_
    refine zV_teq (w := ziv (h 64 37 - sipM h n s)) (congrArg ziv (by rw [zup_at, if_pos rfl, esip, zup_fn (by decide), e64])) ?_
    refine pf6_338 rfl (rfl) dX6_drink_92 ?_
    exact zV_vreturn dX6_drink_95 rfl (Nat.zero_le _) ⟨rfl, ⟨fun c2 a b c d => by rw [zup_fn a, zup_fn d]; exact f9 c2 b c, fun j hj => by rw [zup_at, if_neg hj, zup_fn (by decide), e64]⟩, by rw [zup_at, if_pos rfl], fun i => by rw [zup_fn (by decide), zup_at, e86, ej]⟩
  have h7 : h 68 3 = 0 ∨ (0 ≤ h 68 3 ∧ h 68 3 ≤ 700) := by
    rcases hr0 with z | ⟨l, b, -, hl, z, -⟩
    · exact Or.inl z
    · right; rw [show h 68 3 = (l.length : Int) from z]; omega
  refine zR_if_le (tgt := 62) dX6_drink_20 (by decide) (by omega) (fun h20 => ?_) (fun h20 => ?_)
  · have z20 : h 68 3 = 0 := by omega
    exact J62 (h 78 j) h (fun _ _ _ => rfl) (by omega) (by unfold wantM t01; rw [if_pos (by rw [if_pos z20]), ej])
  · have z20 : ¬ h 68 3 = 0 := by omega
    obtain ⟨l, b, hne, hl7, hlen, hg, hx, hsg2⟩ : ∃ (l : List Int) (b : Bool), l ≠ [] ∧ l.length ≤ 700 ∧ h 68 3 = (l.length : Int) ∧ (∀ k, k + 31 ≤ 64 → hgL l k = some (k + 1)) ∧ (∀ x ∈ l, tkB true b x) ∧ ∀ i, i < l.length → h 75 i = enc (l.getD i 0) := by
      rcases hr0 with z | z
      · exact absurd z z20
      · exact z
    refine zV_aload_nr dX6_drink_23 rfl rfl ?_
    refine zV_callV (As := []) lk6_347 (rfl) rfl rfl (c6_ask (n := n) (d - 1) 0 (by omega) t0 hn dl) ⟨by show _ + 1 ≤ d; omega, by show _ ≤ k; omega⟩ rfl (Nat.le_of_ble_eq_true rfl) dX6_drink_24 (fun _ _ z => z.elim) (fun r h1 q => ?_)
    obtain ⟨rfl, f1, ⟨a0, a1, a2, a3, a4⟩, a5⟩ := q
    refine zV_aload_nr dX6_drink_27 rfl rfl ?_
    refine gf6_94 rfl (rfl) dX6_drink_28 ?_
    refine zV_teq (w := zrv E 84) rfl ?_
    refine zV_iconst dX6_drink_31 ?_
    refine zV_aload_nr dX6_drink_32 rfl rfl ?_
    refine gf6_73 rfl (rfl) dX6_drink_33 ?_
    refine zV_teq (w := zrv E 78) rfl ?_
    refine zV_iload_n dX6_drink_36 rfl rfl ?_
    refine zV_ialoadN (i := j) (N := 8) (rfl) (by omega) (by decide) dX6_drink_37 ?_
    refine zV_iastoreN (i := 5) (N := 7) (rfl) (by decide) (by decide) dX6_drink_38 ?_
    refine zV_aload_nr dX6_drink_39 rfl rfl ?_
    refine gf6_94 rfl (rfl) dX6_drink_40 ?_
    refine zV_teq (w := zrv E 84) rfl ?_
    refine zV_bipush dX6_drink_43 (by decide) ?_
    refine zV_iload_n dX6_drink_45 rfl rfl ?_
    refine zV_iastoreN (i := 6) (N := 7) (rfl) (by decide) (by decide) dX6_drink_46 ?_
    have e78 : h1 78 j = h 78 j := by rw [f1 78 (by decide)]
    have hen : ∀ j2, j2 < 7 → (true = false → j2 < 5) → -2147483648 ≤ (zup (zup h1 84 5 (h1 78 j)) 84 6 (s : Int)) 84 j2 ∧ (zup (zup h1 84 5 (h1 78 j)) 84 6 (s : Int)) 84 j2 ≤ 2147483647 := by
      have sv := surv_r (h 80) hn
      intro j2 hj3 _
      rcases (show j2 = 0 ∨ j2 = 1 ∨ j2 = 2 ∨ j2 = 3 ∨ j2 = 4 ∨ j2 = 5 ∨ j2 = 6 by omega) with rfl | rfl | rfl | rfl | rfl | rfl | rfl
      · show _ ≤ h1 84 0 ∧ h1 84 0 ≤ _; omega
      · show _ ≤ h1 84 1 ∧ h1 84 1 ≤ _; omega
      · show _ ≤ h1 84 2 ∧ h1 84 2 ≤ _; omega
      · show _ ≤ h1 84 3 ∧ h1 84 3 ≤ _; omega
      · show _ ≤ h1 84 4 ∧ h1 84 4 ≤ _; omega
      · show _ ≤ h1 78 j ∧ h1 78 j ≤ _; omega
      · show _ ≤ (s : Int) ∧ (s : Int) ≤ _; omega
    have hsg : ∀ i, i < l.length → (zup (zup h1 84 5 (h1 78 j)) 84 6 (s : Int)) 75 i = enc (l.getD i 0) := fun i hi => by
      show h1 75 i = _
      rw [f1 75 (by decide)]; exact hsg2 i hi
    refine zV_aload_nr dX6_drink_47 rfl rfl ?_
    refine zV_aload_nr dX6_drink_48 rfl rfl ?_
    refine gf6_64 rfl (rfl) dX6_drink_49 ?_
    refine zV_teq (w := zrv E 75) rfl ?_
    refine zV_aload_nr dX6_drink_52 rfl rfl ?_
    refine gf6_42 rfl (rfl) dX6_drink_53 ?_
    refine zV_teq (w := zrv E 68) rfl ?_
    refine zV_iconst dX6_drink_56 ?_
    refine zV_ialoadN (i := 3) (N := 10) (rfl) (by decide) (by decide) dX6_drink_57 ?_
    refine zV_teq (w := ziv (l.length : Int)) (by show ziv (l.length : Int) = ziv (h1 68 3); rw [f1 68 (by decide), hlen]) ?_
    refine zV_callV (As := [zrv E 75, ziv (l.length : Int)]) lk6_350 (rfl) rfl rfl (c6_valueNow (c := 75) (l := l) (dr := true) (b := b) (d - 1) 0 (by omega) (Or.inl rfl) hl7 hne hg hx hsg hen) ⟨by show _ + 1 ≤ d; omega, by show _ ≤ k; omega⟩ rfl (Nat.le_of_ble_eq_true rfl) dX6_drink_58 (fun _ _ z => z.elim) (fun r h2 q => ?_)
    obtain ⟨rfl, hvr, f2⟩ := q
    refine zV_istore_n dX6_drink_61 rfl (Nat.le_of_ble_eq_true rfl) rfl ?_
    exact J62 _ h2 (fun c2 e1 e2 => by rw [f2 c2 e2, zup_fn e1, zup_fn e1]; exact f1 c2 e1) hvr (by
      unfold wantM t01
      rw [if_neg (by rw [if_neg z20]; decide), ej]
      exact ruM_of (ru := 0) hlen hx hsg2 (fun x hx9 hz => askE_L (by exact a0) (by exact a1) (by exact a2) (by exact a3) (by exact a4) (by exact e78) rfl ⟨(hx x hx9).1, hz⟩))
set_option maxRecDepth 100000 in
theorem c6_stirred {E : zE} {h : zH} {n jn j l : Nat} {lv : Int} (d k : Nat) (hd : 1 ≤ d) (hjn : jn ≤ 8) (hn : n ≤ 8) (hj : j < jn) (hl : l < n) (hp : 0 ≤ h 80 l ∧ h 80 l < 12) (hh : 0 ≤ h 82 j ∧ h 82 j ≤ 12) (hw : 1 ≤ h 70 l ∧ h 70 l ≤ 9) (hv : 0 ≤ lv ∧ lv ≤ 99) : zCal E mX6_stirred d k [zrv E 64, ziv (j : Int), ziv (l : Int), ziv lv] h (fun r h' => r = some (ziv (stirS (h 80 l) (pushS (h 82 j) lv) (h 70 l))) ∧ h' = h) (fun _ _ => False) := by
  refine zCal_of (by decide) (Nat.le_of_ble_eq_true rfl) (fun a => ?_)
  show zV _ 0 0 [zrv E 64, ziv (j : Int), ziv (l : Int), ziv lv] [] _
  refine zV_aload_nr dX6_stirred_0 rfl rfl ?_
  refine gf6_82 rfl (rfl) dX6_stirred_1 ?_
  refine zV_teq (w := zrv E 80) rfl ?_
  refine zV_iload_n dX6_stirred_4 rfl rfl ?_
  refine zV_ialoadN (i := l) (N := 8) (rfl) (by omega) (by decide) dX6_stirred_5 ?_
  refine zV_aload_nr dX6_stirred_6 rfl rfl ?_
  refine gf6_88 rfl (rfl) dX6_stirred_7 ?_
  refine zV_teq (w := zrv E 82) rfl ?_
  refine zV_iload_n dX6_stirred_10 rfl rfl ?_
  refine zV_ialoadN (i := j) (N := 8) (rfl) (by omega) (by decide) dX6_stirred_11 ?_
  refine zV_bipush dX6_stirred_12 (by decide) ?_
  refine zV_isub dX6_stirred_14 ?_
  refine zV_iload_n dX6_stirred_15 rfl rfl ?_
  refine zV_bipush dX6_stirred_16 (by decide) ?_
  refine zV_idiv dX6_stirred_18 (by decide) ?_
  rw [zdiv_eq (by omega) (by decide), Int.tdiv_eq_ediv_of_nonneg hv.1]
  refine zV_imul dX6_stirred_19 ?_
  refine zV_aload_nr dX6_stirred_20 rfl rfl ?_
  refine gf6_49 rfl (rfl) dX6_stirred_21 ?_
  refine zV_teq (w := zrv E 70) rfl ?_
  refine zV_iload_n dX6_stirred_24 rfl rfl ?_
  refine zV_ialoadN (i := l) (N := 16) (rfl) (by omega) (by decide) dX6_stirred_25 ?_
  refine zV_idiv dX6_stirred_26 (by rw [zn_of (by omega) (by omega)]; omega) ?_
  have pb := push_b (x := h 82 j) (y := lv) hh hv
  have sb := tdiv_b (x := (h 82 j - 6) * (lv / 10)) (y := h 70 l) pb hw
  generalize hpp : (h 82 j - 6) * (lv / 10) = pp at *
  rw [zdiv_eq (by omega) (by omega)]
  refine zV_iadd dX6_stirred_27 ?_
  refine zV_bipush dX6_stirred_28 (by decide) ?_
  refine zV_callS (As := [ziv (h 80 l + pp.tdiv (h 70 l)), ziv 12]) lk6_357 (c6_ringOf (d - 1) 0 (by omega) (by decide)) ⟨by show _ + 1 ≤ d; omega, by show _ ≤ k; omega⟩ rfl (Nat.le_of_ble_eq_true rfl) dX6_stirred_30 (fun _ _ z => z.elim) (fun r h9 q => ?_)
  obtain ⟨rfl, hh⟩ := q
  rw [hh]
  clear hh
  exact zV_ireturn dX6_stirred_33 rfl (Nat.zero_le _) ⟨by unfold stirS pushS; rw [hpp], rfl⟩
set_option maxRecDepth 100000 in
theorem c6_blow {E : zE} {h : zH} {n : Nat} (d k : Nat) (hd : 1 ≤ d) (h0 : h 68 0 = (n : Int)) (hn : n ≤ 8) (hl : ∀ l, l < n → 0 ≤ h 80 l ∧ h 80 l < 12) : zCal E mX6_blow d k [zrv E 64] h (fun r h' => r = none ∧ h' = zst h 80 (blowP (h 80) n)) (fun _ _ => False) := by
  refine zCal_of (by decide) (Nat.le_of_ble_eq_true rfl) (fun a => ?_)
  show zV _ 0 0 [zrv E 64, .null] [] _
  refine zV_iconst dX6_blow_0 ?_
  refine zV_istore_n dX6_blow_1 rfl (Nat.le_of_ble_eq_true rfl) rfl ?_
  have L2 : ∀ (m : Nat) (s : Nat), (n + 1 ≤ s + m) → (s ≤ n) → zV (E, mX6_blow, d, k, (fun r h' => r = none ∧ h' = zst h 80 (blowP (h 80) n)), (fun _ _ => False), a) 0 2 [zrv E 64, ziv (s : Int)] [] (zst h 80 (blowP (h 80) s)) := by
    intro m
    induction m with
    | zero => intro s hm_ hs; exfalso; omega
    | succ m ih =>
      intro s hm_ hs
      have g0 : (zst h 80 (blowP (h 80) s)) 68 0 = (n : Int) := h0
      have gl : ∀ l, l < n → 0 ≤ (zst h 80 (blowP (h 80) s)) 80 l ∧ (zst h 80 (blowP (h 80) s)) 80 l < 12 := by rw [zst_same]; exact blowP_lo hl s
      have gb := blowP_lo hl s
      refine zV_iload_n dX6_blow_2 rfl rfl ?_
      refine zV_aload_nr dX6_blow_3 rfl rfl ?_
      refine gf6_42 rfl (rfl) dX6_blow_4 ?_
      refine zV_teq (w := zrv E 68) rfl ?_
      refine zV_iconst dX6_blow_7 ?_
      refine zV_ialoadN (i := 0) (N := 10) (rfl) (by decide) (by decide) dX6_blow_8 ?_
      refine zV_teq (w := ziv (n : Int)) (congrArg ziv h0.symm) ?_
      refine zR_icmp_ge (tgt := 56) dX6_blow_9 (by decide) (by omega) (by omega) (fun h9 => ?_) (fun h9 => ?_)
      · exact zV_vreturn dX6_blow_56 rfl (Nat.zero_le _) ⟨rfl, by rw [show n = s by omega]⟩
      · refine zV_aload_nr dX6_blow_12 rfl rfl ?_
        refine zV_aload_nr dX6_blow_13 rfl rfl ?_
        refine gf6_82 rfl (rfl) dX6_blow_14 ?_
        refine zV_teq (w := zrv E 80) rfl ?_
        refine zV_iload_n dX6_blow_17 rfl rfl ?_
        have gs := gb s (by omega)
        refine zV_ialoadN (i := s) (N := 8) (rfl) (by omega) (by decide) dX6_blow_18 ?_
        refine zV_teq (w := ziv (blowP (h 80) s s)) (by rw [zst_same]) ?_
        refine zV_callV (As := [ziv (blowP (h 80) s s)]) lk6_329 (rfl) rfl rfl (c6_heapAt (n := n) (d - 1) 0 (by omega) g0 hn gl) ⟨by show _ + 1 ≤ d; omega, by show _ ≤ k; omega⟩ rfl (Nat.le_of_ble_eq_true rfl) dX6_blow_19 (fun _ _ z => z.elim) (fun r h9 q => ?_)
        obtain ⟨rfl, hh⟩ := q
        rw [hh]
        clear hh
        refine zV_teq (w := ziv (ptN (blowP (h 80) s) (blowP (h 80) s s) n : Int)) (by rw [zst_same]) ?_
        refine zV_iconst dX6_blow_22 ?_
        refine zV_iload_n dX6_blow_23 rfl rfl ?_
        refine zV_ishl dX6_blow_24 ?_
        refine zV_iconst dX6_blow_25 ?_
        refine zV_isub dX6_blow_26 ?_
        refine zV_iand dX6_blow_27 ?_
        refine zR_if_eq (tgt := 50) dX6_blow_28 (by decide) (zand_r _ _) (fun h28 => ?_) (fun h28 => ?_)
        · have hb := (pt_hit (blowP (h 80) s) (blowP (h 80) s s) (show s < n by omega) hn).mp h28
          refine zV_iinc dX6_blow_50 rfl (Nat.le_of_ble_eq_true rfl) rfl ?_
          refine zV_goto (tgt := 2) dX6_blow_53 (by decide) ?_
          refine zV_heq (h' := zst h 80 (blowP (h 80) (s + 1))) (by rw [blowP_s, if_neg (by rw [hb]; decide)]) ?_
          exact ih (s + 1) (by omega) (by omega)
        · have hb : hitB (blowP (h 80) s) (blowP (h 80) s s) s = true := Bool.of_not_eq_false (fun z => h28 ((pt_hit (blowP (h 80) s) (blowP (h 80) s s) (show s < n by omega) hn).mpr z))
          refine zV_aload_nr dX6_blow_31 rfl rfl ?_
          refine gf6_82 rfl (rfl) dX6_blow_32 ?_
          refine zV_teq (w := zrv E 80) rfl ?_
          refine zV_iload_n dX6_blow_35 rfl rfl ?_
          refine zV_aload_nr dX6_blow_36 rfl rfl ?_
          refine gf6_82 rfl (rfl) dX6_blow_37 ?_
          refine zV_teq (w := zrv E 80) rfl ?_
          refine zV_iload_n dX6_blow_40 rfl rfl ?_
          refine zV_ialoadN (i := s) (N := 8) (rfl) (by omega) (by decide) dX6_blow_41 ?_
          refine zV_teq (w := ziv (blowP (h 80) s s)) (by rw [zst_same]) ?_
          refine zV_iconst dX6_blow_42 ?_
          refine zV_iadd dX6_blow_43 ?_
          refine zV_bipush dX6_blow_44 (by decide) ?_
          refine zV_callS (As := [ziv (blowP (h 80) s s + 1), ziv 12]) lk6_357 (c6_ringOf (d - 1) 0 (by omega) (by decide)) ⟨by show _ + 1 ≤ d; omega, by show _ ≤ k; omega⟩ rfl (Nat.le_of_ble_eq_true rfl) dX6_blow_46 (fun _ _ z => z.elim) (fun r h9 q => ?_)
          obtain ⟨rfl, hh⟩ := q
          rw [hh]
          clear hh
          refine zV_iastoreN (i := s) (N := 8) (rfl) (by omega) (by decide) dX6_blow_49 ?_
          refine zV_iinc dX6_blow_50 rfl (Nat.le_of_ble_eq_true rfl) rfl ?_
          refine zV_goto (tgt := 2) dX6_blow_53 (by decide) ?_
          refine zV_heq (h' := zst h 80 (blowP (h 80) (s + 1))) (by rw [zup_zst, blowP_s, if_pos hb]) ?_
          exact ih (s + 1) (by omega) (by omega)
  refine zV_heq (zst_self h 80) ?_
  exact L2 (n + 1) 0 (by omega) (by omega)
set_option maxRecDepth 100000 in
theorem c6_aCase {E : zE} {h : zH} {n jn : Nat} (d k : Nat) (hd : 7 ≤ d) (hct : mCt h n jn) (hdy : mDy h n jn) : zCal E mX6_aCase d k [zrv E 64] h (fun r h' => r = none ∧ mcase h n jn h') (fun _ _ => False) := by
  refine zCal_of (by decide) (Nat.le_of_ble_eq_true rfl) (fun a => ?_)
  show zV _ 0 0 [zrv E 64, .null, .null, .null] [] _
  obtain ⟨⟨hn, hjn, t0, t1⟩, hw, hbl, hwi, hr0, hr1⟩ := id hct
  obtain ⟨dl, dt, dh, ds, dp, dc⟩ := id hdy
  refine zV_aload_nr dX6_aCase_0 rfl rfl ?_
  refine zV_aload_nr dX6_aCase_1 rfl rfl ?_
  refine gf6_151 rfl rfl dX6_aCase_2 ?_
  refine pf6_338 rfl (rfl) dX6_aCase_5 ?_
  refine zV_iconst dX6_aCase_8 ?_
  refine zV_istore_n dX6_aCase_9 rfl (Nat.le_of_ble_eq_true rfl) rfl ?_
  have L10 : ∀ (m : Nat) (s : Nat) (h1 : zH), (9 ≤ s + m) → (s ≤ 8) → (∀ c2 : Nat, c2 ≠ 86 → h1 c2 = zup h 64 37 (h 64 33) c2) → (∀ i, i < s → h1 86 i = 0) → zV (E, mX6_aCase, d, k, (fun r h' => r = none ∧ mcase h n jn h'), (fun _ _ => False), a) 0 10 [zrv E 64, ziv (s : Int), .null, .null] [] h1 := by
    intro m
    induction m with
    | zero => intro s h1 hm_ hs f1 z1; exfalso; omega
    | succ m ih =>
      intro s h1 hm_ hs f1 z1
      refine zV_iload_n dX6_aCase_10 rfl rfl ?_
      refine zV_bipush dX6_aCase_11 (by decide) ?_
      refine zR_icmp_ge (tgt := 29) dX6_aCase_13 (by decide) (by omega) (by omega) (fun h13 => ?_) (fun h13 => ?_)
      · refine zV_iconst dX6_aCase_29 ?_
        refine zV_istore_n dX6_aCase_30 rfl (Nat.le_of_ble_eq_true rfl) rfl ?_
        have L31 : ∀ (m3 : Nat) (s : Nat) (h1 : zH), (jn + 1 ≤ s + m3) → (s ≤ jn) → (mcS h n jn s h1) → zV (E, mX6_aCase, d, k, (fun r h' => r = none ∧ mcase h n jn h'), (fun _ _ => False), a) 0 31 [zrv E 64, ziv (s : Int), .null, .null] [] h1 := by
          intro m3
          induction m3 with
          | zero => intro s h1 hm_ hs hI; exfalso; omega
          | succ m3 ih3 =>
            intro s h1 hm_ hs hI
            obtain ⟨f1, q1, q2, q3, q4⟩ := id hI
            have xl := XM_lo hdy s
            obtain ⟨ct1, gm1⟩ := mFr_ct hct f1
            have dy1 : mDy h1 n jn := mFr_dy hdy f1 (by rw [q2]; exact xl.1) (by rw [q1]; exact dc)
            have e68 : h1 68 = h 68 := f1.1 68 (by decide) (by decide) (by decide) (by decide) (by decide)
            refine zV_iload_n dX6_aCase_31 rfl rfl ?_
            refine zV_aload_nr dX6_aCase_32 rfl rfl ?_
            refine gf6_42 rfl (rfl) dX6_aCase_33 ?_
            refine zV_teq (w := zrv E 68) rfl ?_
            refine zV_iconst dX6_aCase_36 ?_
            refine zV_ialoadN (i := 1) (N := 10) (rfl) (by decide) (by decide) dX6_aCase_37 ?_
            refine zV_teq (w := ziv (jn : Int)) (by rw [e68]; exact congrArg ziv t1.symm) ?_
            refine zR_icmp_ge (tgt := 119) dX6_aCase_38 (by decide) (by omega) (by omega) (fun h38 => ?_) (fun h38 => ?_)
            · refine zV_aload_nr dX6_aCase_119 rfl rfl ?_
              refine zV_callV (As := []) lk6_347 (rfl) rfl rfl (c6_ask (n := n) (d - 1) 0 (by omega) (by rw [e68]; exact t0) hn dy1.1) ⟨by show _ + 1 ≤ d; omega, by show _ ≤ k; omega⟩ rfl (Nat.le_of_ble_eq_true rfl) dX6_aCase_120 (fun _ _ z => z.elim) (fun r h2 q => ?_)
              obtain ⟨rfl, k1, ⟨a0, a1, a2, a3, a4⟩, a5⟩ := q
              have hsj : jn = s := by omega
              subst hsj
              refine zV_drop 1 ?_
              refine zV_aload_nr dX6_aCase_123 rfl rfl ?_
              refine gf6_42 rfl (rfl) dX6_aCase_124 ?_
              refine zV_teq (w := zrv E 68) rfl ?_
              refine zV_iconst dX6_aCase_127 ?_
              refine zV_ialoadN (i := 4) (N := 10) (rfl) (by decide) (by decide) dX6_aCase_128 ?_
              have J162 : ∀ (w : Int) (h3 : zH), (∀ c2 : Nat, c2 ≠ 84 → c2 ≠ 85 → h3 c2 = h1 c2) → (-2147483648 ≤ w ∧ w ≤ 2147483647) → (w % 5 = verdS (XM h n jn jn).1 n (XM h n jn jn).2.1 (h 64 32) (t01 (h 68 4)) (ruM h 1)) → zV (E, mX6_aCase, d, k, (fun r h' => r = none ∧ mcase h n jn h'), (fun _ _ => False), a) 0 162 [zrv E 64, .null, .null, .null] [ziv w] h3 := by
                intro w h3 f9 hwr hww
                have e64 : h3 64 = h1 64 := f9 64 (by decide) (by decide)
                refine zV_istore_n dX6_aCase_162 rfl (Nat.le_of_ble_eq_true rfl) rfl ?_
                refine zV_aload_nr dX6_aCase_163 rfl rfl ?_
                refine zV_iload_n dX6_aCase_164 rfl rfl ?_
                refine zV_iconst dX6_aCase_165 ?_
                refine zV_callS (As := [ziv w, ziv 5]) lk6_357 (c6_ringOf (d - 1) 0 hwr (by decide)) ⟨by show _ + 1 ≤ d; omega, by show _ ≤ k; omega⟩ rfl (Nat.le_of_ble_eq_true rfl) dX6_aCase_166 (fun _ _ z => z.elim) (fun r h9 q => ?_)
                obtain ⟨rfl, hh⟩ := q
                rw [hh]
                clear hh
                refine pf6_154 rfl (rfl) dX6_aCase_169 ?_
                refine zV_aload_nr dX6_aCase_172 rfl rfl ?_
                refine zV_dup dX6_aCase_173 rfl ?_
                refine gf6_313 rfl rfl dX6_aCase_174 ?_
                refine zV_iconst dX6_aCase_177 ?_
                refine zV_iadd dX6_aCase_178 ?_
                refine pf6_313 rfl (rfl) dX6_aCase_179 ?_
                exact zV_vreturn dX6_aCase_182 rfl (Nat.zero_le _) ⟨rfl, mcase_fin hI f9 hww⟩
              refine zV_teq (w := ziv (h 68 4)) (congrArg ziv (by rw [k1 68 (by decide), e68])) ?_
              have r4 : h 68 4 = 0 ∨ (0 ≤ h 68 4 ∧ h 68 4 ≤ 700) := by
                rcases hr1 with z | ⟨l, b, -, hl, z, -⟩
                · exact Or.inl z
                · right; rw [show h 68 4 = (l.length : Int) from z]; omega
              have sv := surv_r (h1 80) hn
              have dy16 := dy1.2.2.2.2.2
              have xlj := xl.2
              refine zR_if_ne (tgt := 148) dX6_aCase_129 (by decide) (by omega) (fun h129 => ?_) (fun h129 => ?_)
              · obtain ⟨l, b, hne, hl7, hlen, hg, hx, hsg2⟩ : ∃ (l : List Int) (b : Bool), l ≠ [] ∧ l.length ≤ 700 ∧ h 68 4 = (l.length : Int) ∧ (∀ k, k + 31 ≤ 64 → hgL l k = some (k + 1)) ∧ (∀ x ∈ l, tkB false b x) ∧ ∀ i, i < l.length → h 76 i = enc (l.getD i 0) := by
                  rcases hr1 with z | z
                  · exact absurd z h129
                  · exact z
                refine zV_aload_nr dX6_aCase_148 rfl rfl ?_
                refine zV_aload_nr dX6_aCase_149 rfl rfl ?_
                refine gf6_67 rfl (rfl) dX6_aCase_150 ?_
                refine zV_teq (w := zrv E 76) rfl ?_
                refine zV_aload_nr dX6_aCase_153 rfl rfl ?_
                refine gf6_42 rfl (rfl) dX6_aCase_154 ?_
                refine zV_teq (w := zrv E 68) rfl ?_
                refine zV_iconst dX6_aCase_157 ?_
                refine zV_ialoadN (i := 4) (N := 10) (rfl) (by decide) (by decide) dX6_aCase_158 ?_
                refine zV_teq (w := ziv (l.length : Int)) (congrArg ziv (by rw [k1 68 (by decide), e68]; exact hlen.symm)) ?_
                have hen : ∀ j2, j2 < 7 → (false = false → j2 < 5) → -2147483648 ≤ h2 84 j2 ∧ h2 84 j2 ≤ 2147483647 := by
                  intro j2 hj3 hj5
                  have hj6 := hj5 rfl
                  rcases (show j2 = 0 ∨ j2 = 1 ∨ j2 = 2 ∨ j2 = 3 ∨ j2 = 4 by omega) with rfl | rfl | rfl | rfl | rfl <;> omega
                have hsg : ∀ i, i < l.length → h2 76 i = enc (l.getD i 0) := fun i hi => by rw [k1 76 (by decide), f1.1 76 (by decide) (by decide) (by decide) (by decide) (by decide)]; exact hsg2 i hi
                have hsg3 : ∀ i, i < l.length → h1 76 i = enc (l.getD i 0) := fun i hi => by rw [f1.1 76 (by decide) (by decide) (by decide) (by decide) (by decide)]; exact hsg2 i hi
                have hlen1 : h1 68 4 = (l.length : Int) := by rw [e68]; exact hlen
                have gmr : ruM h1 1 = ruM h 1 := congrArg (fun g : zG => g.2.2.2.2.2.2.2.2.2) gm1
                refine zV_callV (As := [zrv E 76, ziv (l.length : Int)]) lk6_350 (rfl) rfl rfl (c6_valueNow (c := 76) (l := l) (dr := false) (b := b) (d - 1) 0 (by omega) (Or.inr rfl) hl7 hne hg hx hsg hen) ⟨by show _ + 1 ≤ d; omega, by show _ ≤ k; omega⟩ rfl (Nat.le_of_ble_eq_true rfl) dX6_aCase_159 (fun _ _ z => z.elim) (fun r h3 q => ?_)
                obtain ⟨rfl, hvr, f3⟩ := q
                exact J162 _ h3 (fun c2 e1 e2 => by rw [f3 c2 e2]; exact k1 c2 e1) hvr (by
                  unfold verdS t01
                  rw [if_neg (by rw [if_neg h129]; decide), ← q2, ← q3, ← q1, ← gmr]
                  exact congrArg (· % 5) (ruM_of (ru := 1) hlen1 hx hsg3 (fun x hx9 hz => askE_R (by exact a0) (by exact a1) (by exact a2) (by exact a3) (by exact a4) ⟨(hx x hx9).2.2.1 rfl, hz⟩)))
              · refine zV_aload_nr dX6_aCase_132 rfl rfl ?_
                refine gf6_94 rfl (rfl) dX6_aCase_133 ?_
                refine zV_teq (w := zrv E 84) rfl ?_
                refine zV_iconst dX6_aCase_136 ?_
                refine zV_ialoadN (i := 1) (N := 7) (rfl) (by decide) (by decide) dX6_aCase_137 ?_
                refine zV_aload_nr dX6_aCase_138 rfl rfl ?_
                refine gf6_94 rfl (rfl) dX6_aCase_139 ?_
                refine zV_teq (w := zrv E 84) rfl ?_
                refine zV_iconst dX6_aCase_142 ?_
                refine zV_ialoadN (i := 2) (N := 7) (rfl) (by decide) (by decide) dX6_aCase_143 ?_
                rw [a1, a2]
                refine zV_iadd dX6_aCase_144 ?_
                refine zV_goto (tgt := 162) dX6_aCase_145 (by decide) ?_
                exact J162 _ h2 (fun c2 e1 e2 => k1 c2 e1) (by omega) (by
                  unfold verdS t01
                  rw [if_pos (by rw [if_pos (show h 68 4 = 0 by omega)]), ← q2, Int.add_comm])
            · refine zV_aload_nr dX6_aCase_41 rfl rfl ?_
              refine gf6_85 rfl (rfl) dX6_aCase_42 ?_
              refine zV_teq (w := zrv E 81) rfl ?_
              refine zV_iload_n dX6_aCase_45 rfl rfl ?_
              refine zV_ialoadN (i := s) (N := 8) (rfl) (by omega) (by decide) dX6_aCase_46 ?_
              obtain ⟨j, hjj⟩ : ∃ j : Nat, h 81 s = (j : Int) := ⟨(h 81 s).toNat, by have := ds s (by omega); omega⟩
              have hj2 : j < jn := by have := ds s (by omega); omega
              have e81 : h1 81 = h 81 := f1.1 81 (by decide) (by decide) (by decide) (by decide) (by decide)
              refine zV_teq (w := ziv (j : Int)) (congrArg ziv (by rw [e81, hjj])) ?_
              refine zV_istore_n dX6_aCase_47 rfl (Nat.le_of_ble_eq_true rfl) rfl ?_
              refine zV_iload_n dX6_aCase_48 rfl rfl ?_
              refine zV_aload_nr dX6_aCase_49 rfl rfl ?_
              refine gf6_42 rfl (rfl) dX6_aCase_50 ?_
              refine zV_teq (w := zrv E 68) rfl ?_
              refine zV_iconst dX6_aCase_53 ?_
              refine zV_ialoadN (i := 1) (N := 10) (rfl) (by decide) (by decide) dX6_aCase_54 ?_
              refine zV_teq (w := ziv (jn : Int)) (by rw [e68]; exact congrArg ziv t1.symm) ?_
              refine zV_iconst dX6_aCase_55 ?_
              refine zV_isub dX6_aCase_56 ?_
              have J65 : ∀ (h2 : zH), (mFr h h2) → (h2 64 32 = h 64 32) → (h2 80 = (XM h n jn s).1) → (h2 64 37 = (XM h n jn (s + 1)).2.1) → (injM (h 81) jn → agn 8 (h2 86) (XM h n jn (s + 1)).2.2) → zV (E, mX6_aCase, d, k, (fun r h' => r = none ∧ mcase h n jn h'), (fun _ _ => False), a) 0 65 [zrv E 64, ziv (s : Int), ziv (j : Int), .null] [] h2 := by
                intro h2 f9 c9 p9 l9 d9
                have xl2 := XM_lo hdy (s + 1)
                have e70 : h2 70 = h 70 := f9.1 70 (by decide) (by decide) (by decide) (by decide) (by decide)
                have e82 : h2 82 = h 82 := f9.1 82 (by decide) (by decide) (by decide) (by decide) (by decide)
                have e71 : h2 71 = h 71 := f9.1 71 (by decide) (by decide) (by decide) (by decide) (by decide)
                have e68b : h2 68 = h 68 := f9.1 68 (by decide) (by decide) (by decide) (by decide) (by decide)
                have hbj := hbl j hj2
                refine zV_iconst dX6_aCase_65 ?_
                refine zV_istore_n dX6_aCase_66 rfl (Nat.le_of_ble_eq_true rfl) rfl ?_
                have L67 : ∀ (m4 : Nat) (l : Nat), (n + 1 ≤ l + m4) → (l ≤ n) → zV (E, mX6_aCase, d, k, (fun r h' => r = none ∧ mcase h n jn h'), (fun _ _ => False), a) 0 67 [zrv E 64, ziv (s : Int), ziv (j : Int), ziv (l : Int)] [] (zst h2 80 (stirP (h2 80) (h 70) (pushS (h 82 j) (h2 64 37)) l)) := by
                  intro m4
                  induction m4 with
                  | zero => intro l hm_ hl; exfalso; omega
                  | succ m4 ih4 =>
                    intro l hm_ hl
                    refine zV_iload_n dX6_aCase_67 rfl rfl ?_
                    refine zV_aload_nr dX6_aCase_68 rfl rfl ?_
                    refine gf6_42 rfl (rfl) dX6_aCase_69 ?_
                    refine zV_teq (w := zrv E 68) rfl ?_
                    refine zV_iconst dX6_aCase_72 ?_
                    refine zV_ialoadN (i := 0) (N := 10) (rfl) (by decide) (by decide) dX6_aCase_73 ?_
                    refine zV_teq (w := ziv (n : Int)) (by rw [zst_ne (by decide), e68b]; exact congrArg ziv t0.symm) ?_
                    refine zR_icmp_ge (tgt := 99) dX6_aCase_74 (by decide) (by omega) (by omega) (fun h74 => ?_) (fun h74 => ?_)
                    · refine zV_aload_nr dX6_aCase_99 rfl rfl ?_
                      refine gf6_52 rfl (rfl) dX6_aCase_100 ?_
                      refine zV_teq (w := zrv E 71) rfl ?_
                      refine zV_iload_n dX6_aCase_103 rfl rfl ?_
                      refine zV_ialoadN (i := j) (N := 16) (rfl) (by omega) (by decide) dX6_aCase_104 ?_
                      refine zV_teq (w := ziv (h 71 j)) (congrArg ziv (by rw [zst_ne (by decide), e71])) ?_
                      refine zV_iconst dX6_aCase_105 ?_
                      refine zR_icmp_ne (tgt := 113) dX6_aCase_106 (by decide) (by omega) (by decide) (fun h106 => ?_) (fun h106 => ?_)
                      · refine zV_iinc dX6_aCase_113 rfl (Nat.le_of_ble_eq_true rfl) rfl ?_
                        refine zV_goto (tgt := 31) dX6_aCase_116 (by decide) ?_
                        refine zV_drop 2 ?_
                        refine zV_drop 3 ?_
                        refine ih3 (s + 1) _ (by omega) (by omega) (mcS_st f9 c9 l9 d9 ?_)
                        rw [XM_s1 hjj, if_pos (show h 71 j = 0 by omega), p9, l9, show l = n by omega]
                      · refine zV_aload_nr dX6_aCase_109 rfl rfl ?_
                        refine zV_callV (As := []) lk6_366 (rfl) rfl rfl (c6_blow (n := n) (d - 1) 0 (by omega) (by rw [zst_ne (by decide), e68b]; exact t0) hn (by rw [zst_same, show l = n by omega]; exact stirP_lo)) ⟨by show _ + 1 ≤ d; omega, by show _ ≤ k; omega⟩ rfl (Nat.le_of_ble_eq_true rfl) dX6_aCase_110 (fun _ _ z => z.elim) (fun r h8 q => ?_)
                        obtain ⟨rfl, hh⟩ := q
                        rw [hh]
                        clear hh
                        refine zV_iinc dX6_aCase_113 rfl (Nat.le_of_ble_eq_true rfl) rfl ?_
                        refine zV_goto (tgt := 31) dX6_aCase_116 (by decide) ?_
                        refine zV_drop 2 ?_
                        refine zV_drop 3 ?_
                        rw [zst_zst, zst_same]
                        refine ih3 (s + 1) _ (by omega) (by omega) (mcS_st f9 c9 l9 d9 ?_)
                        rw [XM_s1 hjj, if_neg (show ¬ h 71 j = 0 by omega), p9, l9, show l = n by omega]
                    · refine zV_aload_nr dX6_aCase_77 rfl rfl ?_
                      refine gf6_82 rfl (rfl) dX6_aCase_78 ?_
                      refine zV_teq (w := zrv E 80) rfl ?_
                      refine zV_iload_n dX6_aCase_81 rfl rfl ?_
                      refine zV_aload_nr dX6_aCase_82 rfl rfl ?_
                      refine zV_iload_n dX6_aCase_83 rfl rfl ?_
                      refine zV_iload_n dX6_aCase_84 rfl rfl ?_
                      refine zV_aload_nr dX6_aCase_85 rfl rfl ?_
                      refine gf6_338 rfl rfl dX6_aCase_86 ?_
                      refine zV_callV (As := [ziv (j : Int), ziv (l : Int), ziv (h2 64 37)]) lk6_363 (rfl) rfl rfl (c6_stirred (n := n) (jn := jn) (d - 1) 0 (by omega) hjn hn hj2 (by omega) (by rw [zst_same]; unfold stirP; rw [if_neg (by omega), p9]; exact xl.1 l (by omega)) (by rw [zst_ne (by decide), e82]; exact dh j hj2) (by rw [zst_ne (by decide), e70]; exact hw l (by omega)) (by rw [l9]; exact xl2.2)) ⟨by show _ + 1 ≤ d; omega, by show _ ≤ k; omega⟩ rfl (Nat.le_of_ble_eq_true rfl) dX6_aCase_89 (fun _ _ z => z.elim) (fun r h8 q => ?_)
                      obtain ⟨rfl, hh⟩ := q
                      rw [hh]
                      clear hh
                      refine zV_teq (w := ziv (stirS (h2 80 l) (pushS (h 82 j) (h2 64 37)) (h 70 l))) (congrArg ziv (by rw [zst_same, zst_ne (by decide), zst_ne (by decide), e82, e70]; unfold stirP; rw [if_neg (by omega)])) ?_
                      refine zV_iastoreN (i := l) (N := 8) (rfl) (by omega) (by decide) dX6_aCase_92 ?_
                      refine zV_iinc dX6_aCase_93 rfl (Nat.le_of_ble_eq_true rfl) rfl ?_
                      refine zV_goto (tgt := 67) dX6_aCase_96 (by decide) ?_
                      refine zV_heq (h' := zst h2 80 (stirP (h2 80) (h 70) (pushS (h 82 j) (h2 64 37)) (l + 1))) (by rw [zup_zst, stirP_st]) ?_
                      exact ih4 (l + 1) (by omega) (by omega)
                refine zV_heq (h' := zst h2 80 (stirP (h2 80) (h 70) (pushS (h 82 j) (h2 64 37)) 0)) (by rw [stirP_0, zst_self]) ?_
                exact L67 (n + 1) 0 (by omega) (by omega)
              refine zR_icmp_ge (tgt := 65) dX6_aCase_57 (by decide) (by omega) (by omega) (fun h57 => ?_) (fun h57 => ?_)
              · exact J65 h1 f1 q1 q2 (by rw [q3, XM_s2 hjj, if_pos (show s + 1 = jn by omega)]; omega) (fun hin => by
                  intro i hi
                  rw [q4 hin i hi, XM_s3 hjj]
                  split
                  · rename_i e
                    rw [if_pos (show s + 1 = jn by omega), e]
                    exact XM_sip hin (by omega) hjj (fun s hs => (ds s hs).1)
                  · rfl)
              · refine zV_aload_nr dX6_aCase_60 rfl rfl ?_
                refine zV_iload_n dX6_aCase_61 rfl rfl ?_
                refine zV_callV (As := [ziv (s : Int)]) lk6_360 (rfl) rfl rfl (c6_drink (n := n) (jn := jn) (s := s) (d - 1) 0 (by omega) ct1 dy1 (by omega) (by rw [q3]; exact xl.2)) ⟨by show _ + 1 ≤ d; omega, by show _ ≤ k; omega⟩ rfl (Nat.le_of_ble_eq_true rfl) dX6_aCase_62 (fun _ _ z => z.elim) (fun r h3 q => ?_)
                obtain ⟨rfl, w1, w2, w3⟩ := q
                have sp1 := sip_XM hjj f1 q1 q2 q3 gm1 (s := s)
                exact J65 h3 (mFr_fr1 f1 w1) (by rw [w1.2 32 (by decide)]; exact q1) (by rw [w1.1 80 (by decide) (by decide) (by decide) (by decide)]; exact q2) (by rw [w2, q3, XM_s2 hjj, if_neg (show ¬ s + 1 = jn by omega), sp1]) (fun hin => by
                  intro i hi
                  rw [w3 i, XM_s3 hjj, e81, hjj, Int.toNat_natCast, if_neg (show ¬ s + 1 = jn by omega), sp1]
                  split
                  · rfl
                  · exact q4 hin i hi)
        exact L31 (jn + 1) 0 h1 (by omega) (by omega) (mcS_0 f1 (fun i hi => z1 i (by omega)))
      · refine zV_aload_nr dX6_aCase_16 rfl rfl ?_
        refine gf6_100 rfl (rfl) dX6_aCase_17 ?_
        refine zV_teq (w := zrv E 86) rfl ?_
        refine zV_iload_n dX6_aCase_20 rfl rfl ?_
        refine zV_iconst dX6_aCase_21 ?_
        refine zV_iastoreN (i := s) (N := 8) (rfl) (by omega) (by decide) dX6_aCase_22 ?_
        refine zV_iinc dX6_aCase_23 rfl (Nat.le_of_ble_eq_true rfl) rfl ?_
        refine zV_goto (tgt := 10) dX6_aCase_26 (by decide) ?_
        exact ih (s + 1) _ (by omega) (by omega) (fun c2 e => by rw [zup_fn e]; exact f1 c2 e) (fun i hi => by rw [zup_at]; split; rfl; exact z1 i (by omega))
  exact L10 9 0 _ (by omega) (by omega) (fun _ _ => rfl) (fun i hi => absurd hi (Nat.not_lt_zero i))
