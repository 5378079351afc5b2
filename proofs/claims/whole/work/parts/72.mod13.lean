/-! THE REFERENCE: what was read -/
def vM (h : zH) (n jn : Nat) (g : zG) (k : Nat) : Int := (runG n jn g (h 64 32) (h 80, 0, 0, fun _ => 0) k).2.1
def handM (h : zH) (j : Nat) (v : Int) : zG := gHa (gM h) (setF (h 82) j v)
def isRM (h : zH) (n jn rn : Nat) (g : zG) : Bool := asR (vM h n jn g) (h 92) (h 93) rn 20
def isHM (h : zH) (n jn rn j : Nat) (v : Int) : Bool := decide (h 82 j ≠ v) && isRM h n jn rn (handM h j v)
def hdM (h : zH) (n jn rn : Nat) : Nat → Bool := fun p => isHM h n jn rn (p / 13) ((p % 13 : Nat) : Int)
def rdM (h : zH) (rn : Nat) : Prop := h 64 36 = (rn : Int) ∧ rn ≤ 8 ∧ (∀ i, i < rn → 1 ≤ h 92 i ∧ h 92 i ≤ 20) ∧ ∀ i, i < rn → 0 ≤ h 93 i ∧ h 93 i ≤ 4
theorem rdM_q {h h1 : zH} {rn : Nat} (e92 : h1 92 = h 92) (e93 : h1 93 = h 93) (e36 : h1 64 36 = h 64 36) (hr : rdM h rn) : rdM h1 rn := by
  unfold rdM; rw [e92, e93, e36]; exact hr
theorem ite01 {b : Bool} {w : Int} (hw : w = if b = true then 1 else 0) (h : w ≠ 0) : b = true := by
  cases b
  · exact absurd (hw.trans rfl) h
  · rfl
theorem ite00 {b : Bool} {w : Int} (hw : w = if b = true then 1 else 0) (h : w = 0) : b = false := by
  cases b
  · rfl
  · rw [h] at hw; exact absurd hw (by decide)
theorem put82_in {h h2 h3 : zH} {n jn : Nat} {F : Nat → Int} (hm : mInv h n jn) (hq : mq h (zst h2 82 (h 82))) (e3 : ∀ c2 : Nat, c2 ≠ 82 → h3 c2 = h2 c2) (aF : agn 8 (h3 82) F) (rF : ∀ j, j < jn → 0 ≤ F j ∧ F j ≤ 12) : mInv h3 n jn ∧ ∀ k, 1 ≤ k → LT h3 n jn k = vM h n jn (gHa (gM h) F) k := by
  obtain ⟨q1, q2, q3⟩ := hq
  have hn := hm.1.1.1
  have hjn := hm.1.1.2.1
  have a78 : agn 8 (h2 78) (h 78) := by have := q2 78 (by omega); rw [zst_ne (by decide)] at this; exact this
  have a80 : agn 8 (h2 80) (h 80) := by have := q2 80 (by omega); rw [zst_ne (by decide)] at this; exact this
  have a81 : agn 8 (h2 81) (h 81) := by have := q2 81 (by omega); rw [zst_ne (by decide)] at this; exact this
  have e32 : h2 64 32 = h 64 32 := by have := q3 32 (by unfold stf; omega); rw [zst_ne (by decide)] at this; exact this
  have e33 : h2 64 33 = h 64 33 := by have := q3 33 (by unfold stf; omega); rw [zst_ne (by decide)] at this; exact this
  obtain ⟨m1, ⟨d1, d2, d3, d4, d5, d6⟩, m3⟩ := id hm
  obtain ⟨i3, g3⟩ := mInv_put hm (h2 := h3) (fun c2 hc => by have := q1 c2 (by omega); rw [zst_ne (by omega)] at this; rw [e3 c2 (by omega)]; exact this) (by rw [e3 64 (by decide)]; exact e32) (fun l hl => by rw [e3 80 (by decide), a80 l (by omega)]; exact d1 l hl) (fun j hj => by rw [e3 78 (by decide), a78 j (by omega)]; exact d2 j hj) (fun j hj => by rw [aF j (by omega)]; exact rF j hj) (fun s hs => by rw [e3 81 (by decide), a81 s (by omega)]; exact d4 s hs) (by rw [e3 64 (by decide), e33]; exact d5)
  refine ⟨i3, fun k hk => ?_⟩
  have hg : gag n jn (gM h3) (gHa (gM h) F) := by
    rw [g3]
    exact ⟨by rw [e3 81 (by decide)]; exact agn_le hjn a81, agn_le hjn aF, by rw [e3 78 (by decide)]; exact agn_le hjn a78, by rw [e3 64 (by decide)]; exact e33, agn_rfl _ _, agn_rfl _ _, rfl⟩
  have := ((runG_congr hg i3.2.1.2.2.2.1 (ca := h 64 32) (x := (h3 80, 0, 0, fun _ => 0)) (y := (h 80, 0, 0, fun _ => 0)) (by rw [show h3 80 = h2 80 from e3 80 (by decide)]; exact agn_le hn a80) k).2 hk).1
  unfold LT RM vM
  rw [e3 64 (by decide), e32]
  exact this
theorem LT_q {h h2 : zH} {n jn : Nat} (hm : mInv h n jn) (hq : mq h h2) : ∀ k, 1 ≤ k → LT h2 n jn k = vM h n jn (gM h) k := by
  obtain ⟨i1, i2, i3, i4, i5⟩ := mq_inv hq hm.1 hm.2.1
  intro k hk
  unfold LT RM vM
  rw [i4]
  exact ((runG_congr i3 i2.2.2.2.1 (x := (h2 80, 0, 0, fun _ => 0)) (y := (h 80, 0, 0, fun _ => 0)) i5 k).2 hk).1
def tfI (h : zH) (n jn rn m : Nat) (h2 : zH) : Prop := h2 64 55 = cntB (hdM h n jn rn) m ∧ ∀ p, p < m → hdM h n jn rn p = true → h2 95 (cntB (hdM h n jn rn) p).toNat = 100 * ((p / 13 : Nat) : Int) + ((p % 13 : Nat) : Int)
theorem tfI_n {h h2 h3 : zH} {n jn rn m : Nat} (t : tfI h n jn rn m h2) (e1 : h3 64 55 = h2 64 55) (e2 : h3 95 = h2 95) (hb : hdM h n jn rn m = false) : tfI h n jn rn (m + 1) h3 := by
  refine ⟨by rw [e1, cntB_s, hb]; exact t.1, fun p hp hh => ?_⟩
  rw [e2]
  by_cases e : p = m
  · subst e; rw [hb] at hh; cases hh
  · exact t.2 p (by omega) hh
theorem cntB_mono (b : Nat → Bool) : ∀ k m, cntB b m ≤ cntB b (m + k) := by
  intro k
  induction k with
  | zero => intro m; exact Int.le_refl _
  | succ k ih => intro m; show cntB b m ≤ cntB b (m + k + 1); rw [cntB_s]; have := ih m; split <;> omega
theorem cntB_lt {b : Nat → Bool} {p m : Nat} (hp : p < m) (hb : b p = true) : cntB b p < cntB b m := by
  have := cntB_mono b (m - (p + 1)) (p + 1)
  rw [show p + 1 + (m - (p + 1)) = m by omega, cntB_s, if_pos hb] at this
  omega
theorem tfI_y {h h2 : zH} {n jn rn m : Nat} {v : Int} (t : tfI h n jn rn m h2) (hb : hdM h n jn rn m = true) (hv : v = 100 * ((m / 13 : Nat) : Int) + ((m % 13 : Nat) : Int)) : tfI h n jn rn (m + 1) (zup (zup h2 95 (cntB (hdM h n jn rn) m).toNat v) 64 55 (cntB (hdM h n jn rn) m + 1)) := by
  refine ⟨by rw [zup_at, if_pos rfl, cntB_s, if_pos hb], fun p hp hh => ?_⟩
  rw [zup_fn (by decide), zup_at]
  by_cases e : p = m
  · rw [e, if_pos rfl]; exact hv
  · have h1 := cntB_lt (show p < m by omega) hh
    have h2 := cntB_lo (hdM h n jn rn) p
    rw [if_neg (by omega)]
    exact t.2 p (by omega) hh
theorem cntB_ex {b : Nat → Bool} : ∀ m (i : Int), 0 ≤ i → i < cntB b m → ∃ p, p < m ∧ b p = true ∧ cntB b p = i := by
  intro m
  induction m with
  | zero => intro i h1 h2; exact absurd h2 (by show ¬ i < 0; omega)
  | succ m ih =>
    intro i h1 h2
    rw [cntB_s] at h2
    by_cases e : i < cntB b m
    · obtain ⟨p, a, c, d⟩ := ih i h1 e; exact ⟨p, by omega, c, d⟩
    · split at h2
      · rename_i e2; exact ⟨m, by omega, e2, by omega⟩
      · omega
theorem cntB_fst {b : Nat → Bool} : ∀ m s, (∀ p, p < s → b p = false) → (∃ p, s ≤ p ∧ p < s + m ∧ b p = true) → ∃ p : Nat, fstB b s m = (p : Int) ∧ p < s + m ∧ b p = true ∧ cntB b p = 0 := by
  have z : ∀ s, (∀ p, p < s → b p = false) → cntB b s = 0 := by
    intro s
    induction s with
    | zero => intro _; rfl
    | succ s ih => intro hh; rw [cntB_s, hh s (by omega)]; exact ih (fun p hp => hh p (by omega))
  intro m
  induction m with
  | zero => rintro s - ⟨p, a, c, -⟩; omega
  | succ m ih =>
    intro s h1 h2
    rw [fstB_s]
    by_cases e : b s = true
    · rw [if_pos e]; exact ⟨s, rfl, by omega, e, z s h1⟩
    · rw [if_neg e]
      obtain ⟨p, a, c, d⟩ := h2
      have hne : p ≠ s := fun zz => e (zz ▸ d)
      obtain ⟨p2, b1, b2, b3, b4⟩ := ih (s + 1) (fun p hp => by
        by_cases e3 : p = s
        · rw [e3]; exact Bool.eq_false_iff.mpr e
        · exact h1 p (by omega)) ⟨p, by omega, by omega, d⟩
      exact ⟨p2, b1, by omega, b3, b4⟩
theorem cntB_none {b : Nat → Bool} : ∀ m s, (∀ p, s ≤ p → p < s + m → b p = false) → fstB b s m = -1 := by
  intro m
  induction m with
  | zero => intro _ _; rfl
  | succ m ih => intro s hh; rw [fstB_s, if_neg (by rw [hh s (Nat.le_refl _) (by omega)]; decide)]; exact ih (s + 1) (fun p a c => hh p (by omega) (by omega))
theorem cntB_0 {b : Nat → Bool} {m : Nat} (h : cntB b m = 0) : ∀ p, p < m → b p = false := fun p hp => Bool.eq_false_iff.mpr (fun z => by have := cntB_lt hp z; have := (cntB_lo b p).1; omega)

set_option maxRecDepth 100000 in
theorem c6_isAsRead {E : zE} {h : zH} {n jn rn : Nat} (d k : Nat) (hd : 8 ≤ d) (hm : mInv h n jn) (hr : rdM h rn) : zCal E mX6_isAsRead d k [zrv E 64] h (fun r h' => r = some (ziv (if asR (LT h n jn) (h 92) (h 93) rn 20 = true then 1 else 0)) ∧ mq h h' ∧ h' 64 4 = h 64 4 ∧ (∀ c2 : Nat, c2 ≠ 64 → c2 ≠ 80 → c2 ≠ 81 → c2 ≠ 82 → c2 ≠ 84 → c2 ≠ 85 → c2 ≠ 86 → c2 ≠ 94 → h' c2 = h c2) ∧ ∀ j, j ≠ 37 → h' 64 j = h 64 j) (fun _ _ => False) := by
  refine zCal_of (by decide) (Nat.le_of_ble_eq_true rfl) (fun a => ?_)
  show zV _ 0 0 [zrv E 64, .null, .null, .null] [] _
  obtain ⟨r36, r8, rc, rv⟩ := hr
  refine zV_aload_nr dX6_isAsRead_0 rfl rfl ?_
  refine zV_aload_nr dX6_isAsRead_1 rfl rfl ?_
  refine gf6_124 rfl (rfl) dX6_isAsRead_2 ?_
  refine zV_teq (w := zrv E 94) rfl ?_
  refine zV_iconst dX6_isAsRead_5 ?_
  refine zV_callV (As := [zrv E 94, ziv ((0 : Nat) : Int)]) lk6_372 (rfl) rfl rfl (c6_pack (c := 94) (N := 27) (f := 0) (d - 1) 0 zsh94 (by decide) scr94 (by decide)) ⟨by show _ + 1 ≤ d; omega, by show _ ≤ k; omega⟩ rfl (Nat.le_of_ble_eq_true rfl) dX6_isAsRead_6 (fun _ _ z => z.elim) (fun r h1 q => ?_)
  obtain ⟨rfl, pk⟩ := q
  obtain ⟨ct1, dy1, ⟨gm1, e80, e64, e81⟩, rr1⟩ := mpk_inv (Or.inr rfl) pk hm.1 hm.2.1
  refine zV_iconst dX6_isAsRead_9 ?_
  refine zV_istore_n dX6_isAsRead_10 rfl (Nat.le_of_ble_eq_true rfl) rfl ?_
  refine zV_iconst dX6_isAsRead_11 ?_
  refine zV_istore_n dX6_isAsRead_12 rfl (Nat.le_of_ble_eq_true rfl) rfl ?_
  have L13 : ∀ (m : Nat) (s : Nat) (w : Int) (h2 : zH), (22 ≤ s + m) → (1 ≤ s ∧ s ≤ 21) → (mrun h1 n jn (s - 1) h2) → (mFr h1 h2) → (w = if asR (LT h n jn) (h 92) (h 93) rn (s - 1) = true then 1 else 0) → zV (E, mX6_isAsRead, d, k, (fun r h' => r = some (ziv (if asR (LT h n jn) (h 92) (h 93) rn 20 = true then 1 else 0)) ∧ mq h h' ∧ h' 64 4 = h 64 4 ∧ (∀ c2 : Nat, c2 ≠ 64 → c2 ≠ 80 → c2 ≠ 81 → c2 ≠ 82 → c2 ≠ 84 → c2 ≠ 85 → c2 ≠ 86 → c2 ≠ 94 → h' c2 = h c2) ∧ ∀ j, j ≠ 37 → h' 64 j = h 64 j), (fun _ _ => False), a) 0 13 [zrv E 64, ziv w, ziv (s : Int), .null] [] h2 := by
    intro m
    induction m with
    | zero => intro s w h2 hm_ hs ru fr hw; exfalso; omega
    | succ m ih =>
      intro s w h2 hm_ hs ru fr hw
      refine zV_iload_n dX6_isAsRead_13 rfl rfl ?_
      refine zV_bipush dX6_isAsRead_14 (by decide) ?_
      refine zR_icmp_gt (tgt := 82) dX6_isAsRead_16 (by decide) (by omega) (by omega) (fun h16 => ?_) (fun h16 => ?_)
      · refine zV_aload_nr dX6_isAsRead_82 rfl rfl ?_
        refine zV_aload_nr dX6_isAsRead_83 rfl rfl ?_
        refine gf6_124 rfl (rfl) dX6_isAsRead_84 ?_
        refine zV_teq (w := zrv E 94) rfl ?_
        refine zV_iconst dX6_isAsRead_87 ?_
        refine zV_callV (As := [zrv E 94, ziv ((0 : Nat) : Int)]) lk6_376 (rfl) rfl rfl (c6_unpack (c := 94) (N := 27) (f := 0) (d - 1) 0 zsh94 (by decide) scr94 (by decide)) ⟨by show _ + 1 ≤ d; omega, by show _ ≤ k; omega⟩ rfl (Nat.le_of_ble_eq_true rfl) dX6_isAsRead_88 (fun _ _ z => z.elim) (fun r h4 q => ?_)
        obtain ⟨rfl, up⟩ := q
        refine zV_iload_n dX6_isAsRead_91 rfl rfl ?_
        exact zV_zreturn dX6_isAsRead_92 rfl (by rw [hw]; split; exact Or.inr rfl; exact Or.inl rfl) (Nat.zero_le _) ⟨by rw [hw, show s - 1 = 20 by omega], mq_run (Or.inr rfl) pk ru.1 up, mq_run4 (Or.inr rfl) pk ru.1 up, fun c2 a1 a2 a3 a4 a5 a6 a7 a8 => by rw [up.1 c2 a1 a2 a3 a4, fr.1 c2 a1 a2 a5 a6 a7, pk.1 c2 a8], fun j hj => by
            by_cases e : stf j
            · exact (mq_run (Or.inr rfl) pk ru.1 up).2.2 j e
            · rw [up.2.1 j (fun z => e (by unfold stf; omega)) (fun z => e (by unfold stf; omega)) (fun z => e (by unfold stf; omega)), fr.2 j (fun z => e (by unfold stf; omega)) (fun z => e (by unfold stf; omega)) hj, e64]⟩
      · refine zV_iload_n dX6_isAsRead_19 rfl rfl ?_
        refine zR_if_eq (tgt := 82) dX6_isAsRead_20 (by decide) (by rw [hw]; split <;> omega) (fun h20 => ?_) (fun h20 => ?_)
        · refine zV_aload_nr dX6_isAsRead_82 rfl rfl ?_
          refine zV_aload_nr dX6_isAsRead_83 rfl rfl ?_
          refine gf6_124 rfl (rfl) dX6_isAsRead_84 ?_
          refine zV_teq (w := zrv E 94) rfl ?_
          refine zV_iconst dX6_isAsRead_87 ?_
          refine zV_callV (As := [zrv E 94, ziv ((0 : Nat) : Int)]) lk6_376 (rfl) rfl rfl (c6_unpack (c := 94) (N := 27) (f := 0) (d - 1) 0 zsh94 (by decide) scr94 (by decide)) ⟨by show _ + 1 ≤ d; omega, by show _ ≤ k; omega⟩ rfl (Nat.le_of_ble_eq_true rfl) dX6_isAsRead_88 (fun _ _ z => z.elim) (fun r h4 q => ?_)
          obtain ⟨rfl, up⟩ := q
          refine zV_iload_n dX6_isAsRead_91 rfl rfl ?_
          exact zV_zreturn dX6_isAsRead_92 rfl (by rw [hw]; split; exact Or.inr rfl; exact Or.inl rfl) (Nat.zero_le _) ⟨by
              have hf := asR_f (ite00 hw h20) (20 - (s - 1))
              rw [show s - 1 + (20 - (s - 1)) = 20 by omega] at hf
              rw [h20, hf]; rfl, mq_run (Or.inr rfl) pk ru.1 up, mq_run4 (Or.inr rfl) pk ru.1 up, fun c2 a1 a2 a3 a4 a5 a6 a7 a8 => by rw [up.1 c2 a1 a2 a3 a4, fr.1 c2 a1 a2 a5 a6 a7, pk.1 c2 a8], fun j hj => by
              by_cases e : stf j
              · exact (mq_run (Or.inr rfl) pk ru.1 up).2.2 j e
              · rw [up.2.1 j (fun z => e (by unfold stf; omega)) (fun z => e (by unfold stf; omega)) (fun z => e (by unfold stf; omega)), fr.2 j (fun z => e (by unfold stf; omega)) (fun z => e (by unfold stf; omega)) hj, e64]⟩
        · refine zV_aload_nr dX6_isAsRead_23 rfl rfl ?_
          refine zV_callV (As := []) lk6_369 (rfl) rfl rfl (c6_aCase (n := n) (jn := jn) (d - 1) 0 (by omega) ru.2.2.2.2.2 ru.2.2.2.2.1) ⟨by show _ + 1 ≤ d; omega, by show _ ≤ k; omega⟩ rfl (Nat.le_of_ble_eq_true rfl) dX6_isAsRead_24 (fun _ _ z => z.elim) (fun r h3 q => ?_)
          obtain ⟨rfl, q⟩ := q
          have ru3 : mrun h1 n jn s h3 := by
            have := mrun_s ct1 (by rw [e64]; have := hm.2.2; omega) ru q
            rw [show s - 1 + 1 = s by omega] at this
            exact this
          have fr3 := mFr_trans fr q.1
          have lt3 : h3 64 34 = LT h n jn s := by
            have := (ru3.2.2.1 (by omega)).1
            rw [rr1] at this
            exact this
          have lo3 := (RM_lo hm s).2 (by omega)
          have e36 : h3 64 36 = (rn : Int) := by rw [fr3.2 36 (by decide) (by decide) (by decide), e64]; exact r36
          have e92 : h3 92 = h 92 := by rw [fr3.1 92 (by decide) (by decide) (by decide) (by decide) (by decide), pk.1 92 (by decide)]
          have e93 : h3 93 = h 93 := by rw [fr3.1 93 (by decide) (by decide) (by decide) (by decide) (by decide), pk.1 93 (by decide)]
          refine zV_iconst dX6_isAsRead_27 ?_
          refine zV_istore_n dX6_isAsRead_28 rfl (Nat.le_of_ble_eq_true rfl) rfl ?_
          have L29 : ∀ (m2 : Nat) (i : Nat) (w2 : Int), (rn + 1 ≤ i + m2) → (i ≤ rn) → (w2 = if couldB (h 92) (h 93) ((s : Nat) : Int) (LT h n jn s) i = true then 1 else 0) → zV (E, mX6_isAsRead, d, k, (fun r h' => r = some (ziv (if asR (LT h n jn) (h 92) (h 93) rn 20 = true then 1 else 0)) ∧ mq h h' ∧ h' 64 4 = h 64 4 ∧ (∀ c2 : Nat, c2 ≠ 64 → c2 ≠ 80 → c2 ≠ 81 → c2 ≠ 82 → c2 ≠ 84 → c2 ≠ 85 → c2 ≠ 86 → c2 ≠ 94 → h' c2 = h c2) ∧ ∀ j, j ≠ 37 → h' 64 j = h 64 j), (fun _ _ => False), a) 0 29 [zrv E 64, ziv w2, ziv (s : Int), ziv (i : Int)] [] h3 := by
            intro m2
            induction m2 with
            | zero => intro i w2 hm_ hi hw2; exfalso; omega
            | succ m2 ih2 =>
              intro i w2 hm_ hi hw2
              refine zV_iload_n dX6_isAsRead_29 rfl rfl ?_
              refine zV_aload_nr dX6_isAsRead_30 rfl rfl ?_
              refine gf6_319 rfl rfl dX6_isAsRead_31 ?_
              rw [e36]
              refine zR_icmp_ge (tgt := 76) dX6_isAsRead_34 (by decide) (by omega) (by omega) (fun h34 => ?_) (fun h34 => ?_)
              · refine zV_iinc dX6_isAsRead_76 rfl (Nat.le_of_ble_eq_true rfl) rfl ?_
                refine zV_goto (tgt := 13) dX6_isAsRead_79 (by decide) ?_
                refine zV_drop 3 ?_
                exact ih (s + 1) w2 h3 (by omega) (by omega) ru3 fr3 (by rw [hw2, show s + 1 - 1 = s - 1 + 1 by omega, asR_s, ite01 hw h20, show i = rn by omega, show s - 1 + 1 = s by omega]; rfl)
              · refine zV_iload_n dX6_isAsRead_37 rfl rfl ?_
                have J69 : ∀ (w3 : Int), (w3 = if couldB (h 92) (h 93) ((s : Nat) : Int) (LT h n jn s) (i + 1) = true then 1 else 0) → zV (E, mX6_isAsRead, d, k, (fun r h' => r = some (ziv (if asR (LT h n jn) (h 92) (h 93) rn 20 = true then 1 else 0)) ∧ mq h h' ∧ h' 64 4 = h 64 4 ∧ (∀ c2 : Nat, c2 ≠ 64 → c2 ≠ 80 → c2 ≠ 81 → c2 ≠ 82 → c2 ≠ 84 → c2 ≠ 85 → c2 ≠ 86 → c2 ≠ 94 → h' c2 = h c2) ∧ ∀ j, j ≠ 37 → h' 64 j = h 64 j), (fun _ _ => False), a) 0 69 [zrv E 64, ziv w2, ziv (s : Int), ziv (i : Int)] [ziv w3] h3 := by
                  intro w3 hw3
                  refine zV_istore_n dX6_isAsRead_69 rfl (Nat.le_of_ble_eq_true rfl) rfl ?_
                  refine zV_iinc dX6_isAsRead_70 rfl (Nat.le_of_ble_eq_true rfl) rfl ?_
                  refine zV_goto (tgt := 29) dX6_isAsRead_73 (by decide) ?_
                  exact ih2 (i + 1) w3 (by omega) (by omega) hw3
                refine zR_if_eq (tgt := 68) dX6_isAsRead_38 (by decide) (by rw [hw2]; split <;> omega) (fun h38 => ?_) (fun h38 => ?_)
                · refine zV_iconst dX6_isAsRead_68 ?_
                  exact J69 0 (by rw [couldB_s, ite00 hw2 h38]; rfl)
                · refine zV_aload_nr dX6_isAsRead_41 rfl rfl ?_
                  refine gf6_118 rfl (rfl) dX6_isAsRead_42 ?_
                  refine zV_teq (w := zrv E 92) rfl ?_
                  refine zV_iload_n dX6_isAsRead_45 rfl rfl ?_
                  refine zV_ialoadN (i := i) (N := 8) (rfl) (by omega) (by decide) dX6_isAsRead_46 ?_
                  rw [e92]
                  have c1 := rc i (by omega)
                  refine zV_iload_n dX6_isAsRead_47 rfl rfl ?_
                  refine zR_icmp_ne (tgt := 64) dX6_isAsRead_48 (by decide) (by omega) (by omega) (fun h48 => ?_) (fun h48 => ?_)
                  · refine zV_iconst dX6_isAsRead_64 ?_
                    refine zV_goto (tgt := 69) dX6_isAsRead_65 (by decide) ?_
                    exact J69 1 (by rw [couldB_s, ite01 hw2 h38, decide_eq_false h48]; rfl)
                  · refine zV_aload_nr dX6_isAsRead_51 rfl rfl ?_
                    refine gf6_121 rfl (rfl) dX6_isAsRead_52 ?_
                    refine zV_teq (w := zrv E 93) rfl ?_
                    refine zV_iload_n dX6_isAsRead_55 rfl rfl ?_
                    refine zV_ialoadN (i := i) (N := 8) (rfl) (by omega) (by decide) dX6_isAsRead_56 ?_
                    rw [e93]
                    have c2 := rv i (by omega)
                    refine zV_aload_nr dX6_isAsRead_57 rfl rfl ?_
                    refine gf6_154 rfl rfl dX6_isAsRead_58 ?_
                    rw [lt3]
                    refine zR_icmp_ne (tgt := 68) dX6_isAsRead_61 (by decide) (by omega) (by unfold LT; omega) (fun h61 => ?_) (fun h61 => ?_)
                    · refine zV_iconst dX6_isAsRead_68 ?_
                      exact J69 0 (by rw [couldB_s, decide_eq_true h48, decide_eq_true (show h 93 i ≠ LT h n jn s from h61)]; simp)
                    · refine zV_iconst dX6_isAsRead_64 ?_
                      refine zV_goto (tgt := 69) dX6_isAsRead_65 (by decide) ?_
                      exact J69 1 (by rw [couldB_s, ite01 hw2 h38, decide_eq_true h48, decide_eq_false (fun z => z h61)]; rfl)
          refine zV_lveq (lv' := [zrv E 64, ziv 1, ziv (s : Int), ziv 0]) (by rw [hw, if_pos (ite01 hw h20)]; rfl) ?_
          exact L29 (rn + 1) 0 1 (by omega) (by omega) rfl
  exact L13 21 1 1 h1 (by omega) (by omega) (mrun_0 ct1 dy1) (mFr_rfl h1) rfl
set_option maxRecDepth 100000 in
theorem c6_tellFits {E : zE} {h : zH} {n jn rn : Nat} (d k : Nat) (hd : 9 ≤ d) (hm : mInv h n jn) (hr : rdM h rn) : zCal E mX6_tellFits d k [zrv E 64] h (fun r h' => r = none ∧ mq h h' ∧ h' 64 4 = h 64 4 ∧ tfI h n jn rn (13 * jn) h') (fun _ _ => False) := by
  refine zCal_of (by decide) (Nat.le_of_ble_eq_true rfl) (fun a => ?_)
  show zV _ 0 0 [zrv E 64, .null, .null, .null] [] _
  have j8 := hm.1.1.2.1
  refine zV_aload_nr dX6_tellFits_0 rfl rfl ?_
  refine zV_iconst dX6_tellFits_1 ?_
  refine pf6_461 rfl (rfl) dX6_tellFits_2 ?_
  refine zV_iconst dX6_tellFits_5 ?_
  refine zV_istore_n dX6_tellFits_6 rfl (Nat.le_of_ble_eq_true rfl) rfl ?_
  have L7 : ∀ (m : Nat) (j : Nat) (h2 : zH), (jn + 1 ≤ j + m) → (j ≤ jn) → (mq h h2) → (h2 64 4 = h 64 4) → (tfI h n jn rn (13 * j) h2) → zV (E, mX6_tellFits, d, k, (fun r h' => r = none ∧ mq h h' ∧ h' 64 4 = h 64 4 ∧ tfI h n jn rn (13 * jn) h'), (fun _ _ => False), a) 0 7 [zrv E 64, ziv (j : Int), .null, .null] [] h2 := by
    intro m
    induction m with
    | zero => intro j h2 hm_ hj mq2 z2 tf2; exfalso; omega
    | succ m ih =>
      intro j h2 hm_ hj mq2 z2 tf2
      refine zV_iload_n dX6_tellFits_7 rfl rfl ?_
      refine zV_aload_nr dX6_tellFits_8 rfl rfl ?_
      refine gf6_42 rfl (rfl) dX6_tellFits_9 ?_
      refine zV_teq (w := zrv E 68) rfl ?_
      refine zV_iconst dX6_tellFits_12 ?_
      refine zV_ialoadN (i := 1) (N := 10) (rfl) (by decide) (by decide) dX6_tellFits_13 ?_
      refine zV_teq (w := ziv (jn : Int)) (congrArg ziv (by rw [mq2.1 68 (by omega)]; exact hm.1.1.2.2.2.symm)) ?_
      refine zR_icmp_ge (tgt := 98) dX6_tellFits_14 (by decide) (by omega) (by omega) (fun h14 => ?_) (fun h14 => ?_)
      · exact zV_vreturn dX6_tellFits_98 rfl (Nat.zero_le _) ⟨rfl, mq2, z2, by rw [show 13 * jn = 13 * j by omega]; exact tf2⟩
      · refine zV_aload_nr dX6_tellFits_17 rfl rfl ?_
        refine gf6_88 rfl (rfl) dX6_tellFits_18 ?_
        refine zV_teq (w := zrv E 82) rfl ?_
        refine zV_iload_n dX6_tellFits_21 rfl rfl ?_
        refine zV_ialoadN (i := j) (N := 8) (rfl) (by omega) (by decide) dX6_tellFits_22 ?_
        rw [mq2.2.1 82 (by omega) j (by omega)]
        refine zV_istore_n dX6_tellFits_23 rfl (Nat.le_of_ble_eq_true rfl) rfl ?_
        refine zV_iconst dX6_tellFits_24 ?_
        refine zV_istore_n dX6_tellFits_25 rfl (Nat.le_of_ble_eq_true rfl) rfl ?_
        have L26 : ∀ (m2 : Nat) (v : Nat) (h3 : zH), (14 ≤ v + m2) → (v ≤ 13) → (mq h (zst h3 82 (h 82))) → (∃ w, agn 8 (h3 82) (setF (h 82) j w)) → (h3 64 4 = h 64 4) → (tfI h n jn rn (13 * j + v) h3) → zV (E, mX6_tellFits, d, k, (fun r h' => r = none ∧ mq h h' ∧ h' 64 4 = h 64 4 ∧ tfI h n jn rn (13 * jn) h'), (fun _ _ => False), a) 0 26 [zrv E 64, ziv (j : Int), ziv (h 82 j), ziv (v : Int)] [] h3 := by
          intro m2
          induction m2 with
          | zero => intro v h3 hm_ hv q3 e3 z3 tf3; exfalso; omega
          | succ m2 ih2 =>
            intro v h3 hm_ hv q3 e3 z3 tf3
            refine zV_iload_n dX6_tellFits_26 rfl rfl ?_
            refine zV_bipush dX6_tellFits_27 (by decide) ?_
            refine zR_icmp_gt (tgt := 85) dX6_tellFits_29 (by decide) (by omega) (by omega) (fun h29 => ?_) (fun h29 => ?_)
            · refine zV_aload_nr dX6_tellFits_85 rfl rfl ?_
              refine gf6_88 rfl (rfl) dX6_tellFits_86 ?_
              refine zV_teq (w := zrv E 82) rfl ?_
              refine zV_iload_n dX6_tellFits_89 rfl rfl ?_
              refine zV_iload_n dX6_tellFits_90 rfl rfl ?_
              refine zV_iastore (N := 8) (rfl) (by omega) (by decide) dX6_tellFits_91 ?_
              refine zV_iinc dX6_tellFits_92 rfl (Nat.le_of_ble_eq_true rfl) rfl ?_
              refine zV_goto (tgt := 7) dX6_tellFits_95 (by decide) ?_
              refine zV_drop 2 ?_
              refine zV_drop 3 ?_
              exact ih (j + 1) _ (by omega) (by omega) (put_end (c := 82) (by omega) q3 (fun c2 hc => zup_fn hc) (by obtain ⟨w9, aw9⟩ := e3; have := setF_up (t := h 82 j) aw9; rw [setF_id] at this; exact this)) (by rw [zup_fn (by decide)]; exact z3) ⟨by rw [zup_fn (by decide), show 13 * (j + 1) = 13 * j + v by omega]; exact tf3.1, fun p hp hb => by rw [zup_fn (by decide)]; exact tf3.2 p (by omega) hb⟩
            · refine zV_aload_nr dX6_tellFits_32 rfl rfl ?_
              refine gf6_88 rfl (rfl) dX6_tellFits_33 ?_
              refine zV_teq (w := zrv E 82) rfl ?_
              refine zV_iload_n dX6_tellFits_36 rfl rfl ?_
              refine zV_iload_n dX6_tellFits_37 rfl rfl ?_
              refine zV_iastoreN (i := j) (N := 8) (rfl) (by omega) (by decide) dX6_tellFits_38 ?_
              obtain ⟨h4, hh4⟩ : ∃ h4, h4 = zup h3 82 j (v : Int) := ⟨_, rfl⟩
              rw [← hh4]
              obtain ⟨w9, aw9⟩ := e3
              have e4 : ∀ c2 : Nat, c2 ≠ 82 → h4 c2 = h3 c2 := fun c2 hc => by rw [hh4, zup_fn hc]
              have aF : agn 8 (h4 82) (setF (h 82) j (v : Int)) := by rw [hh4]; exact setF_up aw9
              have d3 := hm.2.1.2.2.1 j (by omega)
              obtain ⟨i4, lt4⟩ := put82_in hm q3 e4 aF (fun i hi => by unfold setF; have := hm.2.1.2.2.1 i hi; split <;> omega)
              have pd : (13 * j + v) / 13 = j ∧ (13 * j + v) % 13 = v := by omega
              have e92 : h4 92 = h 92 := by rw [e4 92 (by decide)]; have := q3.1 92 (by omega); rw [zst_ne (by decide)] at this; exact this
              have e93 : h4 93 = h 93 := by rw [e4 93 (by decide)]; have := q3.1 93 (by omega); rw [zst_ne (by decide)] at this; exact this
              have rd4 : rdM h4 rn := rdM_q e92 e93 (by rw [e4 64 (by decide)]; have := q3.2.2 36 (by unfold stf; omega); rw [zst_ne (by decide)] at this; exact this) hr
              have cl := cntB_lo (hdM h n jn rn) (13 * j + v)
              have z4 : h4 64 4 = h 64 4 := by rw [e4 64 (by decide)]; exact z3
              have e55 : h4 64 55 = h3 64 55 := by rw [e4 64 (by decide)]
              have e95 : h4 95 = h3 95 := e4 95 (by decide)
              refine zV_iload_n dX6_tellFits_39 rfl rfl ?_
              refine zV_iload_n dX6_tellFits_40 rfl rfl ?_
              refine zR_icmp_eq (tgt := 79) dX6_tellFits_41 (by decide) (by omega) (by omega) (fun h41 => ?_) (fun h41 => ?_)
              · refine zV_iinc dX6_tellFits_79 rfl (Nat.le_of_ble_eq_true rfl) rfl ?_
                refine zV_goto (tgt := 26) dX6_tellFits_82 (by decide) ?_
                have hb : hdM h n jn rn (13 * j + v) = false := by unfold hdM isHM; rw [pd.1, pd.2]; rw [decide_eq_false (fun z => z h41.symm)]; rfl
                refine ih2 (v + 1) h4 (by omega) (by omega) (put_out (by omega) q3 e4 aF (mq_rfl h4)).1 ⟨_, aF⟩ z4 (tfI_n tf3 e55 e95 hb)
              · refine zV_aload_nr dX6_tellFits_44 rfl rfl ?_
                refine zV_callV (As := []) lk6_464 (rfl) rfl rfl (c6_isAsRead (n := n) (jn := jn) (rn := rn) (d - 1) 0 (by omega) i4 rd4) ⟨by show _ + 1 ≤ d; omega, by show _ ≤ k; omega⟩ rfl (Nat.le_of_ble_eq_true rfl) dX6_tellFits_45 (fun _ _ z => z.elim) (fun r h5 q => ?_)
                obtain ⟨rfl, mq5, z5, f5, g5⟩ := q
                obtain ⟨q6, a6⟩ := put_out (by omega) q3 e4 aF mq5
                have as5 : asR (LT h4 n jn) (h4 92) (h4 93) rn 20 = isRM h n jn rn (handM h j (v : Int)) := by rw [e92, e93]; exact asR_congr 20 (fun k a b => lt4 k a)
                refine zR_if_ne (tgt := 54) dX6_tellFits_48 (by decide) (by split <;> omega) (fun h48 => ?_) (fun h48 => ?_)
                · refine zV_aload_nr dX6_tellFits_54 rfl rfl ?_
                  refine gf6_127 rfl (rfl) dX6_tellFits_55 ?_
                  refine zV_teq (w := zrv E 95) rfl ?_
                  refine zV_aload_nr dX6_tellFits_58 rfl rfl ?_
                  refine gf6_461 rfl rfl dX6_tellFits_59 ?_
                  rw [g5 55 (by decide), e55, tf3.1]
                  refine zV_bipush dX6_tellFits_62 (by decide) ?_
                  refine zV_iload_n dX6_tellFits_64 rfl rfl ?_
                  refine zV_imul dX6_tellFits_65 ?_
                  refine zV_iload_n dX6_tellFits_66 rfl rfl ?_
                  refine zV_iadd dX6_tellFits_67 ?_
                  refine zV_iastore (N := 104) (rfl) (by omega) (by decide) dX6_tellFits_68 ?_
                  refine zV_aload_nr dX6_tellFits_69 rfl rfl ?_
                  refine zV_dup dX6_tellFits_70 rfl ?_
                  refine gf6_461 rfl rfl dX6_tellFits_71 ?_
                  refine zV_teq (w := ziv (cntB (hdM h n jn rn) (13 * j + v))) (congrArg ziv (by rw [zup_fn (by decide), g5 55 (by decide), e55, tf3.1])) ?_
                  refine zV_iconst dX6_tellFits_74 ?_
                  refine zV_iadd dX6_tellFits_75 ?_
                  refine pf6_461 rfl (rfl) dX6_tellFits_76 ?_
                  refine zV_iinc dX6_tellFits_79 rfl (Nat.le_of_ble_eq_true rfl) rfl ?_
                  refine zV_goto (tgt := 26) dX6_tellFits_82 (by decide) ?_
                  have hb : hdM h n jn rn (13 * j + v) = true := by unfold hdM isHM; rw [pd.1, pd.2, ← as5, ite01 rfl h48, decide_eq_true (show h 82 j ≠ (v : Int) from fun z => h41 z.symm)]; rfl
                  have tf5 : tfI h n jn rn (13 * j + v) h5 := ⟨by rw [g5 55 (by decide), e55]; exact tf3.1, by rw [f5 95 (by decide) (by decide) (by decide) (by decide) (by decide) (by decide) (by decide) (by decide), e95]; exact tf3.2⟩
                  refine ih2 (v + 1) _ (by omega) (by omega) ?_ ⟨(v : Int), ?_⟩ (by rw [zup_at, if_neg (by decide), zup_fn (by decide)]; exact z5.trans z4) (tfI_y (m := 13 * j + v) tf5 hb (by rw [pd.1, pd.2]))
                  · refine mq_trans q6 ⟨fun c2 hc => ?_, fun c2 hc => ?_, fun j2 hj2 => ?_⟩
                    · rw [zst_ne (by omega), zst_ne (by omega), zup_fn (by omega), zup_fn (by omega)]
                    · by_cases e : c2 = 82
                      · subst e; rw [zst_same, zst_same]; exact agn_rfl _ _
                      · rw [zst_ne e, zst_ne e, zup_fn (by omega), zup_fn (by omega)]; exact agn_rfl _ _
                    · rw [zst_ne (by decide), zst_ne (by decide), zup_at, if_neg (by unfold stf at hj2; omega), zup_fn (by decide)]
                  · rw [zup_fn (by decide), zup_fn (by decide)]; exact a6
                · refine zV_goto (tgt := 79) dX6_tellFits_51 (by decide) ?_
                  refine zV_iinc dX6_tellFits_79 rfl (Nat.le_of_ble_eq_true rfl) rfl ?_
                  refine zV_goto (tgt := 26) dX6_tellFits_82 (by decide) ?_
                  have hb : hdM h n jn rn (13 * j + v) = false := by unfold hdM isHM; rw [pd.1, pd.2]; rw [← as5, ite00 rfl h48, Bool.and_false]
                  refine ih2 (v + 1) h5 (by omega) (by omega) q6 ⟨_, a6⟩ (z5.trans z4) (tfI_n tf3 ((g5 55 (by decide)).trans e55) ((f5 95 (by decide) (by decide) (by decide) (by decide) (by decide) (by decide) (by decide) (by decide)).trans e95) hb)
        exact L26 14 0 h2 (by omega) (by omega) (put_0 (by omega) mq2) ⟨h 82 j, by rw [setF_id]; exact mq2.2.1 82 (by omega)⟩ z2 tf2
  exact L7 (jn + 1) 0 _ (by omega) (by omega) ⟨fun c2 hc => zup_fn (by omega), fun c2 hc => by rw [zup_fn (by omega)]; exact agn_rfl _ _, fun j hj => by rw [zup_at, if_neg (by unfold stf at hj; omega)]⟩ (by rw [zup_at, if_neg (by decide)]) ⟨by rw [zup_at, if_pos rfl]; rfl, fun p hp => absurd hp (Nat.not_lt_zero p)⟩
theorem hdM_c {h h0 : zH} {n jn rn : Nat} (e0 : ∀ c2 : Nat, c2 ≠ 64 → h0 c2 = h c2) (e4 : ∀ j, j ≠ 4 → h0 64 j = h 64 j) (g0 : gM h0 = gM h) : hdM h0 n jn rn = hdM h n jn rn ∧ isRM h0 n jn rn (gM h0) = isRM h n jn rn (gM h) := by
  have e : ∀ g, vM h0 n jn g = vM h n jn g := fun g => by funext k; unfold vM; rw [e4 32 (by decide), e0 80 (by decide)]
  have e2 : ∀ g, isRM h0 n jn rn g = isRM h n jn rn g := fun g => by unfold isRM; rw [e, e0 92 (by decide), e0 93 (by decide)]
  refine ⟨?_, by rw [g0]; exact e2 _⟩
  funext p; unfold hdM isHM handM; rw [e2, g0, e0 82 (by decide)]
theorem tfI_c {h h0 : zH} {n jn rn m : Nat} (e0 : ∀ c2 : Nat, c2 ≠ 64 → h0 c2 = h c2) (e4 : ∀ j, j ≠ 4 → h0 64 j = h 64 j) (r0 : ∀ k, RM h0 n jn k = RM h n jn k) (g0 : gM h0 = gM h) {h4 : zH} : tfI h0 n jn rn m h4 = tfI h n jn rn m h4 := by
  unfold tfI; rw [(hdM_c e0 e4 g0).1]
theorem hd_first {h h4 : zH} {n jn rn : Nat} (tf : tfI h n jn rn (13 * jn) h4) (h60 : ¬ cntB (hdM h n jn rn) (13 * jn) = 0) : h4 95 0 = if fstB (hdM h n jn rn) 0 (13 * jn) = -1 then -1 else 100 * (fstB (hdM h n jn rn) 0 (13 * jn) / 13) + fstB (hdM h n jn rn) 0 (13 * jn) % 13 := by
  have cl := cntB_lo (hdM h n jn rn) (13 * jn)
  obtain ⟨p0, a0, b0, c00⟩ := cntB_ex (13 * jn) 0 (by omega) (show 0 < cntB (hdM h n jn rn) (13 * jn) by omega)
  obtain ⟨p, p1, p2, p3, p4⟩ := cntB_fst (13 * jn) 0 (fun p hp => absurd hp (Nat.not_lt_zero p)) ⟨p0, by omega, by omega, b0⟩
  have := tf.2 p (by omega) p3
  rw [p4] at this
  rw [p1, if_neg (by omega)]
  rw [show h4 95 0 = _ from this]; omega
def hdVM (h : zH) (n jn rn : Nat) (w : Int) : Int := if w = 2 then (if isRM h n jn rn (gM h) = true then 1 else 0) else if w = 0 then cntB (hdM h n jn rn) (13 * jn) else
  (if fstB (hdM h n jn rn) 0 (13 * jn) = -1 then -1 else 100 * (fstB (hdM h n jn rn) 0 (13 * jn) / 13) + fstB (hdM h n jn rn) 0 (13 * jn) % 13)

set_option maxRecDepth 100000 in
theorem c6_handed {E : zE} {h : zH} {n jn : Nat} {w : Int} (hw : -2147483648 ≤ w ∧ w ≤ 2147483647) {rn : Nat} (hrd : rdM h rn) (hm : mInv h n jn) : zCal E mX6_handed 12 4 [zrv E 64, ziv w] h (mA h (if 0 ≤ w ∧ w ≤ 2 then 0 else 1) (hdVM h n jn rn w)) (fun _ _ => False) := by
  refine zCal_of (by decide) (Nat.le_of_ble_eq_true rfl) (fun a => ?_)
  show zV _ 0 0 [zrv E 64, ziv w] [] _
  refine zV_aload_nr dX6_handed_0 rfl rfl ?_
  refine zV_iconst dX6_handed_1 ?_
  refine pf6_157 rfl (rfl) dX6_handed_2 ?_
  obtain ⟨h0, hh0, q0, z0, i0, e0, e4, r0, g0⟩ := st0 hm
  rw [hh0]
  have rd0 : rdM h0 rn := rdM_q (e0 92 (by decide)) (e0 93 (by decide)) (e4 36 (by decide)) hrd
  refine zV_iload_n dX6_handed_5 rfl rfl ?_
  refine zV_i2l dX6_handed_6 (by omega) ?_
  refine zV_lconst dX6_handed_7 ?_
  refine zV_ldc2 (v := 2) kl6_468 dX6_handed_8 ?_
  refine zV_callS (As := [zlv w, zlv ((0 : Nat) : Int), zlv 2]) lk6_160 (c6_isIn 11 0 (by omega) (by omega) (by omega)) ⟨by show _ + 1 ≤ 12; omega, by show _ ≤ 4; omega⟩ rfl (Nat.le_of_ble_eq_true rfl) dX6_handed_11 (fun _ _ z => z.elim) (fun r h9 q => ?_)
  obtain ⟨rfl, hh⟩ := q
  rw [hh]
  clear hh
  refine zR_if_ne (tgt := 23) dX6_handed_14 (by decide) (by split <;> omega) (fun h14 => ?_) (fun h14 => ?_)
  · have y14 := ipT h14
    refine zV_iload_n dX6_handed_23 rfl rfl ?_
    refine zV_iconst dX6_handed_24 ?_
    refine zR_icmp_ne (tgt := 41) dX6_handed_25 (by decide) (by omega) (by omega) (fun h25 => ?_) (fun h25 => ?_)
    · refine zV_aload_nr dX6_handed_41 rfl rfl ?_
      refine zV_callV (As := []) lk6_470 (rfl) rfl rfl (c6_tellFits (n := n) (jn := jn) (rn := rn) 11 0 (by decide) i0 rd0) ⟨by show _ + 1 ≤ 12; omega, by show _ ≤ 4; omega⟩ rfl (Nat.le_of_ble_eq_true rfl) dX6_handed_42 (fun _ _ z => z.elim) (fun r h4 q => ?_)
      obtain ⟨rfl, mq0, z40, tf⟩ := q
      have mq4 := mq_trans q0 mq0
      have z4 := z40.trans z0
      rw [tfI_c e0 e4 r0 g0] at tf
      refine zV_iload_n dX6_handed_45 rfl rfl ?_
      refine zR_if_ne (tgt := 56) dX6_handed_46 (by decide) (by omega) (fun h46 => ?_) (fun h46 => ?_)
      · refine zV_aload_nr dX6_handed_56 rfl rfl ?_
        refine gf6_461 rfl rfl dX6_handed_57 ?_
        rw [tf.1]
        refine zR_if_ne (tgt := 67) dX6_handed_60 (by decide) (by have := cntB_lo (hdM h n jn rn) (13 * jn); have := hm.1.1.2.1; omega) (fun h60 => ?_) (fun h60 => ?_)
        · refine zV_aload_nr dX6_handed_67 rfl rfl ?_
          refine gf6_127 rfl (rfl) dX6_handed_68 ?_
          refine zV_teq (w := zrv E 95) rfl ?_
          refine zV_iconst dX6_handed_71 ?_
          refine zV_ialoadN (i := 0) (N := 104) (rfl) (by decide) (by decide) dX6_handed_72 ?_
          exact zV_ireturn dX6_handed_73 rfl (Nat.zero_le _) (mA_ok mq4 z4 (by rw [if_pos (by omega)]) (by unfold hdVM; rw [if_neg h25, if_neg h46]; exact hd_first tf h60))
        · refine zV_iconst dX6_handed_63 ?_
          refine zV_goto (tgt := 73) dX6_handed_64 (by decide) ?_
          exact zV_ireturn dX6_handed_73 rfl (Nat.zero_le _) (mA_ok mq4 z4 (by rw [if_pos (by omega)]) (by unfold hdVM; rw [if_neg h25, if_neg h46, cntB_none (13 * jn) 0 (fun p _ hp => cntB_0 h60 p (by omega))]; rfl))
      · refine zV_aload_nr dX6_handed_49 rfl rfl ?_
        refine gf6_461 rfl rfl dX6_handed_50 ?_
        rw [tf.1]
        refine zV_goto (tgt := 73) dX6_handed_53 (by decide) ?_
        exact zV_ireturn dX6_handed_73 rfl (Nat.zero_le _) (mA_ok mq4 z4 (by rw [if_pos (by omega)]) (by unfold hdVM; rw [if_neg h25, if_pos h46]))
    · refine zV_aload_nr dX6_handed_28 rfl rfl ?_
      refine zV_callV (As := []) lk6_464 (rfl) rfl rfl (c6_isAsRead (n := n) (jn := jn) (rn := rn) 11 0 (by decide) i0 rd0) ⟨by show _ + 1 ≤ 12; omega, by show _ ≤ 4; omega⟩ rfl (Nat.le_of_ble_eq_true rfl) dX6_handed_29 (fun _ _ z => z.elim) (fun r h5 q => ?_)
      obtain ⟨rfl, mq5, z5, f5, g5⟩ := q
      have as5 : asR (LT h0 n jn) (h0 92) (h0 93) rn 20 = isRM h n jn rn (gM h) := by rw [e0 92 (by decide), e0 93 (by decide)]; exact asR_congr 20 (fun k a b => LT_q hm q0 k a)
      rw [as5]
      refine zR_if_eq (tgt := 39) dX6_handed_32 (by decide) (by split <;> omega) (fun h32 => ?_) (fun h32 => ?_)
      · refine zV_iconst dX6_handed_39 ?_
        exact zV_ireturn dX6_handed_40 rfl (Nat.zero_le _) (mA_ok (mq_trans q0 mq5) (z5.trans z0) (by rw [if_pos (by omega)]) (by unfold hdVM; rw [if_pos h25, ite00 rfl h32]; rfl))
      · refine zV_iconst dX6_handed_35 ?_
        refine zV_goto (tgt := 40) dX6_handed_36 (by decide) ?_
        exact zV_ireturn dX6_handed_40 rfl (Nat.zero_le _) (mA_ok (mq_trans q0 mq5) (z5.trans z0) (by rw [if_pos (by omega)]) (by unfold hdVM; rw [if_pos h25, ite01 rfl h32]; rfl))
  · have n14 := ipF h14
    refine zV_aload_nr dX6_handed_17 rfl rfl ?_
    refine zV_iconst dX6_handed_18 ?_
    refine zV_callV (As := [ziv 1]) lk6_300 (rfl) rfl rfl (c6_fail 11 0) ⟨by show _ + 1 ≤ 12; omega, by show _ ≤ 4; omega⟩ rfl (Nat.le_of_ble_eq_true rfl) dX6_handed_19 (fun _ _ z => z.elim) (fun r h9 q => ?_)
    obtain ⟨rfl, hh⟩ := q
    rw [hh]
    clear hh
    exact zV_ireturn dX6_handed_22 rfl (Nat.zero_le _) (mA_f q0 (by decide) (by rw [if_neg (by omega)]))
