/-! THE CASE THAT COMES, if one thing were another -/
def qr (h h1 : zH) : Prop := (∀ c2 : Nat, (c2 < 28 ∨ (30 < c2 ∧ c2 < 53) ∨ 63 < c2) → h1 c2 = h c2) ∧ rkOK h1
theorem qr_rfl {h : zH} {t n jn : Nat} (hi : tInv h t n jn) : qr h h := ⟨fun _ _ => rfl, hi.2.2.2.1⟩
theorem qr_trans {h h1 h2 : zH} (a : qr h h1) (b : qr h1 h2) : qr h h2 := ⟨fun c2 hh => (b.1 c2 hh).trans (a.1 c2 hh), b.2⟩
theorem qr_qry {h h1 : zH} (a : qr h h1) : qry h h1 := ⟨fun c2 _ hh => a.1 c2 hh, fun j _ => by rw [a.1 0 (by omega)], a.2⟩
theorem qr_tri {h h' : zH} {t n jn k : Nat} {g : zG} {x : (Nat → Int) × Int × Int × (Nat → Int)} (h0 : tri h t n jn g x k h') : qr h h' := ⟨h0.1, h0.2.2.2.2.2.2⟩
theorem qr_inv {h h2 : zH} {t n jn : Nat} (hi : tInv h t n jn) (hq : qr h h2) : tInv h2 t n jn ∧ gOf h2 32 t = gOf h 32 t ∧ xOf h2 32 = xOf h 32 ∧ h2 32 = h 32 := by
  obtain ⟨i0, i1, i2, i3, i4⟩ := hi
  have ht9 : t = 2 ∨ t = 16 := i1.1
  have e := hq.1
  have ct : ∀ o, o ≤ 11 → h2 (t + o) = h (t + o) := fun o ho => e _ (by omega)
  obtain ⟨c1, c2, c3, c4, c5, c6, c7⟩ := i2
  refine ⟨⟨by rw [e 0 (by omega)]; exact i0, courtOK_congr ct i1, ⟨c1, by rw [e (32 + 1) (by omega)]; exact c2, by rw [e (32 + 2) (by omega)]; exact c3, by rw [e (32 + 3) (by omega)]; exact c4, by rw [e (32 + 4) (by omega)]; exact c5, by rw [e 32 (by omega)]; exact c6, by rw [e 32 (by omega)]; exact c7⟩, hq.2, by rw [e 32 (by omega)]; exact i4⟩, ?_, ?_, e 32 (by omega)⟩
  · unfold gOf
    rw [e (32 + 4) (by omega), e (32 + 3) (by omega), e (32 + 2) (by omega), e 32 (by omega), ct 2 (by omega), ct 6 (by omega), ct 10 (by omega), ruleV_congr (ct 7 (by omega)) (ct 8 (by omega)) (ct 9 (by omega)), ruleV_congr (ct 7 (by omega)) (ct 8 (by omega)) (ct 9 (by omega))]
  · unfold xOf
    rw [e (32 + 1) (by omega), e 32 (by omega), e (32 + 5) (by omega)]
/-- the verdict of the case that comes -/
def oneV (n jn : Nat) (g : zG) (ca : Int) (p : Nat → Int) : Int := (runG n jn g ca (p, 0, 0, fun _ => 0) 1).2.1
theorem oneV_eq {n jn : Nat} {g k : zG} {ca : Int} {p : Nat → Int} {x : (Nat → Int) × Int × Int × (Nat → Int)} (hg : gag n jn g k) (hs : ∀ s, s < jn → 0 ≤ g.1 s ∧ g.1 s < jn) (hp : agn n x.1 p) : (runG n jn g ca x 1).2.1 = oneV n jn k ca p := ((runG_congr hg hs (y := (p, 0, 0, fun _ => 0)) hp 1).2 (by omega)).1
theorem oneV_lo (n jn : Nat) (g : zG) (ca : Int) (p : Nat → Int) : 0 ≤ oneV n jn g ca p ∧ oneV n jn g ca p < 5 := by
  show 0 ≤ verdS _ _ _ _ _ _ ∧ verdS _ _ _ _ _ _ < 5
  unfold verdS
  exact ⟨Int.emod_nonneg _ (by decide), Int.emod_lt_of_pos _ (by decide)⟩
/-- a trial that was changed, and heard once -/
theorem tri_one {h h1 h2 : zH} {t n jn : Nat} {g : zG} {p : Nat → Int} (hi : tInv h t n jn) (fr : ∀ c2 : Nat, (c2 < 28 ∨ (30 < c2 ∧ c2 < 53) ∨ 63 < c2) → h1 c2 = h c2) (hp : agn n (h1 54) p) (hg : gag n jn (gOf h1 53 t) g) (h6 : h1 53 6 = h 32 6) (hc : cupOK h1 53 n jn) (hr : rkOK h1) (h9 : heard h1 53 t n jn h2) :
    h2 53 7 = oneV n jn g (h 32 6) p ∧ qr h h2 := by
  have t0 : tri h t n jn g (p, 0, 0, fun _ => 0) 0 h1 := ⟨fr, hp, fun z => absurd z (by omega), hg, by rw [h6]; simp, hc, hr⟩
  have t1 := tri_s hi.2.1 (by have := hi.2.2.2.2; omega) t0 h9
  exact ⟨(t1.2.2.1 (by omega)).1, qr_tri t1⟩
def gTh (g : zG) (f : Nat → Int) : zG := (g.1, g.2.1, f, g.2.2.2)
def gHa (g : zG) (f : Nat → Int) : zG := (g.1, f, g.2.2)
def gSe (g : zG) (f : Nat → Int) : zG := (f, g.2)
def gPo (g : zG) (v : Int) : zG := (g.1, g.2.1, g.2.2.1, v, g.2.2.2.2)
def setF (f : Nat → Int) (i : Nat) (v : Int) : Nat → Int := fun j => if j = i then v else f j
theorem zup_set {h : zH} {c i : Nat} {v : Int} : zup h c i v c = setF (h c) i v := by funext j; rw [zup_at]; rfl
theorem agn_set {n i : Nat} {f g : Nat → Int} {v : Int} (h : agn n f g) : agn n (setF f i v) (setF g i v) := fun j hj => by unfold setF; split; rfl; exact h j hj
def turnP (f : Nat → Int) (b : Int) (m : Nat) : Nat → Int := fun j => if j < m ∧ zand (zshr b j) 1 = 1 then 12 - f j else f j
theorem z1shl : ∀ j : Nat, j ≤ 8 → zshl 1 (j : Int) = ((2 ^ j : Nat) : Int) := by decide

set_option maxRecDepth 100000 in
theorem c5_toDrink {E : zE} {h : zH} {t n jn : Nat} {x y : Int} (hx : -2147483648 ≤ x ∧ x ≤ 2147483647) (hy : -2147483648 ≤ y ∧ y ≤ 2147483647) (hi : tInv h t n jn) : zCal E mX5_toDrink 12 4 [zrv E 0, ziv x, ziv y] h (fun r h' => (0 ≤ x ∧ x < jn) ∧ (0 ≤ y ∧ y < 5) ∧ r = some (ziv (fstB (fun v => decide (oneV n jn (gTh (gOf h 32 t) (setF (h 34) x.toNat (v : Int))) (h 32 6) (h 33) = y)) 0 31)) ∧ qry h h') (fun e h' => h' = h ∧ e = NSE ∧ ¬ ((0 ≤ x ∧ x < jn) ∧ (0 ≤ y ∧ y < 5))) := by
  refine zCal_of (by decide) (Nat.le_of_ble_eq_true rfl) (fun a => ?_)
  show zV _ 0 0 [zrv E 0, ziv x, ziv y, .null] [] _
  have ht := hi.2.1.1
  have k0 := hi.1
  have hnum := hi.2.2.2.2
  have hn8 := hi.2.1.2.1
  have hjn8 := hi.2.1.2.2.1
  refine zV_aload_nr dX5_toDrink_0 rfl rfl ?_
  refine zV_iload_n dX5_toDrink_1 rfl rfl ?_
  refine zV_callV (As := [ziv x]) lk5_167 (rfl) rfl rfl (c5_needJudge ht k0 hi.2.1.2.2.2.2.1 hi.2.1.2.2.1 (by omega)) ⟨Nat.le_of_ble_eq_true rfl, Nat.le_of_ble_eq_true rfl⟩ rfl (Nat.le_of_ble_eq_true rfl) dX5_toDrink_2 (fun e h2 z => ⟨z.2.1, z.1, fun w => z.2.2 w.1⟩) (fun r h' q => ?_)
  obtain ⟨rfl, hh, cj⟩ := q
  rw [hh]
  refine zV_iload_n dX5_toDrink_5 rfl rfl ?_
  refine zV_callS (As := [ziv y]) lk5_261 (c5_needVerdict (by omega)) ⟨Nat.le_of_ble_eq_true rfl, Nat.le_of_ble_eq_true rfl⟩ rfl (Nat.le_of_ble_eq_true rfl) dX5_toDrink_6 (fun e h2 z => ⟨z.2.1, z.1, fun w => z.2.2 w.2⟩) (fun r h' q => ?_)
  obtain ⟨rfl, hh, cv⟩ := q
  rw [hh]
  refine zV_iconst dX5_toDrink_9 ?_
  refine zV_istore_n dX5_toDrink_10 rfl (Nat.le_of_ble_eq_true rfl) rfl ?_
  have L11 : ∀ (m : Nat) (s : Nat) (h1 : zH), (32 ≤ s + m) → (s ≤ 31) → (qr h h1) → (fstB (fun v => decide (oneV n jn (gTh (gOf h 32 t) (setF (h 34) x.toNat (v : Int))) (h 32 6) (h 33) = y)) 0 31 = fstB (fun v => decide (oneV n jn (gTh (gOf h 32 t) (setF (h 34) x.toNat (v : Int))) (h 32 6) (h 33) = y)) s (31 - s)) → zV (E, mX5_toDrink, 12, 4, (fun r h' => (0 ≤ x ∧ x < jn) ∧ (0 ≤ y ∧ y < 5) ∧ r = some (ziv (fstB (fun v => decide (oneV n jn (gTh (gOf h 32 t) (setF (h 34) x.toNat (v : Int))) (h 32 6) (h 33) = y)) 0 31)) ∧ qry h h'), (fun e h' => h' = h ∧ e = NSE ∧ ¬ ((0 ≤ x ∧ x < jn) ∧ (0 ≤ y ∧ y < 5))), a) 2 11 [zrv E 0, ziv x, ziv y, ziv (s : Int)] [] h1 := by
    intro m
    induction m with
    | zero => intro s h1 hm_ hsn hq hf; exfalso; omega
    | succ m ih =>
      intro s h1 hm_ hsn hq hf
      obtain ⟨hi1, g1, g2, g3⟩ := qr_inv hi hq
      have k0 : h1 0 3 = (t : Int) := hi1.1
      refine zV_iload_n dX5_toDrink_11 rfl rfl ?_
      refine zV_bipush dX5_toDrink_12 (by decide) ?_
      refine zR_icmp_gt (tgt := 47) dX5_toDrink_14 (by decide) (by omega) (by omega) (fun h14 => ?_) (fun h14 => ?_)
      · refine zV_iconst dX5_toDrink_47 ?_
        exact zV_ireturn dX5_toDrink_48 rfl (Nat.le_of_ble_eq_true rfl) ⟨cj, cv, by rw [hf, show 31 - s = 0 by omega]; rfl, qr_qry hq⟩
      · refine zV_aload_nr dX5_toDrink_17 rfl rfl ?_
        refine zV_callV (As := []) lk5_248 (rfl) rfl rfl (c5_startTrial 11 0 (by decide)) ⟨by show _ + 1 ≤ 12; omega, by show _ ≤ 4; omega⟩ rfl (Nat.le_of_ble_eq_true rfl) dX5_toDrink_18 (fun _ _ z => z.elim) (fun r h' q => ?_)
        obtain ⟨rfl, q⟩ := q
        have tr := tri_0 hi1 q
        rw [g1] at tr
        refine zV_aload_nr dX5_toDrink_21 rfl rfl ?_
        refine gf5_51 rfl (rfl) dX5_toDrink_22 ?_
        refine zV_teq (w := zrv E 53) rfl ?_
        refine gf5_307 rfl (rfl) dX5_toDrink_25 ?_
        refine zV_teq (w := zrv E 55) rfl ?_
        refine zV_iload_n dX5_toDrink_28 rfl rfl ?_
        refine zV_iload_n dX5_toDrink_29 rfl rfl ?_
        refine zV_iastore (N := 8) (rfl) (by omega) (by decide) dX5_toDrink_30 ?_
        have k9 : (zup h' 55 x.toNat (s : Int)) 0 3 = (t : Int) := by rw [zup_fn (by omega), tr.1 0 (by omega)]; exact k0
        have ht9 : t = 2 ∨ t = 16 := ht
        have ct9 : courtOK (zup h' 55 x.toNat (s : Int)) t n jn := courtOK_congr (fun o ho => zup_fn (by omega)) (tri_ct hi1.2.1 tr)
        have f9 : ∀ c2 : Nat, (c2 < 28 ∨ (30 < c2 ∧ c2 < 53) ∨ 63 < c2) → (zup h' 55 x.toNat (s : Int)) c2 = h1 c2 := fun c2 hh => by rw [zup_fn (by omega)]; exact tr.1 c2 hh
        have rk9 : rkOK (zup h' 55 x.toNat (s : Int)) := fun j j1 j2 => by rw [zup_fn (by omega)]; exact tr.2.2.2.2.2.2 j j1 j2
        have cuok : cupOK (zup h' 55 x.toNat (s : Int)) 53 n jn := by
          obtain ⟨c1, c2, c3, c4, c5, c6, c7⟩ := tr.2.2.2.2.2.1
          exact ⟨c1, by rw [zup_fn (by omega)]; exact c2, fun j hj => by rw [zup_at]; split; omega; exact c3 j hj, by rw [zup_fn (by omega)]; exact c4, by rw [zup_fn (by omega)]; exact c5, by rw [zup_fn (by omega)]; exact c6, by rw [zup_fn (by omega)]; exact c7⟩
        have gg9 : gag n jn (gOf (zup h' 55 x.toNat (s : Int)) 53 t) (gTh (gOf h 32 t) (setF (h 34) x.toNat (s : Int))) := by
          obtain ⟨p1, p2, p3, p4, p5, p6, p7⟩ := tr.2.2.2.1
          have e2 : gOf (zup h' 55 x.toNat (s : Int)) 53 t = gTh (gOf h' 53 t) (setF (h' 55) x.toNat (s : Int)) := by
            unfold gOf gTh
            rw [ruleV_congr (zup_fn (by omega)) (zup_fn (by omega)) (zup_fn (by omega)), ruleV_congr (zup_fn (by omega)) (zup_fn (by omega)) (zup_fn (by omega)), zup_fn (show 53 + 4 ≠ 55 by decide), zup_fn (show 53 + 3 ≠ 55 by decide), show zup h' 55 x.toNat (s : Int) (53 + 2) = setF (h' 55) x.toNat (s : Int) from zup_set, zup_fn (show 53 ≠ 55 by decide), zup_fn (show t + 2 ≠ 55 by omega), zup_fn (show t + 6 ≠ 55 by omega), zup_fn (show t + 10 ≠ 55 by omega)]
          rw [e2]
          exact ⟨p1, p2, agn_set p3, p4, p5, p6, p7⟩
        refine zV_aload_nr dX5_toDrink_31 rfl rfl ?_
        refine zV_callV (As := []) lk5_264 (rfl) rfl rfl (c5_nextVerdict 11 0 (by decide) k9 ct9 cuok rk9) ⟨by show _ + 1 ≤ 12; omega, by show _ ≤ 4; omega⟩ rfl (Nat.le_of_ble_eq_true rfl) dX5_toDrink_32 (fun _ _ z => z.elim) (fun r h' q => ?_)
        obtain ⟨rfl, q9⟩ := q
        have w9 := tri_one (p := h 33) (g := gTh (gOf h 32 t) (setF (h 34) x.toNat (s : Int))) hi1 f9 (by rw [zup_fn (by omega)]; refine agn_trans tr.2.1 ?_; show agn n (h1 33) (h 33); rw [hq.1 33 (by omega)]; exact agn_rfl _ _) gg9 (by rw [zup_fn (by omega), tr.2.2.2.2.1]; simp) cuok rk9 q9
        rw [g3] at w9
        rw [w9.1]
        refine zV_iload_n dX5_toDrink_35 rfl rfl ?_
        have o5 := oneV_lo n jn (gTh (gOf h 32 t) (setF (h 34) x.toNat (s : Int))) (h 32 6) (h 33)
        refine zR_icmp_ne (tgt := 41) dX5_toDrink_36 (by decide) (by omega) (by omega) (fun h36 => ?_) (fun h36 => ?_)
        · refine zV_iinc dX5_toDrink_41 rfl (Nat.le_of_ble_eq_true rfl) rfl ?_
          refine zV_goto (tgt := 11) dX5_toDrink_44 (by decide) ?_
          exact ih (s + 1) _ (by omega) (by omega) (qr_trans hq w9.2) (by rw [hf, show 31 - s = (31 - (s + 1)) + 1 by omega, fstB_s, if_neg (fun z => h36 (of_decide_eq_true z))])
        · refine zV_iload_n dX5_toDrink_39 rfl rfl ?_
          exact zV_ireturn dX5_toDrink_40 rfl (Nat.le_of_ble_eq_true rfl) ⟨cj, cv, by rw [hf, show 31 - s = (31 - (s + 1)) + 1 by omega, fstB_s, if_pos (decide_eq_true h36)], qr_qry (qr_trans hq w9.2)⟩
  exact L11 32 0 h (by omega) (by omega) (qr_rfl hi) rfl
