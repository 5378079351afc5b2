theorem mod54 {h h2 : zH} {t n jn : Nat} {g : zG} {x : (Nat → Int) × Int × Int × (Nat → Int)} {f : Nat → Int} (hi : tInv h t n jn) (tr : tri h t n jn g x 0 h2) (hf : ∀ l, l < n → 0 ≤ f l ∧ f l < 12) :
    (zst h2 54 f) 0 3 = (t : Int) ∧ courtOK (zst h2 54 f) t n jn ∧ (∀ c2 : Nat, (c2 < 28 ∨ (30 < c2 ∧ c2 < 53) ∨ 63 < c2) → (zst h2 54 f) c2 = h c2) ∧ rkOK (zst h2 54 f) ∧ cupOK (zst h2 54 f) 53 n jn ∧ (zst h2 54 f) 53 6 = h 32 6 ∧ gag n jn (gOf (zst h2 54 f) 53 t) g := by
  have ht9 : t = 2 ∨ t = 16 := hi.2.1.1
  obtain ⟨c1, c2, c3, c4, c5, c6, c7⟩ := tr.2.2.2.2.2.1
  obtain ⟨p1, p2, p3, p4, p5, p6, p7⟩ := tr.2.2.2.1
  refine ⟨by rw [zst_ne (by omega), tr.1 0 (by omega)]; exact hi.1, courtOK_congr (fun o ho => zst_ne (by omega)) (tri_ct hi.2.1 tr), fun c2 hh => by rw [zst_ne (by omega)]; exact tr.1 c2 hh, fun j j1 j2 => by rw [zst_ne (by omega)]; exact tr.2.2.2.2.2.2 j j1 j2, ⟨c1, fun l hl => by rw [show zst h2 54 f (53 + 1) = f from zst_same]; exact hf l hl, by rw [zst_ne (show 53 + 2 ≠ 54 by decide)]; exact c3, by rw [zst_ne (show 53 + 3 ≠ 54 by decide)]; exact c4, by rw [zst_ne (show 53 + 4 ≠ 54 by decide)]; exact c5, by rw [zst_ne (by omega)]; exact c6, by rw [zst_ne (by omega)]; exact c7⟩, by rw [zst_ne (by omega), tr.2.2.2.2.1]; simp, ?_⟩
  have e2 : gOf (zst h2 54 f) 53 t = (gOf h2 53 t) := by
    unfold gOf 
    rw [ruleV_congr (zst_ne (by omega)) (zst_ne (by omega)) (zst_ne (by omega)), ruleV_congr (zst_ne (by omega)) (zst_ne (by omega)) (zst_ne (by omega)), zst_ne (show 53 + 4 ≠ 54 by decide), zst_ne (show 53 + 3 ≠ 54 by decide), zst_ne (show 53 + 2 ≠ 54 by decide), zst_ne (show 53 ≠ 54 by decide), zst_ne (show t + 2 ≠ 54 by omega), zst_ne (show t + 6 ≠ 54 by omega), zst_ne (show t + 10 ≠ 54 by omega)]
  rw [e2]
  exact ⟨p1, p2, p3, p4, p5, p6, p7⟩
theorem mod56 {h h2 : zH} {t n jn : Nat} {g : zG} {x : (Nat → Int) × Int × Int × (Nat → Int)} {f : Nat → Int} (hi : tInv h t n jn) (tr : tri h t n jn g x 0 h2) (hf : ∀ j, j < jn → 0 ≤ f j ∧ f j ≤ 12) :
    (zst h2 56 f) 0 3 = (t : Int) ∧ courtOK (zst h2 56 f) t n jn ∧ (∀ c2 : Nat, (c2 < 28 ∨ (30 < c2 ∧ c2 < 53) ∨ 63 < c2) → (zst h2 56 f) c2 = h c2) ∧ rkOK (zst h2 56 f) ∧ cupOK (zst h2 56 f) 53 n jn ∧ (zst h2 56 f) 53 6 = h 32 6 ∧ (∀ f2, agn jn f f2 → gag n jn (gOf (zst h2 56 f) 53 t) (gHa g f2)) := by
  have ht9 : t = 2 ∨ t = 16 := hi.2.1.1
  obtain ⟨c1, c2, c3, c4, c5, c6, c7⟩ := tr.2.2.2.2.2.1
  obtain ⟨p1, p2, p3, p4, p5, p6, p7⟩ := tr.2.2.2.1
  refine ⟨by rw [zst_ne (by omega), tr.1 0 (by omega)]; exact hi.1, courtOK_congr (fun o ho => zst_ne (by omega)) (tri_ct hi.2.1 tr), fun c2 hh => by rw [zst_ne (by omega)]; exact tr.1 c2 hh, fun j j1 j2 => by rw [zst_ne (by omega)]; exact tr.2.2.2.2.2.2 j j1 j2, ⟨c1, by rw [zst_ne (show 53 + 1 ≠ 56 by decide)]; exact c2, by rw [zst_ne (show 53 + 2 ≠ 56 by decide)]; exact c3, fun j hj => by rw [show zst h2 56 f (53 + 3) = f from zst_same]; exact hf j hj, by rw [zst_ne (show 53 + 4 ≠ 56 by decide)]; exact c5, by rw [zst_ne (by omega)]; exact c6, by rw [zst_ne (by omega)]; exact c7⟩, by rw [zst_ne (by omega), tr.2.2.2.2.1]; simp, ?_⟩
  have e2 : gOf (zst h2 56 f) 53 t = gHa (gOf h2 53 t) f := by
    unfold gOf gHa
    rw [ruleV_congr (zst_ne (by omega)) (zst_ne (by omega)) (zst_ne (by omega)), ruleV_congr (zst_ne (by omega)) (zst_ne (by omega)) (zst_ne (by omega)), zst_ne (show 53 + 4 ≠ 56 by decide), show zst h2 56 f (53 + 3) = f from zst_same, zst_ne (show 53 + 2 ≠ 56 by decide), zst_ne (show 53 ≠ 56 by decide), zst_ne (show t + 2 ≠ 56 by omega), zst_ne (show t + 6 ≠ 56 by omega), zst_ne (show t + 10 ≠ 56 by omega)]
  rw [e2]
  exact fun f2 h9 => ⟨p1, h9, p3, p4, p5, p6, p7⟩
theorem mod57 {h h2 : zH} {t n jn : Nat} {g : zG} {x : (Nat → Int) × Int × Int × (Nat → Int)} {f : Nat → Int} (hi : tInv h t n jn) (tr : tri h t n jn g x 0 h2) (hf : ∀ s, s < jn → 0 ≤ f s ∧ f s < jn) :
    (zst h2 57 f) 0 3 = (t : Int) ∧ courtOK (zst h2 57 f) t n jn ∧ (∀ c2 : Nat, (c2 < 28 ∨ (30 < c2 ∧ c2 < 53) ∨ 63 < c2) → (zst h2 57 f) c2 = h c2) ∧ rkOK (zst h2 57 f) ∧ cupOK (zst h2 57 f) 53 n jn ∧ (zst h2 57 f) 53 6 = h 32 6 ∧ (∀ f2, agn jn f f2 → gag n jn (gOf (zst h2 57 f) 53 t) (gSe g f2)) := by
  have ht9 : t = 2 ∨ t = 16 := hi.2.1.1
  obtain ⟨c1, c2, c3, c4, c5, c6, c7⟩ := tr.2.2.2.2.2.1
  obtain ⟨p1, p2, p3, p4, p5, p6, p7⟩ := tr.2.2.2.1
  refine ⟨by rw [zst_ne (by omega), tr.1 0 (by omega)]; exact hi.1, courtOK_congr (fun o ho => zst_ne (by omega)) (tri_ct hi.2.1 tr), fun c2 hh => by rw [zst_ne (by omega)]; exact tr.1 c2 hh, fun j j1 j2 => by rw [zst_ne (by omega)]; exact tr.2.2.2.2.2.2 j j1 j2, ⟨c1, by rw [zst_ne (show 53 + 1 ≠ 57 by decide)]; exact c2, by rw [zst_ne (show 53 + 2 ≠ 57 by decide)]; exact c3, by rw [zst_ne (show 53 + 3 ≠ 57 by decide)]; exact c4, fun j hj => by rw [show zst h2 57 f (53 + 4) = f from zst_same]; exact hf j hj, by rw [zst_ne (by omega)]; exact c6, by rw [zst_ne (by omega)]; exact c7⟩, by rw [zst_ne (by omega), tr.2.2.2.2.1]; simp, ?_⟩
  have e2 : gOf (zst h2 57 f) 53 t = gSe (gOf h2 53 t) f := by
    unfold gOf gSe
    rw [ruleV_congr (zst_ne (by omega)) (zst_ne (by omega)) (zst_ne (by omega)), ruleV_congr (zst_ne (by omega)) (zst_ne (by omega)) (zst_ne (by omega)), show zst h2 57 f (53 + 4) = f from zst_same, zst_ne (show 53 + 3 ≠ 57 by decide), zst_ne (show 53 + 2 ≠ 57 by decide), zst_ne (show 53 ≠ 57 by decide), zst_ne (show t + 2 ≠ 57 by omega), zst_ne (show t + 6 ≠ 57 by omega), zst_ne (show t + 10 ≠ 57 by omega)]
  rw [e2]
  exact fun f2 h9 => ⟨h9, p2, p3, p4, p5, p6, p7⟩
theorem zup_st {h : zH} {c i : Nat} {v : Int} : zup h c i v = zst h c (setF (h c) i v) := by
  funext c2 j; unfold zup zst setF; by_cases e : c2 = c
  · subst e; simp
  · simp [e]
theorem modPo {h h2 : zH} {t n jn : Nat} {g : zG} {x : (Nat → Int) × Int × Int × (Nat → Int)} {v : Int} (hi : tInv h t n jn) (tr : tri h t n jn g x 0 h2) (hv : 0 ≤ v ∧ v ≤ 99) :
    (zup h2 53 5 v) 0 3 = (t : Int) ∧ courtOK (zup h2 53 5 v) t n jn ∧ (∀ c2 : Nat, (c2 < 28 ∨ (30 < c2 ∧ c2 < 53) ∨ 63 < c2) → (zup h2 53 5 v) c2 = h c2) ∧ rkOK (zup h2 53 5 v) ∧ cupOK (zup h2 53 5 v) 53 n jn ∧ (zup h2 53 5 v) 53 6 = h 32 6 ∧ gag n jn (gOf (zup h2 53 5 v) 53 t) (gPo g v) := by
  have ht9 : t = 2 ∨ t = 16 := hi.2.1.1
  obtain ⟨c1, c2, c3, c4, c5, c6, c7⟩ := tr.2.2.2.2.2.1
  obtain ⟨p1, p2, p3, p4, p5, p6, p7⟩ := tr.2.2.2.1
  refine ⟨by rw [zup_fn (by omega), tr.1 0 (by omega)]; exact hi.1, courtOK_congr (fun o ho => zup_fn (by omega)) (tri_ct hi.2.1 tr), fun c2 hh => by rw [zup_fn (by omega)]; exact tr.1 c2 hh, fun j j1 j2 => by rw [zup_fn (by omega)]; exact tr.2.2.2.2.2.2 j j1 j2, ⟨c1, by rw [zup_fn (by omega)]; exact c2, by rw [zup_fn (by omega)]; exact c3, by rw [zup_fn (by omega)]; exact c4, by rw [zup_fn (by omega)]; exact c5, by rw [zup_at, if_pos rfl]; exact hv, by rw [zup_at, if_neg (by decide)]; exact c7⟩, by rw [zup_at, if_neg (by decide), tr.2.2.2.2.1]; simp, ?_⟩
  have e2 : gOf (zup h2 53 5 v) 53 t = gPo (gOf h2 53 t) v := by
    unfold gOf gPo
    rw [ruleV_congr (zup_fn (by omega)) (zup_fn (by omega)) (zup_fn (by omega)), ruleV_congr (zup_fn (by omega)) (zup_fn (by omega)) (zup_fn (by omega)), zup_fn (show 53 + 4 ≠ 53 by decide), zup_fn (show 53 + 3 ≠ 53 by decide), zup_fn (show 53 + 2 ≠ 53 by decide), zup_at, if_pos rfl, zup_fn (show t + 2 ≠ 53 by omega), zup_fn (show t + 6 ≠ 53 by omega), zup_fn (show t + 10 ≠ 53 by omega)]
  rw [e2]
  exact ⟨p1, p2, p3, rfl, p5, p6, p7⟩
theorem swapP_lo {f : Nat → Int} {a b : Int} {jn : Nat} (hf : ∀ s, s < jn → 0 ≤ f s ∧ f s < jn) (ha : 0 ≤ a ∧ a < jn) (hb : 0 ≤ b ∧ b < jn) : ∀ s, s < jn → 0 ≤ swapP f a b jn s ∧ swapP f a b jn s < jn := by
  intro s hs
  unfold swapP
  repeat' split
  all_goals first | omega | exact hf s hs
theorem seatS_congr {f g : Nat → Int} {j : Int} : ∀ m s, (∀ i, s ≤ i → i < s + m → f i = g i) → seatS f j s m = seatS g j s m := by
  intro m
  induction m with
  | zero => intro s _; rfl
  | succ m ih => intro s h; unfold seatS; rw [h s (by omega) (by omega), ih (s + 1) (fun i h1 h2 => h i (by omega) (by omega))]
theorem swapP_congr {f g : Nat → Int} {a b : Int} {jn : Nat} (h : agn jn f g) : agn jn (swapP f a b jn) (swapP g a b jn) := fun i hi => by
  unfold swapP
  rw [seatS_congr (f := f) (g := g) jn 0 (fun i _ h2 => h i (by omega)), seatS_congr (f := f) (g := g) jn 0 (fun i _ h2 => h i (by omega)), h i hi]
theorem turnP_congr {f g : Nat → Int} {b : Int} {m jn : Nat} (h : agn jn f g) : agn jn (turnP f b m) (turnP g b m) := fun i hi => by
  unfold turnP; rw [h i hi]

set_option maxRecDepth 100000 in
theorem c5_toPour {E : zE} {h : zH} {t n jn : Nat} {y : Int} (hy : -2147483648 ≤ y ∧ y ≤ 2147483647) (hi : tInv h t n jn) : zCal E mX5_toPour 12 4 [zrv E 0, ziv y] h (fun r h' => (0 ≤ y ∧ y < 5) ∧ r = some (ziv (fstB (fun v => decide (oneV n jn (gPo (gOf h 32 t) (v : Int)) (h 32 6) (h 33) = y)) 0 100)) ∧ qry h h') (fun e h' => h' = h ∧ e = NSE ∧ ¬ (0 ≤ y ∧ y < 5)) := by
  refine zCal_of (by decide) (Nat.le_of_ble_eq_true rfl) (fun a => ?_)
  show zV _ 0 0 [zrv E 0, ziv y, .null] [] _
  have ht := hi.2.1.1
  have k0 := hi.1
  have hnum := hi.2.2.2.2
  have hn8 := hi.2.1.2.1
  have hjn8 := hi.2.1.2.2.1
  refine zV_iload_n dX5_toPour_0 rfl rfl ?_
  refine zV_callS (As := [ziv y]) lk5_261 (c5_needVerdict (by omega)) ⟨Nat.le_of_ble_eq_true rfl, Nat.le_of_ble_eq_true rfl⟩ rfl (Nat.le_of_ble_eq_true rfl) dX5_toPour_1 (fun e h2 z => ⟨z.2.1, z.1, z.2.2⟩) (fun r h' q => ?_)
  obtain ⟨rfl, hh, cv⟩ := q
  rw [hh]
  refine zV_iconst dX5_toPour_4 ?_
  refine zV_istore_n dX5_toPour_5 rfl (Nat.le_of_ble_eq_true rfl) rfl ?_
  have L6 : ∀ (m : Nat) (s : Nat) (h1 : zH), (101 ≤ s + m) → (s ≤ 100) → (qr h h1) → (fstB (fun v => decide (oneV n jn (gPo (gOf h 32 t) (v : Int)) (h 32 6) (h 33) = y)) 0 100 = fstB (fun v => decide (oneV n jn (gPo (gOf h 32 t) (v : Int)) (h 32 6) (h 33) = y)) s (100 - s)) → zV (E, mX5_toPour, 12, 4, (fun r h' => (0 ≤ y ∧ y < 5) ∧ r = some (ziv (fstB (fun v => decide (oneV n jn (gPo (gOf h 32 t) (v : Int)) (h 32 6) (h 33) = y)) 0 100)) ∧ qry h h'), (fun e h' => h' = h ∧ e = NSE ∧ ¬ (0 ≤ y ∧ y < 5)), a) 1 6 [zrv E 0, ziv y, ziv (s : Int)] [] h1 := by
    intro m
    induction m with
    | zero => intro s h1 hm_ hsn hq hf; exfalso; omega
    | succ m ih =>
      intro s h1 hm_ hsn hq hf
      obtain ⟨hi1, g1, g2, g3⟩ := qr_inv hi hq
      have k0 : h1 0 3 = (t : Int) := hi1.1
      refine zV_iload_n dX5_toPour_6 rfl rfl ?_
      refine zV_bipush dX5_toPour_7 (by decide) ?_
      refine zR_icmp_gt (tgt := 40) dX5_toPour_9 (by decide) (by omega) (by omega) (fun h9 => ?_) (fun h9 => ?_)
      · refine zV_iconst dX5_toPour_40 ?_
        exact zV_ireturn dX5_toPour_41 rfl (Nat.le_of_ble_eq_true rfl) ⟨cv, by rw [hf, show 100 - s = 0 by omega]; rfl, qr_qry hq⟩
      · refine zV_aload_nr dX5_toPour_12 rfl rfl ?_
        refine zV_callV (As := []) lk5_248 (rfl) rfl rfl (c5_startTrial 11 0 (by decide)) ⟨by show _ + 1 ≤ 12; omega, by show _ ≤ 4; omega⟩ rfl (Nat.le_of_ble_eq_true rfl) dX5_toPour_13 (fun _ _ z => z.elim) (fun r h' q => ?_)
        obtain ⟨rfl, q⟩ := q
        have tr := tri_0 hi1 q
        rw [g1] at tr
        refine zV_aload_nr dX5_toPour_16 rfl rfl ?_
        refine gf5_51 rfl (rfl) dX5_toPour_17 ?_
        refine zV_teq (w := zrv E 53) rfl ?_
        refine zV_iload_n dX5_toPour_20 rfl rfl ?_
        refine pf5_118 rfl (rfl) dX5_toPour_21 ?_
        have m9 := modPo (v := (s : Int)) hi1 tr (by omega)
        have g9 := m9.2.2.2.2.2.2
        refine zV_aload_nr dX5_toPour_24 rfl rfl ?_
        refine zV_callV (As := []) lk5_264 (rfl) rfl rfl (c5_nextVerdict 11 0 (by decide) m9.1 m9.2.1 m9.2.2.2.2.1 m9.2.2.2.1) ⟨by show _ + 1 ≤ 12; omega, by show _ ≤ 4; omega⟩ rfl (Nat.le_of_ble_eq_true rfl) dX5_toPour_25 (fun _ _ z => z.elim) (fun r h' q => ?_)
        obtain ⟨rfl, q9⟩ := q
        have w9 := tri_one (p := h 33) (g := gPo (gOf h 32 t) (s : Int)) hi1 m9.2.2.1 (by rw [zup_fn (by omega)]; refine agn_trans tr.2.1 ?_; show agn n (h1 33) (h 33); rw [hq.1 33 (by omega)]; exact agn_rfl _ _) g9 m9.2.2.2.2.2.1 m9.2.2.2.2.1 m9.2.2.2.1 q9
        rw [g3] at w9
        rw [w9.1]
        refine zV_iload_n dX5_toPour_28 rfl rfl ?_
        have o5 := oneV_lo n jn (gPo (gOf h 32 t) (s : Int)) (h 32 6) (h 33)
        refine zR_icmp_ne (tgt := 34) dX5_toPour_29 (by decide) (by omega) (by omega) (fun h29 => ?_) (fun h29 => ?_)
        · refine zV_iinc dX5_toPour_34 rfl (Nat.le_of_ble_eq_true rfl) rfl ?_
          refine zV_goto (tgt := 6) dX5_toPour_37 (by decide) ?_
          exact ih (s + 1) _ (by omega) (by omega) (qr_trans hq w9.2) (by rw [hf, show 100 - s = (100 - (s + 1)) + 1 by omega, fstB_s, if_neg (fun z => h29 (of_decide_eq_true z))])
        · refine zV_iload_n dX5_toPour_32 rfl rfl ?_
          exact zV_ireturn dX5_toPour_33 rfl (Nat.le_of_ble_eq_true rfl) ⟨cv, by rw [hf, show 100 - s = (100 - (s + 1)) + 1 by omega, fstB_s, if_pos (decide_eq_true h29)], qr_qry (qr_trans hq w9.2)⟩
  exact L6 101 0 h (by omega) (by omega) (qr_rfl hi) rfl
set_option maxRecDepth 100000 in
theorem c5_toLay {E : zE} {h : zH} {t n jn : Nat} {x y : Int} (hx : -2147483648 ≤ x ∧ x ≤ 2147483647) (hy : -2147483648 ≤ y ∧ y ≤ 2147483647) (hi : tInv h t n jn) : zCal E mX5_toLay 12 4 [zrv E 0, ziv x, ziv y] h (fun r h' => (0 ≤ x ∧ x < n) ∧ (0 ≤ y ∧ y < 5) ∧ r = some (ziv (fstB (fun v => decide (oneV n jn (gOf h 32 t) (h 32 6) (setF (h 33) x.toNat (v : Int)) = y)) 0 12)) ∧ qry h h') (fun e h' => h' = h ∧ e = NSE ∧ ¬ ((0 ≤ x ∧ x < n) ∧ (0 ≤ y ∧ y < 5))) := by
  refine zCal_of (by decide) (Nat.le_of_ble_eq_true rfl) (fun a => ?_)
  show zV _ 0 0 [zrv E 0, ziv x, ziv y, .null] [] _
  have ht := hi.2.1.1
  have k0 := hi.1
  have hnum := hi.2.2.2.2
  have hn8 := hi.2.1.2.1
  have hjn8 := hi.2.1.2.2.1
  refine zV_aload_nr dX5_toLay_0 rfl rfl ?_
  refine zV_iload_n dX5_toLay_1 rfl rfl ?_
  refine zV_callV (As := [ziv x]) lk5_156 (rfl) rfl rfl (c5_needLeaf ht k0 hi.2.1.2.2.2.1 hi.2.1.2.1 (by omega)) ⟨Nat.le_of_ble_eq_true rfl, Nat.le_of_ble_eq_true rfl⟩ rfl (Nat.le_of_ble_eq_true rfl) dX5_toLay_2 (fun e h2 z => ⟨z.2.1, z.1, fun w => z.2.2 w.1⟩) (fun r h' q => ?_)
  obtain ⟨rfl, hh, cl⟩ := q
  rw [hh]
  refine zV_iload_n dX5_toLay_5 rfl rfl ?_
  refine zV_callS (As := [ziv y]) lk5_261 (c5_needVerdict (by omega)) ⟨Nat.le_of_ble_eq_true rfl, Nat.le_of_ble_eq_true rfl⟩ rfl (Nat.le_of_ble_eq_true rfl) dX5_toLay_6 (fun e h2 z => ⟨z.2.1, z.1, fun w => z.2.2 w.2⟩) (fun r h' q => ?_)
  obtain ⟨rfl, hh, cv⟩ := q
  rw [hh]
  refine zV_iconst dX5_toLay_9 ?_
  refine zV_istore_n dX5_toLay_10 rfl (Nat.le_of_ble_eq_true rfl) rfl ?_
  have L11 : ∀ (m : Nat) (s : Nat) (h1 : zH), (13 ≤ s + m) → (s ≤ 12) → (qr h h1) → (fstB (fun v => decide (oneV n jn (gOf h 32 t) (h 32 6) (setF (h 33) x.toNat (v : Int)) = y)) 0 12 = fstB (fun v => decide (oneV n jn (gOf h 32 t) (h 32 6) (setF (h 33) x.toNat (v : Int)) = y)) s (12 - s)) → zV (E, mX5_toLay, 12, 4, (fun r h' => (0 ≤ x ∧ x < n) ∧ (0 ≤ y ∧ y < 5) ∧ r = some (ziv (fstB (fun v => decide (oneV n jn (gOf h 32 t) (h 32 6) (setF (h 33) x.toNat (v : Int)) = y)) 0 12)) ∧ qry h h'), (fun e h' => h' = h ∧ e = NSE ∧ ¬ ((0 ≤ x ∧ x < n) ∧ (0 ≤ y ∧ y < 5))), a) 2 11 [zrv E 0, ziv x, ziv y, ziv (s : Int)] [] h1 := by
    intro m
    induction m with
    | zero => intro s h1 hm_ hsn hq hf; exfalso; omega
    | succ m ih =>
      intro s h1 hm_ hsn hq hf
      obtain ⟨hi1, g1, g2, g3⟩ := qr_inv hi hq
      have k0 : h1 0 3 = (t : Int) := hi1.1
      refine zV_iload_n dX5_toLay_11 rfl rfl ?_
      refine zV_bipush dX5_toLay_12 (by decide) ?_
      refine zR_icmp_ge (tgt := 47) dX5_toLay_14 (by decide) (by omega) (by omega) (fun h14 => ?_) (fun h14 => ?_)
      · refine zV_iconst dX5_toLay_47 ?_
        exact zV_ireturn dX5_toLay_48 rfl (Nat.le_of_ble_eq_true rfl) ⟨cl, cv, by rw [hf, show 12 - s = 0 by omega]; rfl, qr_qry hq⟩
      · refine zV_aload_nr dX5_toLay_17 rfl rfl ?_
        refine zV_callV (As := []) lk5_248 (rfl) rfl rfl (c5_startTrial 11 0 (by decide)) ⟨by show _ + 1 ≤ 12; omega, by show _ ≤ 4; omega⟩ rfl (Nat.le_of_ble_eq_true rfl) dX5_toLay_18 (fun _ _ z => z.elim) (fun r h' q => ?_)
        obtain ⟨rfl, q⟩ := q
        have tr := tri_0 hi1 q
        rw [g1] at tr
        refine zV_aload_nr dX5_toLay_21 rfl rfl ?_
        refine gf5_51 rfl (rfl) dX5_toLay_22 ?_
        refine zV_teq (w := zrv E 53) rfl ?_
        refine gf5_159 rfl (rfl) dX5_toLay_25 ?_
        refine zV_teq (w := zrv E 54) rfl ?_
        refine zV_iload_n dX5_toLay_28 rfl rfl ?_
        refine zV_iload_n dX5_toLay_29 rfl rfl ?_
        refine zV_iastore (N := 8) (rfl) (by omega) (by decide) dX5_toLay_30 ?_
        rw [zup_st]
        have m9 := mod54 (f := setF (h' 54) x.toNat (s : Int)) hi1 tr (fun l hl => by unfold setF; split; omega; exact tr.2.2.2.2.2.1.2.1 l hl)
        have g9 := m9.2.2.2.2.2.2
        refine zV_aload_nr dX5_toLay_31 rfl rfl ?_
        refine zV_callV (As := []) lk5_264 (rfl) rfl rfl (c5_nextVerdict 11 0 (by decide) m9.1 m9.2.1 m9.2.2.2.2.1 m9.2.2.2.1) ⟨by show _ + 1 ≤ 12; omega, by show _ ≤ 4; omega⟩ rfl (Nat.le_of_ble_eq_true rfl) dX5_toLay_32 (fun _ _ z => z.elim) (fun r h' q => ?_)
        obtain ⟨rfl, q9⟩ := q
        have w9 := tri_one (p := setF (h 33) x.toNat (s : Int)) (g := gOf h 32 t) hi1 m9.2.2.1 (by rw [zst_same]; refine agn_set (agn_trans tr.2.1 ?_); show agn n (h1 33) (h 33); rw [hq.1 33 (by omega)]; exact agn_rfl _ _) g9 m9.2.2.2.2.2.1 m9.2.2.2.2.1 m9.2.2.2.1 q9
        rw [g3] at w9
        rw [w9.1]
        refine zV_iload_n dX5_toLay_35 rfl rfl ?_
        have o5 := oneV_lo n jn (gOf h 32 t) (h 32 6) (setF (h 33) x.toNat (s : Int))
        refine zR_icmp_ne (tgt := 41) dX5_toLay_36 (by decide) (by omega) (by omega) (fun h36 => ?_) (fun h36 => ?_)
        · refine zV_iinc dX5_toLay_41 rfl (Nat.le_of_ble_eq_true rfl) rfl ?_
          refine zV_goto (tgt := 11) dX5_toLay_44 (by decide) ?_
          exact ih (s + 1) _ (by omega) (by omega) (qr_trans hq w9.2) (by rw [hf, show 12 - s = (12 - (s + 1)) + 1 by omega, fstB_s, if_neg (fun z => h36 (of_decide_eq_true z))])
        · refine zV_iload_n dX5_toLay_39 rfl rfl ?_
          exact zV_ireturn dX5_toLay_40 rfl (Nat.le_of_ble_eq_true rfl) ⟨cl, cv, by rw [hf, show 12 - s = (12 - (s + 1)) + 1 by omega, fstB_s, if_pos (decide_eq_true h36)], qr_qry (qr_trans hq w9.2)⟩
  exact L11 13 0 h (by omega) (by omega) (qr_rfl hi) rfl
set_option maxRecDepth 100000 in
theorem c5_better {E : zE} {h : zH} {t n jn : Nat} {x : Int} (hx : -2147483648 ≤ x ∧ x ≤ 2147483647) (hwi : ∀ j, j < jn → 0 ≤ h (t + 5) j ∧ h (t + 5) j ≤ 4) (hi : tInv h t n jn) : zCal E mX5_better 12 4 [zrv E 0, ziv x] h (fun r h' => (0 ≤ x ∧ x < jn) ∧ r = some (ziv (if oneV n jn (gOf h 32 t) (h 32 6) (h 33) = h (t + 5) x.toNat then -1 else fstB (fun v => decide ((v : Int) ≠ x ∧ oneV n jn (gSe (gOf h 32 t) (swapP (h 36) x (v : Int) jn)) (h 32 6) (h 33) = h (t + 5) x.toNat)) 0 jn)) ∧ qry h h') (fun e h' => h' = h ∧ e = NSE ∧ ¬ (0 ≤ x ∧ x < jn)) := by
  refine zCal_of (by decide) (Nat.le_of_ble_eq_true rfl) (fun a => ?_)
  show zV _ 0 0 [zrv E 0, ziv x, .null, .null] [] _
  have ht := hi.2.1.1
  have k0 := hi.1
  have hnum := hi.2.2.2.2
  have hn8 := hi.2.1.2.1
  have hjn8 := hi.2.1.2.2.1
  refine zV_aload_nr dX5_better_0 rfl rfl ?_
  refine zV_iload_n dX5_better_1 rfl rfl ?_
  refine zV_callV (As := [ziv x]) lk5_167 (rfl) rfl rfl (c5_needJudge ht k0 hi.2.1.2.2.2.2.1 hi.2.1.2.2.1 (by omega)) ⟨Nat.le_of_ble_eq_true rfl, Nat.le_of_ble_eq_true rfl⟩ rfl (Nat.le_of_ble_eq_true rfl) dX5_better_2 (fun e h2 z => ⟨z.2.1, z.1, z.2.2⟩) (fun r h' q => ?_)
  obtain ⟨rfl, hh, cj⟩ := q
  rw [hh]
  refine zV_aload_nr dX5_better_5 rfl rfl ?_
  refine gf5_20 (t := t) (k0) rfl (rfl) dX5_better_6 ?_
  refine gf5_176 rfl (court_0 ht) dX5_better_9 ?_
  refine zV_iload_n dX5_better_12 rfl rfl ?_
  refine zV_iaload (N := 8) (court_5 ht) (by omega) (by decide) dX5_better_13 ?_
  refine zV_istore_n dX5_better_14 rfl (Nat.le_of_ble_eq_true rfl) rfl ?_
  refine zV_aload_nr dX5_better_15 rfl rfl ?_
  refine zV_callV (As := []) lk5_248 (rfl) rfl rfl (c5_startTrial 11 0 (by decide)) ⟨by show _ + 1 ≤ 12; omega, by show _ ≤ 4; omega⟩ rfl (Nat.le_of_ble_eq_true rfl) dX5_better_16 (fun _ _ z => z.elim) (fun r h' q => ?_)
  obtain ⟨rfl, q⟩ := q
  have tr := tri_0 hi q
  have k0 : h' 0 3 = (t : Int) := by rw [tr.1 0 (by omega)]; exact hi.1
  refine zV_aload_nr dX5_better_19 rfl rfl ?_
  refine zV_callV (As := []) lk5_264 (rfl) rfl rfl (c5_nextVerdict 11 0 (by decide) k0 (tri_ct hi.2.1 tr) tr.2.2.2.2.2.1 tr.2.2.2.2.2.2) ⟨by show _ + 1 ≤ 12; omega, by show _ ≤ 4; omega⟩ rfl (Nat.le_of_ble_eq_true rfl) dX5_better_20 (fun _ _ z => z.elim) (fun r h' q => ?_)
  obtain ⟨rfl, q⟩ := q
  have tr2 := tri_s hi.2.1 (by omega) tr q
  have w8 := oneV_eq (ca := h 32 6) (x := xOf h 32) (p := h 33) (gag_rfl n jn (gOf h 32 t)) hi.2.2.1.2.2.2.2.1 (agn_rfl _ _)
  rw [(tr2.2.2.1 (by omega)).1, show (0 + 1 : Nat) = 1 from rfl, w8]
  have o5 := oneV_lo n jn (gOf h 32 t) (h 32 6) (h 33)
  have hw5 := hwi x.toNat (by omega)
  refine zV_iload_n dX5_better_23 rfl rfl ?_
  refine zR_icmp_ne (tgt := 29) dX5_better_24 (by decide) (by omega) (by omega) (fun h24 => ?_) (fun h24 => ?_)
  · refine zV_iconst dX5_better_29 ?_
    refine zV_istore_n dX5_better_30 rfl (Nat.le_of_ble_eq_true rfl) rfl ?_
    have L31 : ∀ (m : Nat) (s : Nat) (h1 : zH), (jn + 1 ≤ s + m) → (s ≤ jn) → (qr h h1) → (fstB (fun v => decide ((v : Int) ≠ x ∧ oneV n jn (gSe (gOf h 32 t) (swapP (h 36) x (v : Int) jn)) (h 32 6) (h 33) = h (t + 5) x.toNat)) 0 jn = fstB (fun v => decide ((v : Int) ≠ x ∧ oneV n jn (gSe (gOf h 32 t) (swapP (h 36) x (v : Int) jn)) (h 32 6) (h 33) = h (t + 5) x.toNat)) s (jn - s)) → zV (E, mX5_better, 12, 4, (fun r h' => (0 ≤ x ∧ x < jn) ∧ r = some (ziv (if oneV n jn (gOf h 32 t) (h 32 6) (h 33) = h (t + 5) x.toNat then -1 else fstB (fun v => decide ((v : Int) ≠ x ∧ oneV n jn (gSe (gOf h 32 t) (swapP (h 36) x (v : Int) jn)) (h 32 6) (h 33) = h (t + 5) x.toNat)) 0 jn)) ∧ qry h h'), (fun e h' => h' = h ∧ e = NSE ∧ ¬ (0 ≤ x ∧ x < jn)), a) 1 31 [zrv E 0, ziv x, ziv (h (t + 5) x.toNat), ziv (s : Int)] [] h1 := by
      intro m
      induction m with
      | zero => intro s h1 hm_ hsn hq hf; exfalso; omega
      | succ m ih =>
        intro s h1 hm_ hsn hq hf
        obtain ⟨hi1, g1, g2, g3⟩ := qr_inv hi hq
        have k0 : h1 0 3 = (t : Int) := hi1.1
        refine zV_iload_n dX5_better_31 rfl rfl ?_
        refine zV_aload_nr dX5_better_32 rfl rfl ?_
        refine gf5_20 (t := t) (k0) rfl (rfl) dX5_better_33 ?_
        refine gf5_109 rfl (court_0 ht) dX5_better_36 ?_
        rw [hi1.2.1.2.2.2.2.1]
        refine zR_icmp_ge (tgt := 83) dX5_better_39 (by decide) (by omega) (by omega) (fun h39 => ?_) (fun h39 => ?_)
        · refine zV_iconst dX5_better_83 ?_
          exact zV_ireturn dX5_better_84 rfl (Nat.le_of_ble_eq_true rfl) ⟨cj, by rw [if_neg h24, hf, show jn - s = 0 by omega]; rfl, qr_qry hq⟩
        · refine zV_iload_n dX5_better_42 rfl rfl ?_
          refine zV_iload_n dX5_better_43 rfl rfl ?_
          refine zR_icmp_eq (tgt := 77) dX5_better_44 (by decide) (by omega) (by omega) (fun h44 => ?_) (fun h44 => ?_)
          · refine zV_iinc dX5_better_77 rfl (Nat.le_of_ble_eq_true rfl) rfl ?_
            refine zV_goto (tgt := 31) dX5_better_80 (by decide) ?_
            exact ih (s + 1) _ (by omega) (by omega) hq (by rw [hf, show jn - s = (jn - (s + 1)) + 1 by omega, fstB_s, if_neg (fun z => (of_decide_eq_true z).1 h44)])
          · refine zV_aload_nr dX5_better_47 rfl rfl ?_
            refine zV_callV (As := []) lk5_248 (rfl) rfl rfl (c5_startTrial 11 0 (by decide)) ⟨by show _ + 1 ≤ 12; omega, by show _ ≤ 4; omega⟩ rfl (Nat.le_of_ble_eq_true rfl) dX5_better_48 (fun _ _ z => z.elim) (fun r h5 q => ?_)
            obtain ⟨rfl, q⟩ := q
            have tr := tri_0 hi1 q
            rw [g1] at tr
            have k0 : h5 0 3 = (t : Int) := by rw [tr.1 0 (by omega)]; exact hi1.1
            refine zV_aload_nr dX5_better_51 rfl rfl ?_
            refine gf5_51 rfl (rfl) dX5_better_52 ?_
            refine zV_teq (w := zrv E 53) rfl ?_
            refine zV_iload_n dX5_better_55 rfl rfl ?_
            refine zV_iload_n dX5_better_56 rfl rfl ?_
            refine zV_aload_nr dX5_better_57 rfl rfl ?_
            refine gf5_20 (t := t) (k0) rfl (rfl) dX5_better_58 ?_
            refine gf5_109 rfl (court_0 ht) dX5_better_61 ?_
            rw [show h5 t 3 = (jn : Int) from (tri_ct hi1.2.1 tr).2.2.2.2.1]
            refine zV_callV (As := [ziv x, ziv (s : Int), ziv (jn : Int)]) lk5_238 (rfl) rfl rfl (c2_swap 11 0 (by decide) (Or.inr (Or.inr rfl)) (by omega) (by omega) hjn8 (fun i hi9 => by have := tr.2.2.2.2.2.1.2.2.2.2.1 i hi9; omega)) ⟨by show _ + 1 ≤ 12; omega, by show _ ≤ 4; omega⟩ rfl (Nat.le_of_ble_eq_true rfl) dX5_better_64 (fun _ _ z => z.elim) (fun r h' q => ?_)
            obtain ⟨rfl, hh⟩ := q
            rw [hh]
            have m9 := mod57 (f := swapP (h5 57) x (s : Int) jn) hi1 tr (swapP_lo tr.2.2.2.2.2.1.2.2.2.2.1 (by omega) (by omega))
            have g9 := m9.2.2.2.2.2.2 (swapP (h 36) x (s : Int) jn) (swapP_congr (by have := tr.2.2.2.1.1; exact this))
            refine zV_aload_nr dX5_better_67 rfl rfl ?_
            refine zV_callV (As := []) lk5_264 (rfl) rfl rfl (c5_nextVerdict 11 0 (by decide) m9.1 m9.2.1 m9.2.2.2.2.1 m9.2.2.2.1) ⟨by show _ + 1 ≤ 12; omega, by show _ ≤ 4; omega⟩ rfl (Nat.le_of_ble_eq_true rfl) dX5_better_68 (fun _ _ z => z.elim) (fun r h' q => ?_)
            obtain ⟨rfl, q9⟩ := q
            have w9 := tri_one (p := h 33) (g := gSe (gOf h 32 t) (swapP (h 36) x (s : Int) jn)) hi1 m9.2.2.1 (by rw [zst_ne (by omega)]; refine agn_trans tr.2.1 ?_; show agn n (h1 33) (h 33); rw [hq.1 33 (by omega)]; exact agn_rfl _ _) g9 m9.2.2.2.2.2.1 m9.2.2.2.2.1 m9.2.2.2.1 q9
            rw [g3] at w9
            rw [w9.1]
            refine zV_iload_n dX5_better_71 rfl rfl ?_
            have o6 := oneV_lo n jn (gSe (gOf h 32 t) (swapP (h 36) x (s : Int) jn)) (h 32 6) (h 33)
            refine zR_icmp_ne (tgt := 77) dX5_better_72 (by decide) (by omega) (by omega) (fun h72 => ?_) (fun h72 => ?_)
            · refine zV_iinc dX5_better_77 rfl (Nat.le_of_ble_eq_true rfl) rfl ?_
              refine zV_goto (tgt := 31) dX5_better_80 (by decide) ?_
              exact ih (s + 1) _ (by omega) (by omega) (qr_trans hq w9.2) (by rw [hf, show jn - s = (jn - (s + 1)) + 1 by omega, fstB_s, if_neg (fun z => h72 (of_decide_eq_true z).2)])
            · refine zV_iload_n dX5_better_75 rfl rfl ?_
              exact zV_ireturn dX5_better_76 rfl (Nat.le_of_ble_eq_true rfl) ⟨cj, by rw [if_neg h24, hf, show jn - s = (jn - (s + 1)) + 1 by omega, fstB_s, if_pos (decide_eq_true ⟨h44, h72⟩)], qr_qry (qr_trans hq w9.2)⟩
    exact L31 (jn + 1) 0 _ (by omega) (by omega) (qr_tri tr2) rfl
  · refine zV_iconst dX5_better_27 ?_
    exact zV_ireturn dX5_better_28 rfl (Nat.le_of_ble_eq_true rfl) ⟨cj, by rw [if_pos h24], qry_tri tr2⟩
