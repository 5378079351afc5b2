/-! WHAT IS ASKED OF THE CASES AHEAD -/
def qry (h h' : zH) : Prop := (∀ c2 : Nat, c2 ≠ 0 → (c2 < 28 ∨ (30 < c2 ∧ c2 < 53) ∨ 63 < c2) → h' c2 = h c2) ∧ (∀ j, j ≠ 15 → h' 0 j = h 0 j) ∧ rkOK h'
theorem qry_tri {h h' : zH} {t n jn k : Nat} {g : zG} {x : (Nat → Int) × Int × Int × (Nat → Int)} (h0 : tri h t n jn g x k h') : qry h h' := ⟨fun c2 _ hh => h0.1 c2 hh, fun j _ => by rw [h0.1 0 (by omega)], h0.2.2.2.2.2.2⟩
theorem qry_trans {h h1 h2 : zH} (a : qry h h1) (b : qry h1 h2) : qry h h2 := ⟨fun c2 c0 hh => (b.1 c2 c0 hh).trans (a.1 c2 c0 hh), fun j hj => (b.2.1 j hj).trans (a.2.1 j hj), b.2.2⟩
theorem tri_put {h h1 h2 : zH} {t n jn k : Nat} {g : zG} {x : (Nat → Int) × Int × Int × (Nat → Int)} (ht : isCourt t) (h0 : tri h t n jn g x k h1) (e : ∀ c2 : Nat, c2 < 59 → h2 c2 = h1 c2) (e2 : ∀ c2 : Nat, 63 < c2 → h2 c2 = h1 c2) : tri h t n jn g x k h2 := by
  have ht9 : t = 2 ∨ t = 16 := ht
  obtain ⟨a0, a1, a2, a3, a4, a5, a6⟩ := h0
  have ct : ∀ o, o ≤ 11 → h2 (t + o) = h1 (t + o) := fun o ho => e _ (by omega)
  have eg : gOf h2 53 t = gOf h1 53 t := by
    unfold gOf
    rw [e (53 + 4) (by omega), e (53 + 3) (by omega), e (53 + 2) (by omega), e 53 (by omega), ct 2 (by omega), ct 6 (by omega), ct 10 (by omega), ruleV_congr (ct 7 (by omega)) (ct 8 (by omega)) (ct 9 (by omega)), ruleV_congr (ct 7 (by omega)) (ct 8 (by omega)) (ct 9 (by omega))]
  refine ⟨fun c2 hh => ?_, by rw [e 54 (by omega)]; exact a1, by rw [e 53 (by omega), e 58 (by omega)]; exact a2, by rw [eg]; exact a3, by rw [e 53 (by omega)]; exact a4, ?_, fun j j1 j2 => by rw [e 28 (by omega)]; exact a6 j j1 j2⟩
  · rcases hh with hh | hh | hh
    · rw [e c2 (by omega)]; exact a0 c2 (by omega)
    · rw [e c2 (by omega)]; exact a0 c2 (by omega)
    · rw [e2 c2 hh]; exact a0 c2 (by omega)
  · obtain ⟨c1, c2, c3, c4, c5, c6, c7⟩ := a5
    exact ⟨c1, by rw [e 54 (by omega)]; exact c2, by rw [e 55 (by omega)]; exact c3, by rw [e 56 (by omega)]; exact c4, by rw [e 57 (by omega)]; exact c5, by rw [e 53 (by omega)]; exact c6, by rw [e 53 (by omega)]; exact c7⟩
/-- the verdict of the k-th case ahead -/
def latN (h : zH) (t n jn k : Nat) : Int := (nowR h t n jn k).2.1
theorem nowR_lo {h : zH} {t n jn : Nat} (hi : tInv h t n jn) (k : Nat) : (∀ l, l < n → 0 ≤ (nowR h t n jn k).1 l ∧ (nowR h t n jn k).1 l < 12) ∧ (1 ≤ k → 0 ≤ latN h t n jn k ∧ latN h t n jn k < 5) := runG_lo (g := gOf h 32 t) hi.2.2.1.2.1 hi.2.2.1.2.2.2.2.2.1 k
/-- how often v is among f 1 .. f m -/
def oftS (f : Nat → Int) (v : Int) : Nat → Int
  | 0 => 0
  | m + 1 => if f (m + 1) = v then oftS f v m + 1 else oftS f v m
theorem oftS_lo (f : Nat → Int) (v : Int) (m : Nat) : 0 ≤ oftS f v m ∧ oftS f v m ≤ m := by
  induction m with
  | zero => simp [oftS]
  | succ m ih => unfold oftS; split <;> omega
/-- the first s, of m from s on, with b -/
def fstB (b : Nat → Bool) : Nat → Nat → Int
  | _, 0 => -1
  | s, m + 1 => if b s = true then (s : Int) else fstB b (s + 1) m
theorem fstB_s (b : Nat → Bool) (s m : Nat) : fstB b s (m + 1) = if b s = true then (s : Int) else fstB b (s + 1) m := rfl
def swpS (p : Nat → Nat → Int) (n : Nat) : Nat → Int
  | 0 => bitsP (p 0) n 0
  | k + 1 => zor (swpS p n k) (bitsP (p (k + 1)) n 0)
def cameS (f : Nat → Int) : Nat → Int
  | 0 => 0
  | k + 1 => zor (cameS f k) (zshl 1 (f (k + 1)))
/-- the longest row, the last row, of f 1 .. f k -/
def strS (f : Nat → Int) : Nat → Int × Int
  | 0 => (0, 0)
  | k + 1 => (max (strS f k).1 (if f (k + 1) = (if k = 0 then -1 else f k) then (strS f k).2 + 1 else 1), if f (k + 1) = (if k = 0 then -1 else f k) then (strS f k).2 + 1 else 1)
theorem strS_lo (f : Nat → Int) (k : Nat) : 0 ≤ (strS f k).1 ∧ (strS f k).1 ≤ k ∧ 0 ≤ (strS f k).2 ∧ (strS f k).2 ≤ k := by
  induction k with
  | zero => simp [strS]
  | succ k ih => unfold strS; dsimp only; split <;> omega
theorem bitsP_congr {p q : Nat → Int} {a : Int} : ∀ n, agn n p q → bitsP p n a = bitsP q n a := by
  intro n
  induction n with
  | zero => intro _; rfl
  | succ n ih => intro h; unfold bitsP; rw [ih (agn_le (by omega) h), h n (by omega)]
theorem likeB_congr {p q r : Nat → Int} : ∀ n, agn n p q → likeB p r n = likeB q r n := by
  intro n
  induction n with
  | zero => intro _; rfl
  | succ n ih => intro h; rw [likeB_s, likeB_s, ih (agn_le (by omega) h), h n (by omega)]

set_option maxRecDepth 100000 in
theorem c5_verdict {E : zE} {h : zH} {t n jn : Nat} {x w : Int} (hx : -2147483648 ≤ x ∧ x ≤ 2147483647) (hw : -2147483648 ≤ w ∧ w ≤ 2147483647) (hi : tInv h t n jn) : zCal E mX5_verdict 12 4 [zrv E 0, ziv x, ziv w] h (fun r h' => (0 ≤ w ∧ w ≤ 1) ∧ (1 ≤ x ∧ x ≤ 60) ∧ r = some (ziv (if w = 0 then (nowR h t n jn x.toNat).2.1 else (nowR h t n jn x.toNat).2.2.1)) ∧ qry h h') (fun e h' => h' = h ∧ ((e = NSE ∧ ¬ (0 ≤ w ∧ w ≤ 1)) ∨ (e = IAE ∧ ((0 ≤ w ∧ w ≤ 1) ∧ ¬ (1 ≤ x ∧ x ≤ 60))))) := by
  refine zCal_of (by decide) (Nat.le_of_ble_eq_true rfl) (fun a => ?_)
  show zV _ 0 0 [zrv E 0, ziv x, ziv w] [] _
  have ht := hi.2.1.1
  have k0 := hi.1
  have hnum := hi.2.2.2.2
  have hn8 := hi.2.1.2.1
  have hjn8 := hi.2.1.2.2.1
  refine zV_iload_n dX5_verdict_0 rfl rfl ?_
  refine zV_iconst dX5_verdict_1 ?_
  refine zV_callS (As := [ziv w, ziv 1]) lk5_251 (c5_needWhat (by omega) (by decide)) ⟨Nat.le_of_ble_eq_true rfl, Nat.le_of_ble_eq_true rfl⟩ rfl (Nat.le_of_ble_eq_true rfl) dX5_verdict_2 (fun e h2 z => ⟨z.2.1, Or.inl ⟨z.1, z.2.2⟩⟩) (fun r h' q => ?_)
  obtain ⟨rfl, hh, cw⟩ := q
  rw [hh]
  refine zV_iload_n dX5_verdict_5 rfl rfl ?_
  refine zV_iconst dX5_verdict_6 ?_
  refine zV_bipush dX5_verdict_7 (by decide) ?_
  refine zV_callS (As := [ziv x, ziv 1, ziv 60]) lk5_208 (c5_needWithin (by omega) (by decide) (by decide)) ⟨Nat.le_of_ble_eq_true rfl, Nat.le_of_ble_eq_true rfl⟩ rfl (Nat.le_of_ble_eq_true rfl) dX5_verdict_9 (fun e h2 z => ⟨z.2.1, Or.inr ⟨z.1, cw, z.2.2⟩⟩) (fun r h' q => ?_)
  obtain ⟨rfl, hh, ci⟩ := q
  rw [hh]
  refine zV_aload_nr dX5_verdict_12 rfl rfl ?_
  refine zV_iload_n dX5_verdict_13 rfl rfl ?_
  refine zV_callV (As := [ziv x]) lk5_255 (rfl) rfl rfl (c5_goAhead 11 0 (by decide) hi (by omega)) ⟨by show _ + 1 ≤ 12; omega, by show _ ≤ 4; omega⟩ rfl (Nat.le_of_ble_eq_true rfl) dX5_verdict_14 (fun _ _ z => z.elim) (fun r h' q => ?_)
  obtain ⟨rfl, tr⟩ := q
  have t3 := tr.2.2.1 (by omega)
  refine zV_iload_n dX5_verdict_17 rfl rfl ?_
  refine zR_if_ne (tgt := 31) dX5_verdict_18 (by decide) (by omega) (fun h18 => ?_) (fun h18 => ?_)
  · refine zV_aload_nr dX5_verdict_31 rfl rfl ?_
    refine gf5_51 rfl (rfl) dX5_verdict_32 ?_
    refine zV_teq (w := zrv E 53) rfl ?_
    refine gf5_258 rfl rfl dX5_verdict_35 ?_
    exact zV_ireturn dX5_verdict_38 rfl (Nat.le_of_ble_eq_true rfl) ⟨cw, ci, by rw [if_neg h18, t3.2.1]; rfl, qry_tri tr⟩
  · refine zV_aload_nr dX5_verdict_21 rfl rfl ?_
    refine gf5_51 rfl (rfl) dX5_verdict_22 ?_
    refine zV_teq (w := zrv E 53) rfl ?_
    refine gf5_121 rfl rfl dX5_verdict_25 ?_
    refine zV_goto (tgt := 38) dX5_verdict_28 (by decide) ?_
    exact zV_ireturn dX5_verdict_38 rfl (Nat.le_of_ble_eq_true rfl) ⟨cw, ci, by rw [if_pos h18, t3.1]; rfl, qry_tri tr⟩
set_option maxRecDepth 100000 in
theorem c5_lies {E : zE} {h : zH} {t n jn : Nat} {x y : Int} (hx : -2147483648 ≤ x ∧ x ≤ 2147483647) (hy : -2147483648 ≤ y ∧ y ≤ 2147483647) (hi : tInv h t n jn) : zCal E mX5_lies 12 4 [zrv E 0, ziv x, ziv y] h (fun r h' => (0 ≤ x ∧ x < n) ∧ (0 ≤ y ∧ y ≤ 60) ∧ r = some (ziv ((nowR h t n jn y.toNat).1 x.toNat)) ∧ qry h h') (fun e h' => h' = h ∧ ((e = NSE ∧ ¬ (0 ≤ x ∧ x < n)) ∨ (e = IAE ∧ ((0 ≤ x ∧ x < n) ∧ ¬ (0 ≤ y ∧ y ≤ 60))))) := by
  refine zCal_of (by decide) (Nat.le_of_ble_eq_true rfl) (fun a => ?_)
  show zV _ 0 0 [zrv E 0, ziv x, ziv y] [] _
  have ht := hi.2.1.1
  have k0 := hi.1
  have hnum := hi.2.2.2.2
  have hn8 := hi.2.1.2.1
  have hjn8 := hi.2.1.2.2.1
  refine zV_aload_nr dX5_lies_0 rfl rfl ?_
  refine zV_iload_n dX5_lies_1 rfl rfl ?_
  refine zV_callV (As := [ziv x]) lk5_156 (rfl) rfl rfl (c5_needLeaf ht k0 hi.2.1.2.2.2.1 hi.2.1.2.1 (by omega)) ⟨Nat.le_of_ble_eq_true rfl, Nat.le_of_ble_eq_true rfl⟩ rfl (Nat.le_of_ble_eq_true rfl) dX5_lies_2 (fun e h2 z => ⟨z.2.1, Or.inl ⟨z.1, z.2.2⟩⟩) (fun r h' q => ?_)
  obtain ⟨rfl, hh, cl⟩ := q
  rw [hh]
  refine zV_iload_n dX5_lies_5 rfl rfl ?_
  refine zV_iconst dX5_lies_6 ?_
  refine zV_bipush dX5_lies_7 (by decide) ?_
  refine zV_callS (As := [ziv y, ziv 0, ziv 60]) lk5_208 (c5_needWithin (by omega) (by decide) (by decide)) ⟨Nat.le_of_ble_eq_true rfl, Nat.le_of_ble_eq_true rfl⟩ rfl (Nat.le_of_ble_eq_true rfl) dX5_lies_9 (fun e h2 z => ⟨z.2.1, Or.inr ⟨z.1, cl, z.2.2⟩⟩) (fun r h' q => ?_)
  obtain ⟨rfl, hh, ci⟩ := q
  rw [hh]
  refine zV_aload_nr dX5_lies_12 rfl rfl ?_
  refine zV_iload_n dX5_lies_13 rfl rfl ?_
  refine zV_callV (As := [ziv y]) lk5_255 (rfl) rfl rfl (c5_goAhead 11 0 (by decide) hi (by omega)) ⟨by show _ + 1 ≤ 12; omega, by show _ ≤ 4; omega⟩ rfl (Nat.le_of_ble_eq_true rfl) dX5_lies_14 (fun _ _ z => z.elim) (fun r h' q => ?_)
  obtain ⟨rfl, tr⟩ := q
  refine zV_aload_nr dX5_lies_17 rfl rfl ?_
  refine gf5_51 rfl (rfl) dX5_lies_18 ?_
  refine zV_teq (w := zrv E 53) rfl ?_
  refine gf5_159 rfl (rfl) dX5_lies_21 ?_
  refine zV_teq (w := zrv E 54) rfl ?_
  refine zV_iload_n dX5_lies_24 rfl rfl ?_
  refine zV_iaload (N := 8) (rfl) (by omega) (by decide) dX5_lies_25 ?_
  exact zV_ireturn dX5_lies_26 rfl (Nat.le_of_ble_eq_true rfl) ⟨cl, ci, by rw [tr.2.1 x.toNat (by omega)]; rfl, qry_tri tr⟩
set_option maxRecDepth 100000 in
theorem c5_often {E : zE} {h : zH} {t n jn : Nat} {x y : Int} (hx : -2147483648 ≤ x ∧ x ≤ 2147483647) (hy : -2147483648 ≤ y ∧ y ≤ 2147483647) (hi : tInv h t n jn) : zCal E mX5_often 12 4 [zrv E 0, ziv x, ziv y] h (fun r h' => (0 ≤ x ∧ x < 5) ∧ (0 ≤ y ∧ y ≤ 60) ∧ r = some (ziv (oftS (latN h t n jn) x y.toNat)) ∧ qry h h') (fun e h' => h' = h ∧ ((e = NSE ∧ ¬ (0 ≤ x ∧ x < 5)) ∨ (e = IAE ∧ ((0 ≤ x ∧ x < 5) ∧ ¬ (0 ≤ y ∧ y ≤ 60))))) := by
  refine zCal_of (by decide) (Nat.le_of_ble_eq_true rfl) (fun a => ?_)
  show zV _ 0 0 [zrv E 0, ziv x, ziv y, .null, .null] [] _
  have ht := hi.2.1.1
  have k0 := hi.1
  have hnum := hi.2.2.2.2
  have hn8 := hi.2.1.2.1
  have hjn8 := hi.2.1.2.2.1
  refine zV_iload_n dX5_often_0 rfl rfl ?_
  refine zV_callS (As := [ziv x]) lk5_261 (c5_needVerdict (by omega)) ⟨Nat.le_of_ble_eq_true rfl, Nat.le_of_ble_eq_true rfl⟩ rfl (Nat.le_of_ble_eq_true rfl) dX5_often_1 (fun e h2 z => ⟨z.2.1, Or.inl ⟨z.1, z.2.2⟩⟩) (fun r h' q => ?_)
  obtain ⟨rfl, hh, cv⟩ := q
  rw [hh]
  refine zV_iload_n dX5_often_4 rfl rfl ?_
  refine zV_iconst dX5_often_5 ?_
  refine zV_bipush dX5_often_6 (by decide) ?_
  refine zV_callS (As := [ziv y, ziv 0, ziv 60]) lk5_208 (c5_needWithin (by omega) (by decide) (by decide)) ⟨Nat.le_of_ble_eq_true rfl, Nat.le_of_ble_eq_true rfl⟩ rfl (Nat.le_of_ble_eq_true rfl) dX5_often_8 (fun e h2 z => ⟨z.2.1, Or.inr ⟨z.1, cv, z.2.2⟩⟩) (fun r h' q => ?_)
  obtain ⟨rfl, hh, ci⟩ := q
  rw [hh]
  obtain ⟨kk, hkk⟩ : ∃ z : Nat, y = (z : Int) := ⟨y.toNat, by omega⟩
  refine zV_aload_nr dX5_often_11 rfl rfl ?_
  refine zV_callV (As := []) lk5_248 (rfl) rfl rfl (c5_startTrial 11 0 (by decide)) ⟨by show _ + 1 ≤ 12; omega, by show _ ≤ 4; omega⟩ rfl (Nat.le_of_ble_eq_true rfl) dX5_often_12 (fun _ _ z => z.elim) (fun r h' q => ?_)
  obtain ⟨rfl, q⟩ := q
  refine zV_iconst dX5_often_15 ?_
  refine zV_istore_n dX5_often_16 rfl (Nat.le_of_ble_eq_true rfl) rfl ?_
  refine zV_iconst dX5_often_17 ?_
  refine zV_istore dX5_often_18 (Nat.le_of_ble_eq_true rfl) rfl ?_
  have L20 : ∀ (m : Nat) (s : Nat) (h1 : zH), (kk + 1 ≤ s + m) → (s ≤ kk) → (tri h t n jn (gOf h 32 t) (xOf h 32) s h1) → zV (E, mX5_often, 12, 4, (fun r h' => (0 ≤ x ∧ x < 5) ∧ (0 ≤ y ∧ y ≤ 60) ∧ r = some (ziv (oftS (latN h t n jn) x y.toNat)) ∧ qry h h'), (fun e h' => h' = h ∧ ((e = NSE ∧ ¬ (0 ≤ x ∧ x < 5)) ∨ (e = IAE ∧ ((0 ≤ x ∧ x < 5) ∧ ¬ (0 ≤ y ∧ y ≤ 60))))), a) 2 20 [zrv E 0, ziv x, ziv y, ziv (oftS (latN h t n jn) x s), ziv (s : Int)] [] h1 := by
    intro m
    induction m with
    | zero => intro s h1 hm_ hsn tr; exfalso; omega
    | succ m ih =>
      intro s h1 hm_ hsn tr
      have k0 : h1 0 3 = (t : Int) := by rw [tr.1 0 (by omega)]; exact hi.1
      have hct2 := tri_ct hi.2.1 tr
      refine zV_iload dX5_often_20 rfl ?_
      refine zV_iload_n dX5_often_22 rfl rfl ?_
      refine zR_icmp_ge (tgt := 43) dX5_often_23 (by decide) (by omega) (by omega) (fun h23 => ?_) (fun h23 => ?_)
      · refine zV_iload_n dX5_often_43 rfl rfl ?_
        exact zV_ireturn dX5_often_44 rfl (Nat.le_of_ble_eq_true rfl) ⟨cv, ci, by rw [show y.toNat = s by omega], qry_tri tr⟩
      · refine zV_aload_nr dX5_often_26 rfl rfl ?_
        refine zV_callV (As := []) lk5_264 (rfl) rfl rfl (c5_nextVerdict 11 0 (by decide) k0 hct2 tr.2.2.2.2.2.1 tr.2.2.2.2.2.2) ⟨by show _ + 1 ≤ 12; omega, by show _ ≤ 4; omega⟩ rfl (Nat.le_of_ble_eq_true rfl) dX5_often_27 (fun _ _ z => z.elim) (fun r h' q => ?_)
        obtain ⟨rfl, q⟩ := q
        have tr2 := tri_s hi.2.1 (by omega) tr q
        rw [(tr2.2.2.1 (by omega)).1]
        refine zV_iload_n dX5_often_30 rfl rfl ?_
        have hl5 := (nowR_lo hi (s + 1)).2 (by omega)
        refine zR_icmp_ne (tgt := 37) dX5_often_31 (by decide) (by unfold latN nowR runH at hl5; omega) (by omega) (fun h31 => ?_) (fun h31 => ?_)
        · refine zV_iinc dX5_often_37 rfl (Nat.le_of_ble_eq_true rfl) rfl ?_
          refine zV_goto (tgt := 20) dX5_often_40 (by decide) ?_
          refine zV_lveq (lv' := [zrv E 0, ziv x, ziv y, ziv (oftS (latN h t n jn) x (s + 1)), ziv ((s + 1 : Nat) : Int)]) (by rw [show oftS (latN h t n jn) x (s + 1) = oftS (latN h t n jn) x s from if_neg h31]; rfl) ?_
          exact ih (s + 1) _ (by omega) (by omega) tr2
        · refine zV_iinc dX5_often_34 rfl (Nat.le_of_ble_eq_true rfl) rfl ?_
          refine zV_iinc dX5_often_37 rfl (Nat.le_of_ble_eq_true rfl) rfl ?_
          refine zV_goto (tgt := 20) dX5_often_40 (by decide) ?_
          refine zV_lveq (lv' := [zrv E 0, ziv x, ziv y, ziv (oftS (latN h t n jn) x (s + 1)), ziv ((s + 1 : Nat) : Int)]) (by rw [show oftS (latN h t n jn) x (s + 1) = oftS (latN h t n jn) x s + 1 from if_pos h31]; rfl) ?_
          exact ih (s + 1) _ (by omega) (by omega) tr2
  exact L20 (kk + 1) 0 _ (by omega) (by omega) (tri_0 hi q)
set_option maxRecDepth 100000 in
theorem c5_first {E : zE} {h : zH} {t n jn : Nat} {x : Int} (hx : -2147483648 ≤ x ∧ x ≤ 2147483647) (hi : tInv h t n jn) : zCal E mX5_first 12 4 [zrv E 0, ziv x] h (fun r h' => (0 ≤ x ∧ x < 5) ∧ r = some (ziv (fstB (fun k => decide (latN h t n jn k = x)) 1 60)) ∧ qry h h') (fun e h' => h' = h ∧ e = NSE ∧ ¬ (0 ≤ x ∧ x < 5)) := by
  refine zCal_of (by decide) (Nat.le_of_ble_eq_true rfl) (fun a => ?_)
  show zV _ 0 0 [zrv E 0, ziv x, .null] [] _
  have ht := hi.2.1.1
  have k0 := hi.1
  have hnum := hi.2.2.2.2
  have hn8 := hi.2.1.2.1
  have hjn8 := hi.2.1.2.2.1
  refine zV_iload_n dX5_first_0 rfl rfl ?_
  refine zV_callS (As := [ziv x]) lk5_261 (c5_needVerdict (by omega)) ⟨Nat.le_of_ble_eq_true rfl, Nat.le_of_ble_eq_true rfl⟩ rfl (Nat.le_of_ble_eq_true rfl) dX5_first_1 (fun e h2 z => ⟨z.2.1, z.1, z.2.2⟩) (fun r h' q => ?_)
  obtain ⟨rfl, hh, cv⟩ := q
  rw [hh]
  refine zV_aload_nr dX5_first_4 rfl rfl ?_
  refine zV_callV (As := []) lk5_248 (rfl) rfl rfl (c5_startTrial 11 0 (by decide)) ⟨by show _ + 1 ≤ 12; omega, by show _ ≤ 4; omega⟩ rfl (Nat.le_of_ble_eq_true rfl) dX5_first_5 (fun _ _ z => z.elim) (fun r h' q => ?_)
  obtain ⟨rfl, q⟩ := q
  refine zV_iconst dX5_first_8 ?_
  refine zV_istore_n dX5_first_9 rfl (Nat.le_of_ble_eq_true rfl) rfl ?_
  have L10 : ∀ (m : Nat) (s : Nat) (h1 : zH), (61 ≤ s + m) → (s ≤ 60) → (tri h t n jn (gOf h 32 t) (xOf h 32) s h1) → (fstB (fun k => decide (latN h t n jn k = x)) 1 60 = fstB (fun k => decide (latN h t n jn k = x)) (s + 1) (60 - s)) → zV (E, mX5_first, 12, 4, (fun r h' => (0 ≤ x ∧ x < 5) ∧ r = some (ziv (fstB (fun k => decide (latN h t n jn k = x)) 1 60)) ∧ qry h h'), (fun e h' => h' = h ∧ e = NSE ∧ ¬ (0 ≤ x ∧ x < 5)), a) 1 10 [zrv E 0, ziv x, ziv ((s + 1 : Nat) : Int)] [] h1 := by
    intro m
    induction m with
    | zero => intro s h1 hm_ hsn tr hf; exfalso; omega
    | succ m ih =>
      intro s h1 hm_ hsn tr hf
      have k0 : h1 0 3 = (t : Int) := by rw [tr.1 0 (by omega)]; exact hi.1
      have hct2 := tri_ct hi.2.1 tr
      refine zV_iload_n dX5_first_10 rfl rfl ?_
      refine zV_bipush dX5_first_11 (by decide) ?_
      refine zR_icmp_gt (tgt := 32) dX5_first_13 (by decide) (by omega) (by omega) (fun h13 => ?_) (fun h13 => ?_)
      · refine zV_iconst dX5_first_32 ?_
        exact zV_ireturn dX5_first_33 rfl (Nat.le_of_ble_eq_true rfl) ⟨cv, by rw [hf, show 60 - s = 0 by omega]; rfl, qry_tri tr⟩
      · refine zV_aload_nr dX5_first_16 rfl rfl ?_
        refine zV_callV (As := []) lk5_264 (rfl) rfl rfl (c5_nextVerdict 11 0 (by decide) k0 hct2 tr.2.2.2.2.2.1 tr.2.2.2.2.2.2) ⟨by show _ + 1 ≤ 12; omega, by show _ ≤ 4; omega⟩ rfl (Nat.le_of_ble_eq_true rfl) dX5_first_17 (fun _ _ z => z.elim) (fun r h' q => ?_)
        obtain ⟨rfl, q⟩ := q
        have tr2 := tri_s hi.2.1 (by omega) tr q
        rw [(tr2.2.2.1 (by omega)).1]
        refine zV_iload_n dX5_first_20 rfl rfl ?_
        have hl5 := (nowR_lo hi (s + 1)).2 (by omega)
        refine zR_icmp_ne (tgt := 26) dX5_first_21 (by decide) (by unfold latN nowR runH at hl5; omega) (by omega) (fun h21 => ?_) (fun h21 => ?_)
        · refine zV_iinc dX5_first_26 rfl (Nat.le_of_ble_eq_true rfl) rfl ?_
          refine zV_goto (tgt := 10) dX5_first_29 (by decide) ?_
          exact ih (s + 1) _ (by omega) (by omega) tr2 (by rw [hf, show 60 - s = (60 - (s + 1)) + 1 by omega]; rw [fstB_s, if_neg (show ¬ (decide (latN h t n jn (s + 1) = x) = true) from fun z => h21 (of_decide_eq_true z))])
        · refine zV_iload_n dX5_first_24 rfl rfl ?_
          exact zV_ireturn dX5_first_25 rfl (Nat.le_of_ble_eq_true rfl) ⟨cv, by rw [hf, show 60 - s = (60 - (s + 1)) + 1 by omega]; rw [fstB_s, if_pos (show decide (latN h t n jn (s + 1) = x) = true from decide_eq_true h21)], qry_tri tr2⟩
  exact L10 61 0 _ (by omega) (by omega) (tri_0 hi q) rfl
set_option maxRecDepth 100000 in
theorem c5_round {E : zE} {h : zH} {t n jn : Nat}  (hi : tInv h t n jn) : zCal E mX5_round 12 4 [zrv E 0] h (fun r h' => r = some (ziv (fstB (fun k => likeB (nowR h t n jn k).1 (h 33) n) 1 60)) ∧ qry h h') (fun _ _ => False) := by
  refine zCal_of (by decide) (Nat.le_of_ble_eq_true rfl) (fun a => ?_)
  show zV _ 0 0 [zrv E 0, .null] [] _
  have ht := hi.2.1.1
  have k0 := hi.1
  have hnum := hi.2.2.2.2
  have hn8 := hi.2.1.2.1
  have hjn8 := hi.2.1.2.2.1
  refine zV_aload_nr dX5_round_0 rfl rfl ?_
  refine zV_callV (As := []) lk5_248 (rfl) rfl rfl (c5_startTrial 11 0 (by decide)) ⟨by show _ + 1 ≤ 12; omega, by show _ ≤ 4; omega⟩ rfl (Nat.le_of_ble_eq_true rfl) dX5_round_1 (fun _ _ z => z.elim) (fun r h' q => ?_)
  obtain ⟨rfl, q⟩ := q
  refine zV_iconst dX5_round_4 ?_
  refine zV_istore_n dX5_round_5 rfl (Nat.le_of_ble_eq_true rfl) rfl ?_
  have L6 : ∀ (m : Nat) (s : Nat) (h1 : zH), (61 ≤ s + m) → (s ≤ 60) → (tri h t n jn (gOf h 32 t) (xOf h 32) s h1) → (fstB (fun k => likeB (nowR h t n jn k).1 (h 33) n) 1 60 = fstB (fun k => likeB (nowR h t n jn k).1 (h 33) n) (s + 1) (60 - s)) → zV (E, mX5_round, 12, 4, (fun r h' => r = some (ziv (fstB (fun k => likeB (nowR h t n jn k).1 (h 33) n) 1 60)) ∧ qry h h'), (fun _ _ => False), a) 0 6 [zrv E 0, ziv ((s + 1 : Nat) : Int)] [] h1 := by
    intro m
    induction m with
    | zero => intro s h1 hm_ hsn tr hf; exfalso; omega
    | succ m ih =>
      intro s h1 hm_ hsn tr hf
      have k0 : h1 0 3 = (t : Int) := by rw [tr.1 0 (by omega)]; exact hi.1
      have hct2 := tri_ct hi.2.1 tr
      refine zV_iload_n dX5_round_6 rfl rfl ?_
      refine zV_bipush dX5_round_7 (by decide) ?_
      refine zR_icmp_gt (tgt := 59) dX5_round_9 (by decide) (by omega) (by omega) (fun h9 => ?_) (fun h9 => ?_)
      · refine zV_iconst dX5_round_59 ?_
        exact zV_ireturn dX5_round_60 rfl (Nat.le_of_ble_eq_true rfl) ⟨by rw [hf, show 60 - s = 0 by omega]; rfl, qry_tri tr⟩
      · refine zV_aload_nr dX5_round_12 rfl rfl ?_
        refine gf5_51 rfl (rfl) dX5_round_13 ?_
        refine zV_teq (w := zrv E 53) rfl ?_
        refine zV_aload_nr dX5_round_16 rfl rfl ?_
        refine gf5_20 (t := t) (k0) rfl (rfl) dX5_round_17 ?_
        refine zV_aload_nr dX5_round_20 rfl rfl ?_
        refine gf5_34 rfl (rfl) dX5_round_21 ?_
        refine zV_teq (w := zrv E 28) rfl ?_
        refine zV_callV (As := [zrv E t, zrv E 28]) lk5_234 (rfl) rfl rfl (c2_hear 11 0 (by decide) hct2 tr.2.2.2.2.2.1 tr.2.2.2.2.2.2) ⟨by show _ + 1 ≤ 12; omega, by show _ ≤ 4; omega⟩ rfl (Nat.le_of_ble_eq_true rfl) dX5_round_24 (fun _ _ z => z.elim) (fun r h' q => ?_)
        obtain ⟨rfl, q⟩ := q
        have tr2 := tri_s hi.2.1 (by omega) tr q
        have k0 : h' 0 3 = (t : Int) := by rw [tr2.1 0 (by omega)]; exact hi.1
        have hl2 : h' t 0 = (n : Int) := (tri_ct hi.2.1 tr2).2.2.2.1
        refine zV_aload_nr dX5_round_27 rfl rfl ?_
        refine gf5_51 rfl (rfl) dX5_round_28 ?_
        refine zV_teq (w := zrv E 53) rfl ?_
        refine zV_aload_nr dX5_round_31 rfl rfl ?_
        refine gf5_41 rfl (rfl) dX5_round_32 ?_
        refine zV_teq (w := zrv E 31) rfl ?_
        refine gf5_112 rfl (rfl) dX5_round_35 ?_
        refine zV_teq (w := zrv E 32) rfl ?_
        refine zV_aload_nr dX5_round_38 rfl rfl ?_
        refine gf5_20 (t := t) (k0) rfl (rfl) dX5_round_39 ?_
        refine gf5_106 rfl (court_0 ht) dX5_round_42 ?_
        rw [hl2]
        refine zV_callV (As := [zrv E 32, ziv (n : Int)]) lk5_267 (rfl) rfl rfl (c2_liesLike 11 0 (Or.inr (Or.inr rfl)) (Or.inl rfl) hn8 tr2.2.2.2.2.2.1.2.1 (by rw [tr2.1 (32 + 1) (by omega)]; exact hi.2.2.1.2.1)) ⟨by show _ + 1 ≤ 12; omega, by show _ ≤ 4; omega⟩ rfl (Nat.le_of_ble_eq_true rfl) dX5_round_45 (fun _ _ z => z.elim) (fun r h' q => ?_)
        obtain ⟨rfl, hh⟩ := q
        rw [hh, likeB_congr n tr2.2.1, tr2.1 (32 + 1) (by omega)]
        refine zR_if_eq (tgt := 53) dX5_round_48 (by decide) (by split <;> omega) (fun h48 => ?_) (fun h48 => ?_)
        · have hb : ¬ likeB (nowR h t n jn (s + 1)).1 (h 33) n = true := fun z => by
            have h49 : (if likeB (nowR h t n jn (s + 1)).1 (h 33) n = true then (1 : Int) else 0) = 0 := h48
            rw [if_pos z] at h49
            exact absurd h49 (by decide)
          refine zV_iinc dX5_round_53 rfl (Nat.le_of_ble_eq_true rfl) rfl ?_
          refine zV_goto (tgt := 6) dX5_round_56 (by decide) ?_
          exact ih (s + 1) _ (by omega) (by omega) tr2 (by rw [hf, show 60 - s = (60 - (s + 1)) + 1 by omega]; rw [fstB_s, if_neg hb])
        · have hb : likeB (nowR h t n jn (s + 1)).1 (h 33) n = true := Decidable.byContradiction fun z => h48 (if_neg z)
          refine zV_iload_n dX5_round_51 rfl rfl ?_
          exact zV_ireturn dX5_round_52 rfl (Nat.le_of_ble_eq_true rfl) ⟨by rw [hf, show 60 - s = (60 - (s + 1)) + 1 by omega]; rw [fstB_s, if_pos hb], qry_tri tr2⟩
  exact L6 61 0 _ (by omega) (by omega) (tri_0 hi q) rfl
set_option maxRecDepth 100000 in
theorem c5_come {E : zE} {h : zH} {t n jn : Nat} {y : Int} (hy : -2147483648 ≤ y ∧ y ≤ 2147483647) (hi : tInv h t n jn) : zCal E mX5_come 12 4 [zrv E 0, ziv y] h (fun r h' => (0 ≤ y ∧ y ≤ 60) ∧ r = some (ziv (cameS (latN h t n jn) y.toNat)) ∧ qry h h') (fun e h' => h' = h ∧ e = IAE ∧ ¬ (0 ≤ y ∧ y ≤ 60)) := by
  refine zCal_of (by decide) (Nat.le_of_ble_eq_true rfl) (fun a => ?_)
  show zV _ 0 0 [zrv E 0, ziv y, .null, .null] [] _
  have ht := hi.2.1.1
  have k0 := hi.1
  have hnum := hi.2.2.2.2
  have hn8 := hi.2.1.2.1
  have hjn8 := hi.2.1.2.2.1
  refine zV_iload_n dX5_come_0 rfl rfl ?_
  refine zV_iconst dX5_come_1 ?_
  refine zV_bipush dX5_come_2 (by decide) ?_
  refine zV_callS (As := [ziv y, ziv 0, ziv 60]) lk5_208 (c5_needWithin (by omega) (by decide) (by decide)) ⟨Nat.le_of_ble_eq_true rfl, Nat.le_of_ble_eq_true rfl⟩ rfl (Nat.le_of_ble_eq_true rfl) dX5_come_4 (fun e h2 z => ⟨z.2.1, z.1, z.2.2⟩) (fun r h' q => ?_)
  obtain ⟨rfl, hh, ci⟩ := q
  rw [hh]
  obtain ⟨kk, hkk⟩ : ∃ z : Nat, y = (z : Int) := ⟨y.toNat, by omega⟩
  refine zV_aload_nr dX5_come_7 rfl rfl ?_
  refine zV_callV (As := []) lk5_248 (rfl) rfl rfl (c5_startTrial 11 0 (by decide)) ⟨by show _ + 1 ≤ 12; omega, by show _ ≤ 4; omega⟩ rfl (Nat.le_of_ble_eq_true rfl) dX5_come_8 (fun _ _ z => z.elim) (fun r h' q => ?_)
  obtain ⟨rfl, q⟩ := q
  refine zV_iconst dX5_come_11 ?_
  refine zV_istore_n dX5_come_12 rfl (Nat.le_of_ble_eq_true rfl) rfl ?_
  refine zV_iconst dX5_come_13 ?_
  refine zV_istore_n dX5_come_14 rfl (Nat.le_of_ble_eq_true rfl) rfl ?_
  have L15 : ∀ (m : Nat) (s : Nat) (h1 : zH), (kk + 1 ≤ s + m) → (s ≤ kk) → (tri h t n jn (gOf h 32 t) (xOf h 32) s h1) → zV (E, mX5_come, 12, 4, (fun r h' => (0 ≤ y ∧ y ≤ 60) ∧ r = some (ziv (cameS (latN h t n jn) y.toNat)) ∧ qry h h'), (fun e h' => h' = h ∧ e = IAE ∧ ¬ (0 ≤ y ∧ y ≤ 60)), a) 1 15 [zrv E 0, ziv y, ziv (cameS (latN h t n jn) s), ziv (s : Int)] [] h1 := by
    intro m
    induction m with
    | zero => intro s h1 hm_ hsn tr; exfalso; omega
    | succ m ih =>
      intro s h1 hm_ hsn tr
      have k0 : h1 0 3 = (t : Int) := by rw [tr.1 0 (by omega)]; exact hi.1
      have hct2 := tri_ct hi.2.1 tr
      refine zV_iload_n dX5_come_15 rfl rfl ?_
      refine zV_iload_n dX5_come_16 rfl rfl ?_
      refine zR_icmp_ge (tgt := 35) dX5_come_17 (by decide) (by omega) (by omega) (fun h17 => ?_) (fun h17 => ?_)
      · refine zV_iload_n dX5_come_35 rfl rfl ?_
        exact zV_ireturn dX5_come_36 rfl (Nat.le_of_ble_eq_true rfl) ⟨ci, by rw [show y.toNat = s by omega], qry_tri tr⟩
      · refine zV_iload_n dX5_come_20 rfl rfl ?_
        refine zV_iconst dX5_come_21 ?_
        refine zV_aload_nr dX5_come_22 rfl rfl ?_
        refine zV_callV (As := []) lk5_264 (rfl) rfl rfl (c5_nextVerdict 11 0 (by decide) k0 hct2 tr.2.2.2.2.2.1 tr.2.2.2.2.2.2) ⟨by show _ + 1 ≤ 12; omega, by show _ ≤ 4; omega⟩ rfl (Nat.le_of_ble_eq_true rfl) dX5_come_23 (fun _ _ z => z.elim) (fun r h' q => ?_)
        obtain ⟨rfl, q⟩ := q
        have tr2 := tri_s hi.2.1 (by omega) tr q
        rw [(tr2.2.2.1 (by omega)).1]
        refine zV_ishl dX5_come_26 ?_
        refine zV_ior dX5_come_27 ?_
        refine zV_istore_n dX5_come_28 rfl (Nat.le_of_ble_eq_true rfl) rfl ?_
        refine zV_iinc dX5_come_29 rfl (Nat.le_of_ble_eq_true rfl) rfl ?_
        refine zV_goto (tgt := 15) dX5_come_32 (by decide) ?_
        exact ih (s + 1) _ (by omega) (by omega) tr2
  exact L15 (kk + 1) 0 _ (by omega) (by omega) (tri_0 hi q)
