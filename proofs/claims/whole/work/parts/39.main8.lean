/-! WHO IS PLEASED, WHO THIRSTS; THE TAPE -/
theorem zup59 {h : zH} {i : Nat} {v : Int} : (∀ c2 : Nat, c2 < 59 → zup h 59 i v c2 = h c2) ∧ (∀ c2 : Nat, 63 < c2 → zup h 59 i v c2 = h c2) := ⟨fun c2 e => zup_fn (by omega), fun c2 e => zup_fn (by omega)⟩
/-- what stands on the tape behind q bytes of x -/
def fedTo (h : zH) (x : Int) (q : Nat) (h' : zH) : Prop := (∀ c2 : Nat, c2 ≠ 0 → c2 ≠ 1 → h' c2 = h c2) ∧ (∀ j, j ≠ 1 → h' 0 j = h 0 j) ∧ h' 0 1 = h 0 1 + q ∧ (∀ i : Nat, (i : Int) < h 0 1 → h' 1 i = h 1 i) ∧ ∀ i : Nat, i < q → h' 1 ((h 0 1).toNat + i) = byteS x i

set_option maxRecDepth 100000 in
theorem c5_pleased {E : zE} {h : zH} {t n jn : Nat} {y : Int} (hy : -2147483648 ≤ y ∧ y ≤ 2147483647) (hwi : ∀ j, j < jn → 0 ≤ h (t + 5) j ∧ h (t + 5) j ≤ 4) (hi : tInv h t n jn) : zCal E mX5_pleased 12 4 [zrv E 0, ziv y] h (fun r h' => (1 ≤ y ∧ y ≤ 60) ∧ r = some (ziv (argS (fun j => oftS (latN h t n jn) (h (t + 5) j) y.toNat) jn)) ∧ qry h h') (fun e h' => h' = h ∧ e = IAE ∧ ¬ (1 ≤ y ∧ y ≤ 60)) := by
  refine zCal_of (by decide) (Nat.le_of_ble_eq_true rfl) (fun a => ?_)
  show zV _ 0 0 [zrv E 0, ziv y, .null, .null, .null] [] _
  have ht := hi.2.1.1
  have k0 := hi.1
  have hnum := hi.2.2.2.2
  have hn8 := hi.2.1.2.1
  have hjn8 := hi.2.1.2.2.1
  refine zV_iload_n dX5_pleased_0 rfl rfl ?_
  refine zV_iconst dX5_pleased_1 ?_
  refine zV_bipush dX5_pleased_2 (by decide) ?_
  refine zV_callS (As := [ziv y, ziv 1, ziv 60]) lk5_208 (c5_needWithin (by omega) (by decide) (by decide)) ⟨Nat.le_of_ble_eq_true rfl, Nat.le_of_ble_eq_true rfl⟩ rfl (Nat.le_of_ble_eq_true rfl) dX5_pleased_4 (fun e h2 z => ⟨z.2.1, z.1, z.2.2⟩) (fun r h' q => ?_)
  obtain ⟨rfl, hh, ci⟩ := q
  rw [hh]
  obtain ⟨kk, hkk⟩ : ∃ z : Nat, y = (z : Int) := ⟨y.toNat, by omega⟩
  refine zV_aload_nr dX5_pleased_7 rfl rfl ?_
  refine zV_callV (As := []) lk5_271 (rfl) rfl rfl (c5_clearTally 11 0) ⟨by show _ + 1 ≤ 12; omega, by show _ ≤ 4; omega⟩ rfl (Nat.le_of_ble_eq_true rfl) dX5_pleased_8 (fun _ _ z => z.elim) (fun r h5 q => ?_)
  obtain ⟨rfl, e5, z5⟩ := q
  refine zV_aload_nr dX5_pleased_11 rfl rfl ?_
  refine zV_callV (As := []) lk5_248 (rfl) rfl rfl (c5_startTrial 11 0 (by decide)) ⟨by show _ + 1 ≤ 12; omega, by show _ ≤ 4; omega⟩ rfl (Nat.le_of_ble_eq_true rfl) dX5_pleased_12 (fun _ _ z => z.elim) (fun r h' q => ?_)
  obtain ⟨rfl, q⟩ := q
  have tr := tri_0' hi (fun c2 _ => e5 c2 (by omega)) (fun c2 _ => e5 c2 (by omega)) q
  have z6 : ∀ j, j < jn → h' 59 j = 0 := fun j hj => by rw [q.1 59 (by decide) (by decide) (by decide) (by decide) (by decide)]; exact z5 j (by omega)
  refine zV_iconst dX5_pleased_15 ?_
  refine zV_istore_n dX5_pleased_16 rfl (Nat.le_of_ble_eq_true rfl) rfl ?_
  have L17 : ∀ (m : Nat) (s : Nat) (h1 : zH), (kk + 1 ≤ s + m) → (s ≤ kk) → (tri h t n jn (gOf h 32 t) (xOf h 32) s h1) → (∀ j, j < jn → h1 59 j = (fun j m => oftS (latN h t n jn) (h (t + 5) j) m) j s) → zV (E, mX5_pleased, 12, 4, (fun r h' => (1 ≤ y ∧ y ≤ 60) ∧ r = some (ziv (argS (fun j => oftS (latN h t n jn) (h (t + 5) j) y.toNat) jn)) ∧ qry h h'), (fun e h' => h' = h ∧ e = IAE ∧ ¬ (1 ≤ y ∧ y ≤ 60)), a) 1 17 [zrv E 0, ziv y, ziv (s : Int), .null, .null] [] h1 := by
    intro m
    induction m with
    | zero => intro s h1 hm_ hsn tr htl; exfalso; omega
    | succ m ih =>
      intro s h1 hm_ hsn tr htl
      have k0 : h1 0 3 = (t : Int) := by rw [tr.1 0 (by omega)]; exact hi.1
      have hct2 := tri_ct hi.2.1 tr
      refine zV_iload_n dX5_pleased_17 rfl rfl ?_
      refine zV_iload_n dX5_pleased_18 rfl rfl ?_
      refine zR_icmp_ge (tgt := 79) dX5_pleased_19 (by decide) (by omega) (by omega) (fun h19 => ?_) (fun h19 => ?_)
      · refine zV_aload_nr dX5_pleased_79 rfl rfl ?_
        refine zV_aload_nr dX5_pleased_80 rfl rfl ?_
        refine gf5_20 (t := t) (k0) rfl (rfl) dX5_pleased_81 ?_
        refine gf5_109 rfl (court_0 ht) dX5_pleased_84 ?_
        rw [show h1 t 3 = (jn : Int) from hct2.2.2.2.2.1]
        refine zV_callV (As := [ziv (jn : Int)]) lk5_274 (rfl) rfl rfl (c5_mostInTally 11 0 hjn8 (fun i hi9 => by rw [htl i hi9]; have := oftS_lo (latN h t n jn) (h (t + 5) i) s; show -1000000 ≤ oftS (latN h t n jn) (h (t + 5) i) s ∧ oftS (latN h t n jn) (h (t + 5) i) s ≤ 1000000; omega)) ⟨by show _ + 1 ≤ 12; omega, by show _ ≤ 4; omega⟩ rfl (Nat.le_of_ble_eq_true rfl) dX5_pleased_87 (fun _ _ z => z.elim) (fun r h' q => ?_)
        obtain ⟨rfl, hh⟩ := q
        rw [hh]
        exact zV_ireturn dX5_pleased_90 rfl (Nat.le_of_ble_eq_true rfl) ⟨ci, by rw [argS_congr jn (g := fun j => oftS (latN h t n jn) (h (t + 5) j) y.toNat) (fun j hj => by rw [htl j hj, show y.toNat = s by omega])], qry_tri tr⟩
      · refine zV_aload_nr dX5_pleased_22 rfl rfl ?_
        refine zV_callV (As := []) lk5_264 (rfl) rfl rfl (c5_nextVerdict 11 0 (by decide) k0 hct2 tr.2.2.2.2.2.1 tr.2.2.2.2.2.2) ⟨by show _ + 1 ≤ 12; omega, by show _ ≤ 4; omega⟩ rfl (Nat.le_of_ble_eq_true rfl) dX5_pleased_23 (fun _ _ z => z.elim) (fun r h' q => ?_)
        obtain ⟨rfl, q⟩ := q
        have tr2 := tri_s hi.2.1 (by omega) tr q
        rw [(tr2.2.2.1 (by omega)).1]
        refine zV_istore_n dX5_pleased_26 rfl (Nat.le_of_ble_eq_true rfl) rfl ?_
        refine zV_iconst dX5_pleased_27 ?_
        refine zV_istore dX5_pleased_28 (Nat.le_of_ble_eq_true rfl) rfl ?_
        have L30 : ∀ (m2 : Nat) (i : Nat) (h2 : zH), (jn + 1 ≤ i + m2) → (i ≤ jn) → (tri h t n jn (gOf h 32 t) (xOf h 32) (s + 1) h2) → (∀ j, j < i → h2 59 j = (fun j m => oftS (latN h t n jn) (h (t + 5) j) m) j (s + 1)) → (∀ j, i ≤ j → j < jn → h2 59 j = (fun j m => oftS (latN h t n jn) (h (t + 5) j) m) j s) → zV (E, mX5_pleased, 12, 4, (fun r h' => (1 ≤ y ∧ y ≤ 60) ∧ r = some (ziv (argS (fun j => oftS (latN h t n jn) (h (t + 5) j) y.toNat) jn)) ∧ qry h h'), (fun e h' => h' = h ∧ e = IAE ∧ ¬ (1 ≤ y ∧ y ≤ 60)), a) 1 30 [zrv E 0, ziv y, ziv (s : Int), ziv (latN h t n jn (s + 1)), ziv (i : Int)] [] h2 := by
          intro m2
          induction m2 with
          | zero => intro i h2 hm_ hin tr2 hl2 hh2; exfalso; omega
          | succ m2 ih2 =>
            intro i h2 hm_ hin tr2 hl2 hh2
            have k0 : h2 0 3 = (t : Int) := by rw [tr2.1 0 (by omega)]; exact hi.1
            have hj2 : h2 t 3 = (jn : Int) := (tri_ct hi.2.1 tr2).2.2.2.2.1
            refine zV_iload dX5_pleased_30 rfl ?_
            refine zV_aload_nr dX5_pleased_32 rfl rfl ?_
            refine gf5_20 (t := t) (k0) rfl (rfl) dX5_pleased_33 ?_
            refine gf5_109 rfl (court_0 ht) dX5_pleased_36 ?_
            rw [hj2]
            refine zR_icmp_ge (tgt := 73) dX5_pleased_39 (by decide) (by omega) (by omega) (fun h39 => ?_) (fun h39 => ?_)
            · refine zV_iinc dX5_pleased_73 rfl (Nat.le_of_ble_eq_true rfl) rfl ?_
              refine zV_goto (tgt := 17) dX5_pleased_76 (by decide) ?_
              refine zV_drop 3 ?_
              refine zV_drop 4 ?_
              exact ih (s + 1) _ (by omega) (by omega) tr2 (fun j hj => hl2 j (by omega))
            · refine zV_aload_nr dX5_pleased_42 rfl rfl ?_
              refine gf5_20 (t := t) (k0) rfl (rfl) dX5_pleased_43 ?_
              refine gf5_176 rfl (court_0 ht) dX5_pleased_46 ?_
              refine zV_iload dX5_pleased_49 rfl ?_
              refine zV_ialoadN (i := i) (N := 8) (court_5 ht) (by omega) (by decide) dX5_pleased_51 ?_
              refine zV_iload_n dX5_pleased_52 rfl rfl ?_
              have b1 := hwi i (by omega)
              have hl5 := (nowR_lo hi (s + 1)).2 (by omega)
              have ew : h2 (t + 5) i = h (t + 5) i := by have ht9 : t = 2 ∨ t = 16 := ht; rw [tr2.1 (t + 5) (by omega)]
              rw [ew]
              refine zR_icmp_ne (tgt := 67) dX5_pleased_53 (by decide) (by omega) (by omega) (fun h53 => ?_) (fun h53 => ?_)
              · refine zV_iinc dX5_pleased_67 rfl (Nat.le_of_ble_eq_true rfl) rfl ?_
                refine zV_goto (tgt := 30) dX5_pleased_70 (by decide) ?_
                exact ih2 (i + 1) _ (by omega) (by omega) tr2 (fun j hj => if e : j = i then (by rw [e, hh2 i (by omega) (by omega)]; show _ = oftS _ _ (s + 1); rw [show oftS (latN h t n jn) (h (t + 5) i) (s + 1) = oftS (latN h t n jn) (h (t + 5) i) s from if_neg (fun z => h53 z.symm)]) else hl2 j (by omega)) (fun j j1 j2 => hh2 j (by omega) j2)
              · refine zV_aload_nr dX5_pleased_56 rfl rfl ?_
                refine gf5_55 rfl (rfl) dX5_pleased_57 ?_
                refine zV_teq (w := zrv E 59) rfl ?_
                refine zV_iload dX5_pleased_60 rfl ?_
                refine zV_dup2 dX5_pleased_62 rfl rfl ?_
                refine zV_ialoadN (i := i) (N := 8) (rfl) (by omega) (by decide) dX5_pleased_63 ?_
                refine zV_iconst dX5_pleased_64 ?_
                refine zV_iadd dX5_pleased_65 ?_
                refine zV_iastoreN (i := i) (N := 8) (rfl) (by omega) (by decide) dX5_pleased_66 ?_
                refine zV_iinc dX5_pleased_67 rfl (Nat.le_of_ble_eq_true rfl) rfl ?_
                refine zV_goto (tgt := 30) dX5_pleased_70 (by decide) ?_
                exact ih2 (i + 1) _ (by omega) (by omega) (tri_put ht tr2 zup59.1 zup59.2) (fun j hj => by
                  rw [zup_at]
                  by_cases e : j = i
                  · rw [if_pos e, e, hh2 i (by omega) (by omega)]; show _ = oftS _ _ (s + 1); rw [show oftS (latN h t n jn) (h (t + 5) i) (s + 1) = oftS (latN h t n jn) (h (t + 5) i) s + 1 from if_pos h53.symm]
                  · rw [if_neg e]; exact hl2 j (by omega)) (fun j j1 j2 => by rw [zup_at, if_neg (by omega)]; exact hh2 j (by omega) j2)
        exact L30 (jn + 1) 0 _ (by omega) (by omega) tr2 (fun j hj => absurd hj (by omega)) (fun j _ hj => by rw [q.1 59 (by decide) (by decide) (by decide) (by decide) (by decide) (by decide)]; exact htl j hj)
  exact L17 (kk + 1) 0 _ (by omega) (by omega) tr z6
set_option maxRecDepth 100000 in
theorem c5_thirstiest {E : zE} {h : zH} {t n jn : Nat} {y : Int} (hy : -2147483648 ≤ y ∧ y ≤ 2147483647) (hse : ∀ j, j < jn → seated (h 36) jn j) (hi : tInv h t n jn) : zCal E mX5_thirstiest 12 4 [zrv E 0, ziv y] h (fun r h' => (1 ≤ y ∧ y ≤ 60) ∧ r = some (ziv (argS (fun j => sumS (fun k => (nowR h t n jn k).2.2.2) j y.toNat) jn)) ∧ qry h h') (fun e h' => h' = h ∧ e = IAE ∧ ¬ (1 ≤ y ∧ y ≤ 60)) := by
  refine zCal_of (by decide) (Nat.le_of_ble_eq_true rfl) (fun a => ?_)
  show zV _ 0 0 [zrv E 0, ziv y, .null, .null] [] _
  have ht := hi.2.1.1
  have k0 := hi.1
  have hnum := hi.2.2.2.2
  have hn8 := hi.2.1.2.1
  have hjn8 := hi.2.1.2.2.1
  refine zV_iload_n dX5_thirstiest_0 rfl rfl ?_
  refine zV_iconst dX5_thirstiest_1 ?_
  refine zV_bipush dX5_thirstiest_2 (by decide) ?_
  refine zV_callS (As := [ziv y, ziv 1, ziv 60]) lk5_208 (c5_needWithin (by omega) (by decide) (by decide)) ⟨Nat.le_of_ble_eq_true rfl, Nat.le_of_ble_eq_true rfl⟩ rfl (Nat.le_of_ble_eq_true rfl) dX5_thirstiest_4 (fun e h2 z => ⟨z.2.1, z.1, z.2.2⟩) (fun r h' q => ?_)
  obtain ⟨rfl, hh, ci⟩ := q
  rw [hh]
  obtain ⟨kk, hkk⟩ : ∃ z : Nat, y = (z : Int) := ⟨y.toNat, by omega⟩
  refine zV_aload_nr dX5_thirstiest_7 rfl rfl ?_
  refine zV_callV (As := []) lk5_271 (rfl) rfl rfl (c5_clearTally 11 0) ⟨by show _ + 1 ≤ 12; omega, by show _ ≤ 4; omega⟩ rfl (Nat.le_of_ble_eq_true rfl) dX5_thirstiest_8 (fun _ _ z => z.elim) (fun r h5 q => ?_)
  obtain ⟨rfl, e5, z5⟩ := q
  refine zV_aload_nr dX5_thirstiest_11 rfl rfl ?_
  refine zV_callV (As := []) lk5_248 (rfl) rfl rfl (c5_startTrial 11 0 (by decide)) ⟨by show _ + 1 ≤ 12; omega, by show _ ≤ 4; omega⟩ rfl (Nat.le_of_ble_eq_true rfl) dX5_thirstiest_12 (fun _ _ z => z.elim) (fun r h' q => ?_)
  obtain ⟨rfl, q⟩ := q
  have tr := tri_0' hi (fun c2 _ => e5 c2 (by omega)) (fun c2 _ => e5 c2 (by omega)) q
  have z6 : ∀ j, j < jn → h' 59 j = 0 := fun j hj => by rw [q.1 59 (by decide) (by decide) (by decide) (by decide) (by decide)]; exact z5 j (by omega)
  refine zV_iconst dX5_thirstiest_15 ?_
  refine zV_istore_n dX5_thirstiest_16 rfl (Nat.le_of_ble_eq_true rfl) rfl ?_
  have L17 : ∀ (m : Nat) (s : Nat) (h1 : zH), (kk + 1 ≤ s + m) → (s ≤ kk) → (tri h t n jn (gOf h 32 t) (xOf h 32) s h1) → (∀ j, j < jn → h1 59 j = (fun j m => sumS (fun k => (nowR h t n jn k).2.2.2) j m) j s) → zV (E, mX5_thirstiest, 12, 4, (fun r h' => (1 ≤ y ∧ y ≤ 60) ∧ r = some (ziv (argS (fun j => sumS (fun k => (nowR h t n jn k).2.2.2) j y.toNat) jn)) ∧ qry h h'), (fun e h' => h' = h ∧ e = IAE ∧ ¬ (1 ≤ y ∧ y ≤ 60)), a) 1 17 [zrv E 0, ziv y, ziv (s : Int), .null] [] h1 := by
    intro m
    induction m with
    | zero => intro s h1 hm_ hsn tr htl; exfalso; omega
    | succ m ih =>
      intro s h1 hm_ hsn tr htl
      have k0 : h1 0 3 = (t : Int) := by rw [tr.1 0 (by omega)]; exact hi.1
      have hct2 := tri_ct hi.2.1 tr
      refine zV_iload_n dX5_thirstiest_17 rfl rfl ?_
      refine zV_iload_n dX5_thirstiest_18 rfl rfl ?_
      refine zR_icmp_ge (tgt := 80) dX5_thirstiest_19 (by decide) (by omega) (by omega) (fun h19 => ?_) (fun h19 => ?_)
      · refine zV_aload_nr dX5_thirstiest_80 rfl rfl ?_
        refine zV_aload_nr dX5_thirstiest_81 rfl rfl ?_
        refine gf5_20 (t := t) (k0) rfl (rfl) dX5_thirstiest_82 ?_
        refine gf5_109 rfl (court_0 ht) dX5_thirstiest_85 ?_
        rw [show h1 t 3 = (jn : Int) from hct2.2.2.2.2.1]
        refine zV_callV (As := [ziv (jn : Int)]) lk5_274 (rfl) rfl rfl (c5_mostInTally 11 0 hjn8 (fun i hi9 => by rw [htl i hi9]; have := sumS_lo hi (hse i hi9) s; show -1000000 ≤ sumS (fun k => (nowR h t n jn k).2.2.2) i s ∧ sumS (fun k => (nowR h t n jn k).2.2.2) i s ≤ 1000000; omega)) ⟨by show _ + 1 ≤ 12; omega, by show _ ≤ 4; omega⟩ rfl (Nat.le_of_ble_eq_true rfl) dX5_thirstiest_88 (fun _ _ z => z.elim) (fun r h' q => ?_)
        obtain ⟨rfl, hh⟩ := q
        rw [hh]
        exact zV_ireturn dX5_thirstiest_91 rfl (Nat.le_of_ble_eq_true rfl) ⟨ci, by rw [argS_congr jn (g := fun j => sumS (fun k => (nowR h t n jn k).2.2.2) j y.toNat) (fun j hj => by rw [htl j hj, show y.toNat = s by omega])], qry_tri tr⟩
      · refine zV_aload_nr dX5_thirstiest_22 rfl rfl ?_
        refine gf5_51 rfl (rfl) dX5_thirstiest_23 ?_
        refine zV_teq (w := zrv E 53) rfl ?_
        refine zV_aload_nr dX5_thirstiest_26 rfl rfl ?_
        refine gf5_20 (t := t) (k0) rfl (rfl) dX5_thirstiest_27 ?_
        refine zV_aload_nr dX5_thirstiest_30 rfl rfl ?_
        refine gf5_34 rfl (rfl) dX5_thirstiest_31 ?_
        refine zV_teq (w := zrv E 28) rfl ?_
        refine zV_callV (As := [zrv E t, zrv E 28]) lk5_234 (rfl) rfl rfl (c2_hear 11 0 (by decide) hct2 tr.2.2.2.2.2.1 tr.2.2.2.2.2.2) ⟨by show _ + 1 ≤ 12; omega, by show _ ≤ 4; omega⟩ rfl (Nat.le_of_ble_eq_true rfl) dX5_thirstiest_34 (fun _ _ z => z.elim) (fun r h' q => ?_)
        obtain ⟨rfl, q⟩ := q
        have tr2 := tri_s hi.2.1 (by omega) tr q
        have k0 : h' 0 3 = (t : Int) := by rw [tr2.1 0 (by omega)]; exact hi.1
        have hl2 : h' t 0 = (n : Int) := (tri_ct hi.2.1 tr2).2.2.2.1
        refine zV_iconst dX5_thirstiest_37 ?_
        refine zV_istore_n dX5_thirstiest_38 rfl (Nat.le_of_ble_eq_true rfl) rfl ?_
        have L39 : ∀ (m2 : Nat) (i : Nat) (h2 : zH), (jn + 1 ≤ i + m2) → (i ≤ jn) → (tri h t n jn (gOf h 32 t) (xOf h 32) (s + 1) h2) → (∀ j, j < i → h2 59 j = (fun j m => sumS (fun k => (nowR h t n jn k).2.2.2) j m) j (s + 1)) → (∀ j, i ≤ j → j < jn → h2 59 j = (fun j m => sumS (fun k => (nowR h t n jn k).2.2.2) j m) j s) → zV (E, mX5_thirstiest, 12, 4, (fun r h' => (1 ≤ y ∧ y ≤ 60) ∧ r = some (ziv (argS (fun j => sumS (fun k => (nowR h t n jn k).2.2.2) j y.toNat) jn)) ∧ qry h h'), (fun e h' => h' = h ∧ e = IAE ∧ ¬ (1 ≤ y ∧ y ≤ 60)), a) 1 39 [zrv E 0, ziv y, ziv (s : Int), ziv (i : Int)] [] h2 := by
          intro m2
          induction m2 with
          | zero => intro i h2 hm_ hin tr2 hl2 hh2; exfalso; omega
          | succ m2 ih2 =>
            intro i h2 hm_ hin tr2 hl2 hh2
            have k0 : h2 0 3 = (t : Int) := by rw [tr2.1 0 (by omega)]; exact hi.1
            have hj2 : h2 t 3 = (jn : Int) := (tri_ct hi.2.1 tr2).2.2.2.2.1
            refine zV_iload_n dX5_thirstiest_39 rfl rfl ?_
            refine zV_aload_nr dX5_thirstiest_40 rfl rfl ?_
            refine gf5_20 (t := t) (k0) rfl (rfl) dX5_thirstiest_41 ?_
            refine gf5_109 rfl (court_0 ht) dX5_thirstiest_44 ?_
            rw [hj2]
            refine zR_icmp_ge (tgt := 74) dX5_thirstiest_47 (by decide) (by omega) (by omega) (fun h47 => ?_) (fun h47 => ?_)
            · refine zV_iinc dX5_thirstiest_74 rfl (Nat.le_of_ble_eq_true rfl) rfl ?_
              refine zV_goto (tgt := 17) dX5_thirstiest_77 (by decide) ?_
              refine zV_drop 3 ?_
              exact ih (s + 1) _ (by omega) (by omega) tr2 (fun j hj => hl2 j (by omega))
            · refine zV_aload_nr dX5_thirstiest_50 rfl rfl ?_
              refine gf5_55 rfl (rfl) dX5_thirstiest_51 ?_
              refine zV_teq (w := zrv E 59) rfl ?_
              refine zV_iload_n dX5_thirstiest_54 rfl rfl ?_
              refine zV_dup2 dX5_thirstiest_55 rfl rfl ?_
              refine zV_ialoadN (i := i) (N := 8) (rfl) (by omega) (by decide) dX5_thirstiest_56 ?_
              refine zV_aload_nr dX5_thirstiest_57 rfl rfl ?_
              refine gf5_51 rfl (rfl) dX5_thirstiest_58 ?_
              refine zV_teq (w := zrv E 53) rfl ?_
              refine gf5_277 rfl (rfl) dX5_thirstiest_61 ?_
              refine zV_teq (w := zrv E 58) rfl ?_
              refine zV_iload_n dX5_thirstiest_64 rfl rfl ?_
              refine zV_ialoadN (i := i) (N := 8) (rfl) (by omega) (by decide) dX5_thirstiest_65 ?_
              refine zV_iadd dX5_thirstiest_66 ?_
              refine zV_iastoreN (i := i) (N := 8) (rfl) (by omega) (by decide) dX5_thirstiest_67 ?_
              refine zV_iinc dX5_thirstiest_68 rfl (Nat.le_of_ble_eq_true rfl) rfl ?_
              refine zV_goto (tgt := 39) dX5_thirstiest_71 (by decide) ?_
              exact ih2 (i + 1) _ (by omega) (by omega) (tri_put ht tr2 zup59.1 zup59.2) (fun j hj => by
                rw [zup_at]
                by_cases e : j = i
                · rw [if_pos e, e, hh2 i (by omega) (by omega), show h2 58 i = _ from (tr2.2.2.1 (by omega)).2.2 i (hse i (by omega))]; rfl
                · rw [if_neg e]; exact hl2 j (by omega)) (fun j j1 j2 => by rw [zup_at, if_neg (by omega)]; exact hh2 j (by omega) j2)
        exact L39 (jn + 1) 0 _ (by omega) (by omega) tr2 (fun j hj => absurd hj (by omega)) (fun j _ hj => by rw [q.1 59 (by decide) (by decide) (by decide) (by decide) (by decide) (by decide)]; exact htl j hj)
  exact L17 (kk + 1) 0 _ (by omega) (by omega) tr z6
set_option maxRecDepth 100000 in
theorem c5_append {E : zE} {h : zH} {x : Int} (d k : Nat) (hl : 0 ≤ h 0 1 ∧ h 0 1 + 4 ≤ 700) : zCal E mX5_append d k [zrv E 0, ziv x] h (fun r h' => r = none ∧ fedTo h x 4 h') (fun _ _ => False) := by
  refine zCal_of (by decide) (Nat.le_of_ble_eq_true rfl) (fun a => ?_)
  show zV _ 0 0 [zrv E 0, ziv x, .null] [] _
  refine zV_bipush dX5_append_0 (by decide) ?_
  refine zV_istore_n dX5_append_2 rfl (Nat.le_of_ble_eq_true rfl) rfl ?_
  have L3 : ∀ (m : Nat) (s : Nat) (h1 : zH), (5 ≤ s + m) → (s ≤ 4) → (fedTo h x s h1) → zV (E, mX5_append, d, k, (fun r h' => r = none ∧ fedTo h x 4 h'), (fun _ _ => False), a) 0 3 [zrv E 0, ziv x, ziv (24 - 8 * (s : Int))] [] h1 := by
    intro m
    induction m with
    | zero => intro s h1 hm_ hsn hf; exfalso; omega
    | succ m ih =>
      intro s h1 hm_ hsn hf
      obtain ⟨f0, f1, f2, f3, f4⟩ := hf
      refine zV_iload_n dX5_append_3 rfl rfl ?_
      refine zR_if_lt (tgt := 51) dX5_append_4 (by decide) (by omega) (fun h4 => ?_) (fun h4 => ?_)
      · exact zV_vreturn dX5_append_51 rfl (Nat.zero_le _) ⟨rfl, by rw [show (4 : Nat) = s by omega]; exact ⟨f0, f1, f2, f3, f4⟩⟩
      · refine zV_aload_nr dX5_append_7 rfl rfl ?_
        refine gf5_70 rfl rfl dX5_append_8 ?_
        refine zV_aload_nr dX5_append_11 rfl rfl ?_
        refine gf5_9 rfl (rfl) dX5_append_12 ?_
        refine zV_teq (w := zrv E 1) rfl ?_
        refine zV_alen (t := 0) (N := 700) (rfl) dX5_append_15 ?_
        refine zR_icmp_ge (tgt := 45) dX5_append_16 (by decide) (by rw [f2]; omega) (by omega) (fun h16 => ?_) (fun h16 => ?_)
        · exact absurd h16 (by rw [f2]; simp only [Int.not_le]; omega)
        · refine zV_aload_nr dX5_append_19 rfl rfl ?_
          refine gf5_9 rfl (rfl) dX5_append_20 ?_
          refine zV_teq (w := zrv E 1) rfl ?_
          refine zV_aload_nr dX5_append_23 rfl rfl ?_
          refine gf5_70 rfl rfl dX5_append_24 ?_
          refine zV_iload_n dX5_append_27 rfl rfl ?_
          refine zV_iload_n dX5_append_28 rfl rfl ?_
          refine zV_iushr dX5_append_29 ?_
          refine zV_sipush dX5_append_30 (by decide) ?_
          refine zV_iand dX5_append_33 ?_
          refine zV_iastore (N := 700) (rfl) (by rw [f2]; omega) (by decide) dX5_append_34 ?_
          refine zV_aload_nr dX5_append_35 rfl rfl ?_
          refine zV_dup dX5_append_36 rfl ?_
          refine gf5_70 rfl rfl dX5_append_37 ?_
          refine zV_iconst dX5_append_40 ?_
          refine zV_iadd dX5_append_41 ?_
          refine pf5_70 rfl (rfl) dX5_append_42 ?_
          refine zV_iinc dX5_append_45 rfl (Nat.le_of_ble_eq_true rfl) rfl ?_
          refine zV_goto (tgt := 3) dX5_append_48 (by decide) ?_
          refine zV_lveq (lv' := [zrv E 0, ziv x, ziv (24 - 8 * ((s + 1 : Nat) : Int))]) (by rw [show (24 - 8 * ((s + 1 : Nat) : Int)) = 24 - 8 * (s : Int) + -8 by omega]; rfl) ?_
          exact ih (s + 1) _ (by omega) (by omega) ⟨fun c2 a b => by rw [zup_fn a, zup_fn b]; exact f0 c2 a b, fun j hj => by rw [zup_at, if_neg hj, zup_fn (by decide)]; exact f1 j hj, by rw [zup_at, if_pos rfl, zup_fn (by decide), f2]; omega, fun i hi => by rw [zup_fn (by decide), zup_at, if_neg (by rw [f2]; omega)]; exact f3 i hi, fun i hi => by
            rw [zup_fn (by decide), zup_at]
            by_cases e : i = s
            · subst e; rw [if_pos (by rw [f2]; omega)]; rfl
            · rw [if_neg (by rw [f2]; omega)]; exact f4 i (by omega)⟩
  exact L3 5 0 h (by omega) (by omega) ⟨fun _ _ _ => rfl, fun _ _ => rfl, by simp, fun _ _ => rfl, fun i hi => absurd hi (by omega)⟩
set_option maxRecDepth 100000 in
theorem c5_feed {E : zE} {h : zH} {x0 x1 x2 x3 x4 : Int} (hl : 0 ≤ h 0 1 ∧ h 0 1 ≤ 700) : zCal E mX5_feed 12 4 [zrv E 0, ziv x0, ziv x1, ziv x2, ziv x3, ziv x4] h (fun r h' => (if h 0 1 + 20 ≤ 700 then r = some (ziv (h 0 1 + 20)) ∧ (∀ c2 : Nat, c2 ≠ 0 → c2 ≠ 1 → h' c2 = h c2) ∧ (∀ j, j ≠ 1 → h' 0 j = h 0 j) ∧ h' 0 1 = h 0 1 + 20 ∧ (∀ i : Nat, (i : Int) < h 0 1 → h' 1 i = h 1 i) ∧ ∀ i : Nat, i < 20 → h' 1 ((h 0 1).toNat + i) = byteS (if i < 4 then x0 else if i < 8 then x1 else if i < 12 then x2 else if i < 16 then x3 else x4) (i % 4) else r = some (ziv (-1)) ∧ h' = h)) (fun _ _ => False) := by
  refine zCal_of (by decide) (Nat.le_of_ble_eq_true rfl) (fun a => ?_)
  show zV _ 0 0 [zrv E 0, ziv x0, ziv x1, ziv x2, ziv x3, ziv x4] [] _
  refine zV_aload_nr dX5_feed_0 rfl rfl ?_
  refine gf5_70 rfl rfl dX5_feed_1 ?_
  refine zV_bipush dX5_feed_4 (by decide) ?_
  refine zV_iadd dX5_feed_6 ?_
  refine zV_sipush dX5_feed_7 (by decide) ?_
  refine zR_icmp_le (tgt := 15) dX5_feed_10 (by decide) (by omega) (by omega) (fun h10 => ?_) (fun h10 => ?_)
  · refine zV_aload_nr dX5_feed_15 rfl rfl ?_
    refine zV_iload_n dX5_feed_16 rfl rfl ?_
    refine zV_callV (As := [ziv x0]) lk5_73 (rfl) rfl rfl (c5_append 11 0 ⟨by omega, by omega⟩) ⟨by show _ + 1 ≤ 12; omega, by show _ ≤ 4; omega⟩ rfl (Nat.le_of_ble_eq_true rfl) dX5_feed_17 (fun _ _ z => z.elim) (fun r g1 q => ?_)
    obtain ⟨rfl, a0, b0, c0, e0, f0⟩ := q
    refine zV_aload_nr dX5_feed_20 rfl rfl ?_
    refine zV_iload_n dX5_feed_21 rfl rfl ?_
    refine zV_callV (As := [ziv x1]) lk5_73 (rfl) rfl rfl (c5_append 11 0 ⟨by omega, by omega⟩) ⟨by show _ + 1 ≤ 12; omega, by show _ ≤ 4; omega⟩ rfl (Nat.le_of_ble_eq_true rfl) dX5_feed_22 (fun _ _ z => z.elim) (fun r g2 q => ?_)
    obtain ⟨rfl, a1, b1, c1, e1, f1⟩ := q
    refine zV_aload_nr dX5_feed_25 rfl rfl ?_
    refine zV_iload_n dX5_feed_26 rfl rfl ?_
    refine zV_callV (As := [ziv x2]) lk5_73 (rfl) rfl rfl (c5_append 11 0 ⟨by omega, by omega⟩) ⟨by show _ + 1 ≤ 12; omega, by show _ ≤ 4; omega⟩ rfl (Nat.le_of_ble_eq_true rfl) dX5_feed_27 (fun _ _ z => z.elim) (fun r g3 q => ?_)
    obtain ⟨rfl, a2, b2, c2, e2, f2⟩ := q
    refine zV_aload_nr dX5_feed_30 rfl rfl ?_
    refine zV_iload dX5_feed_31 rfl ?_
    refine zV_callV (As := [ziv x3]) lk5_73 (rfl) rfl rfl (c5_append 11 0 ⟨by omega, by omega⟩) ⟨by show _ + 1 ≤ 12; omega, by show _ ≤ 4; omega⟩ rfl (Nat.le_of_ble_eq_true rfl) dX5_feed_33 (fun _ _ z => z.elim) (fun r g4 q => ?_)
    obtain ⟨rfl, a3, b3, c3, e3, f3⟩ := q
    refine zV_aload_nr dX5_feed_36 rfl rfl ?_
    refine zV_iload dX5_feed_37 rfl ?_
    refine zV_callV (As := [ziv x4]) lk5_73 (rfl) rfl rfl (c5_append 11 0 ⟨by omega, by omega⟩) ⟨by show _ + 1 ≤ 12; omega, by show _ ≤ 4; omega⟩ rfl (Nat.le_of_ble_eq_true rfl) dX5_feed_39 (fun _ _ z => z.elim) (fun r g5 q => ?_)
    obtain ⟨rfl, a4, b4, c4, e4, f4⟩ := q
    refine zV_aload_nr dX5_feed_42 rfl rfl ?_
    refine gf5_70 rfl rfl dX5_feed_43 ?_
    exact zV_ireturn dX5_feed_46 rfl (Nat.le_of_ble_eq_true rfl) (by
        show ite _ _ _
        rw [if_pos (by omega)]
        refine ⟨by rw [show g5 0 1 = h 0 1 + 20 by omega], fun c2 z0 z1 => by rw [a4 c2 z0 z1, a3 c2 z0 z1, a2 c2 z0 z1, a1 c2 z0 z1, a0 c2 z0 z1], fun j hj => by rw [b4 j hj, b3 j hj, b2 j hj, b1 j hj, b0 j hj], by omega, fun i hi => by rw [e4 i (by omega), e3 i (by omega), e2 i (by omega), e1 i (by omega), e0 i (by omega)], fun i hi => ?_⟩
        by_cases i4 : i < 4
        · rw [if_pos i4, e4 _ (by omega), e3 _ (by omega), e2 _ (by omega), e1 _ (by omega), show i % 4 = i by omega]; exact f0 i i4
        · rw [if_neg i4]
          by_cases i8 : i < 8
          · rw [if_pos i8, e4 _ (by omega), e3 _ (by omega), e2 _ (by omega), show (h 0 1).toNat + i = (g1 0 1).toNat + i % 4 by omega]; exact f1 _ (by omega)
          · rw [if_neg i8]
            by_cases i12 : i < 12
            · rw [if_pos i12, e4 _ (by omega), e3 _ (by omega), show (h 0 1).toNat + i = (g2 0 1).toNat + i % 4 by omega]; exact f2 _ (by omega)
            · rw [if_neg i12]
              by_cases i16 : i < 16
              · rw [if_pos i16, e4 _ (by omega), show (h 0 1).toNat + i = (g3 0 1).toNat + i % 4 by omega]; exact f3 _ (by omega)
              · rw [if_neg i16, show (h 0 1).toNat + i = (g4 0 1).toNat + i % 4 by omega]; exact f4 _ (by omega))
  · refine zV_iconst dX5_feed_13 ?_
    exact zV_ireturn dX5_feed_14 rfl (Nat.le_of_ble_eq_true rfl) (by show ite _ _ _; rw [if_neg (by omega)]; exact ⟨rfl, rfl⟩)
