/-! WHAT WAS READ -/
/-- what is read fits the verdicts V 1 .. V m -/
def asR (V : Nat → Int) (rc rv : Nat → Int) (rn : Nat) : Nat → Bool
  | 0 => true
  | m + 1 => asR V rc rv rn m && couldB rc rv ((m + 1 : Nat) : Int) (V (m + 1)) rn
theorem asR_s (V : Nat → Int) (rc rv : Nat → Int) (rn m : Nat) : asR V rc rv rn (m + 1) = (asR V rc rv rn m && couldB rc rv ((m + 1 : Nat) : Int) (V (m + 1)) rn) := rfl
theorem asR_f {V rc rv : Nat → Int} {rn m : Nat} (h : asR V rc rv rn m = false) : ∀ j, asR V rc rv rn (m + j) = false := by
  intro j
  induction j with
  | zero => exact h
  | succ j ih => show asR V rc rv rn (m + j + 1) = false; rw [asR_s, ih]; rfl
theorem couldB_gt {rc rv : Nat → Int} {k v : Int} : ∀ n, maxS rc n < k → couldB rc rv k v n = true := by
  intro n
  induction n with
  | zero => intro _; rfl
  | succ n ih =>
    intro h
    unfold maxS at h
    rw [couldB_s, ih (by omega), decide_eq_false (by omega)]
    rfl
theorem asR_max {V rc rv : Nat → Int} {rn : Nat} (h0 : 0 ≤ maxS rc rn) : ∀ j, asR V rc rv rn ((maxS rc rn).toNat + j) = asR V rc rv rn (maxS rc rn).toNat := by
  intro j
  induction j with
  | zero => rfl
  | succ j ih => show asR V rc rv rn ((maxS rc rn).toNat + j + 1) = _; rw [asR_s, ih, couldB_gt rn (by omega), Bool.and_true]
theorem asR_congr {V W rc rv : Nat → Int} {rn : Nat} : ∀ m, (∀ k, 1 ≤ k → k ≤ m → V k = W k) → asR V rc rv rn m = asR W rc rv rn m := by
  intro m
  induction m with
  | zero => intro _; rfl
  | succ m ih => intro h; rw [asR_s, asR_s, ih (fun k a b => h k a (by omega)), h (m + 1) (by omega) (by omega)]
/-- the verdicts ahead, with g -/
def vH (h : zH) (n jn : Nat) (g : zG) (k : Nat) : Int := (runG n jn g (h 32 6) (xOf h 32) k).2.1
def handF (h : zH) (t j : Nat) (v : Int) : zG := gHa (gOf h 32 t) (setF (h 35) j v)
def rdOK (h : zH) (rn : Nat) : Prop := (∀ i, i < rn → 1 ≤ h 39 i ∧ h 39 i ≤ 20) ∧ ∀ i, i < rn → 0 ≤ h 40 i ∧ h 40 i ≤ 4
def isR (h : zH) (n jn rn : Nat) (g : zG) : Bool := asR (vH h n jn g) (h 39) (h 40) rn 20
def isH (h : zH) (t n jn rn j : Nat) (v : Int) : Bool := decide (h 35 j ≠ v) && isR h n jn rn (handF h t j v)
theorem vH_lo {h : zH} {n jn : Nat} {g : zG} (hp : ∀ l, l < n → 0 ≤ h 33 l ∧ h 33 l < 12) (hpo : 0 ≤ g.2.2.2.1 ∧ g.2.2.2.1 ≤ 99) {k : Nat} (hk : 1 ≤ k) : 0 ≤ vH h n jn g k ∧ vH h n jn g k < 5 := (runG_lo (g := g) (x := xOf h 32) hp hpo k).2 hk
theorem vH_q {h h1 : zH} {t n jn : Nat} (hi : tInv h t n jn) (hq : qr h h1) (g : zG) : vH h1 n jn g = vH h n jn g := by
  obtain ⟨a1, a2, a3, a4⟩ := qr_inv hi hq
  funext k; unfold vH; rw [a3, a4]
theorem handF_q {h h1 : zH} {t n jn : Nat} (hi : tInv h t n jn) (hq : qr h h1) (j : Nat) (v : Int) : handF h1 t j v = handF h t j v := by
  obtain ⟨a1, a2, a3, a4⟩ := qr_inv hi hq
  unfold handF; rw [a2, hq.1 35 (by omega)]
theorem isR_q {h h1 : zH} {t n jn rn : Nat} (hi : tInv h t n jn) (hq : qr h h1) (g : zG) : isR h1 n jn rn g = isR h n jn rn g := by
  unfold isR; rw [vH_q hi hq, hq.1 39 (by omega), hq.1 40 (by omega)]
theorem isH_q {h h1 : zH} {t n jn rn : Nat} (hi : tInv h t n jn) (hq : qr h h1) (j : Nat) (v : Int) : isH h1 t n jn rn j v = isH h t n jn rn j v := by
  unfold isH; rw [isR_q hi hq, handF_q hi hq, hq.1 35 (by omega)]
theorem rd_q {h h1 : zH} {old ac rn : Nat} (hq : qr h h1) (hd : dkOK h old ac rn) (hr : rdOK h rn) : dkOK h1 old ac rn ∧ rdOK h1 rn := by
  unfold dkOK rdOK
  rw [hq.1 31 (by omega), hq.1 39 (by omega), hq.1 40 (by omega)]
  exact ⟨hd, hr⟩
def cntB (b : Nat → Bool) : Nat → Int
  | 0 => 0
  | m + 1 => if b m = true then cntB b m + 1 else cntB b m
theorem cntB_s (b : Nat → Bool) (m : Nat) : cntB b (m + 1) = if b m = true then cntB b m + 1 else cntB b m := rfl
theorem cntB_lo (b : Nat → Bool) (m : Nat) : 0 ≤ cntB b m ∧ cntB b m ≤ m := by
  induction m with
  | zero => simp [cntB]
  | succ m ih => unfold cntB; split <;> omega
/-- hands, one behind the other -/
def hdB (h : zH) (t n jn rn : Nat) : Nat → Bool := fun p => isH h t n jn rn (p / 13) ((p % 13 : Nat) : Int)
def hdV (h : zH) (t n jn rn : Nat) (w : Int) : Int := if w = 2 then (if isR h n jn rn (gOf h 32 t) = true then 1 else 0) else if w = 0 then cntB (hdB h t n jn rn) (13 * jn) else
  (if fstB (hdB h t n jn rn) 0 (13 * jn) = -1 then -1 else 100 * (fstB (hdB h t n jn rn) 0 (13 * jn) / 13) + fstB (hdB h t n jn rn) 0 (13 * jn) % 13)

set_option maxRecDepth 100000 in
theorem c5_trialIsAsRead {E : zE} {h : zH} {hb : zH} {t n jn old ac rn : Nat} {g : zG} (d k : Nat) (hd : 4 ≤ d) (hi : tInv hb t n jn) (tr0 : tri hb t n jn g (xOf hb 32) 0 h) (hpo : 0 ≤ g.2.2.2.1 ∧ g.2.2.2.1 ≤ 99) (hdk : dkOK hb old ac rn) (hrd : rdOK hb rn) : zCal E mX5_trialIsAsRead d k [zrv E 0] h (fun r h' => r = some (ziv (if isR hb n jn rn g = true then 1 else 0)) ∧ qr hb h') (fun _ _ => False) := by
  refine zCal_of (by decide) (Nat.le_of_ble_eq_true rfl) (fun a => ?_)
  show zV _ 0 0 [zrv E 0, .null, .null] [] _
  have ht := hi.2.1.1
  have hnum := hi.2.2.2.2
  have ml := maxS_lo rn hrd.1
  obtain ⟨kk, hkk⟩ : ∃ z : Nat, maxS (hb 39) rn = (z : Int) := ⟨(maxS (hb 39) rn).toNat, by omega⟩
  have eR : isR hb n jn rn g = asR (vH hb n jn g) (hb 39) (hb 40) rn kk := by unfold isR; rw [show 20 = (maxS (hb 39) rn).toNat + (20 - (maxS (hb 39) rn).toNat) by omega, asR_max ml.1, show (maxS (hb 39) rn).toNat = kk by omega]
  refine zV_aload_nr dX5_trialIsAsRead_0 rfl rfl ?_
  refine gf5_41 rfl (rfl) dX5_trialIsAsRead_1 ?_
  refine zV_teq (w := zrv E 31) rfl ?_
  refine zV_callV (As := []) lk5_322 (rfl) rfl rfl (c3_lastReadCase (rn := rn) (d - 1) 0 (by omega) (by rw [tr0.1 31 (by omega)]; exact hdk.2.2.2.2.1) hdk.2.2.2.2.2 (by rw [tr0.1 39 (by omega)]; exact hrd.1)) ⟨by show _ + 1 ≤ d; omega, by show _ ≤ k; omega⟩ rfl (Nat.le_of_ble_eq_true rfl) dX5_trialIsAsRead_4 (fun _ _ z => z.elim) (fun r h1 q => ?_)
  obtain ⟨rfl, hh⟩ := q
  rw [hh, tr0.1 39 (by omega), hkk]
  refine zV_istore_n dX5_trialIsAsRead_7 rfl (Nat.le_of_ble_eq_true rfl) rfl ?_
  refine zV_iconst dX5_trialIsAsRead_8 ?_
  refine zV_istore_n dX5_trialIsAsRead_9 rfl (Nat.le_of_ble_eq_true rfl) rfl ?_
  have L10 : ∀ (m : Nat) (s : Nat) (h1 : zH), (kk + 1 ≤ s + m) → (s ≤ kk) → (tri hb t n jn g (xOf hb 32) s h1) → (asR (vH hb n jn g) (hb 39) (hb 40) rn s = true) → zV (E, mX5_trialIsAsRead, d, k, (fun r h' => r = some (ziv (if isR hb n jn rn g = true then 1 else 0)) ∧ qr hb h'), (fun _ _ => False), a) 0 10 [zrv E 0, ziv (kk : Int), ziv ((s + 1 : Nat) : Int)] [] h1 := by
    intro m
    induction m with
    | zero => intro s h1 hm_ hsn tr ha; exfalso; omega
    | succ m ih =>
      intro s h1 hm_ hsn tr ha
      have k0 : h1 0 3 = (t : Int) := by rw [tr.1 0 (by omega)]; exact hi.1
      have hct2 := tri_ct hi.2.1 tr
      refine zV_iload_n dX5_trialIsAsRead_10 rfl rfl ?_
      refine zV_iload_n dX5_trialIsAsRead_11 rfl rfl ?_
      refine zR_icmp_gt (tgt := 56) dX5_trialIsAsRead_12 (by decide) (by omega) (by omega) (fun h12 => ?_) (fun h12 => ?_)
      · refine zV_iconst dX5_trialIsAsRead_56 ?_
        exact zV_zreturn dX5_trialIsAsRead_57 rfl (Or.inr rfl) (Nat.zero_le _) ⟨by rw [eR, show kk = s by omega, ha]; rfl, qr_tri tr⟩
      · refine zV_aload_nr dX5_trialIsAsRead_15 rfl rfl ?_
        refine gf5_51 rfl (rfl) dX5_trialIsAsRead_16 ?_
        refine zV_teq (w := zrv E 53) rfl ?_
        refine zV_aload_nr dX5_trialIsAsRead_19 rfl rfl ?_
        refine gf5_20 (t := t) (k0) rfl (rfl) dX5_trialIsAsRead_20 ?_
        refine zV_aload_nr dX5_trialIsAsRead_23 rfl rfl ?_
        refine gf5_34 rfl (rfl) dX5_trialIsAsRead_24 ?_
        refine zV_teq (w := zrv E 28) rfl ?_
        refine zV_callV (As := [zrv E t, zrv E 28]) lk5_234 (rfl) rfl rfl (c2_hear (d - 1) 0 (by omega) hct2 tr.2.2.2.2.2.1 tr.2.2.2.2.2.2) ⟨by show _ + 1 ≤ d; omega, by show _ ≤ k; omega⟩ rfl (Nat.le_of_ble_eq_true rfl) dX5_trialIsAsRead_27 (fun _ _ z => z.elim) (fun r h' q => ?_)
        obtain ⟨rfl, q⟩ := q
        have tr2 := tri_s hi.2.1 (by omega) tr q
        refine zV_aload_nr dX5_trialIsAsRead_30 rfl rfl ?_
        refine gf5_41 rfl (rfl) dX5_trialIsAsRead_31 ?_
        refine zV_teq (w := zrv E 31) rfl ?_
        refine zV_iload_n dX5_trialIsAsRead_34 rfl rfl ?_
        refine zV_aload_nr dX5_trialIsAsRead_35 rfl rfl ?_
        refine gf5_51 rfl (rfl) dX5_trialIsAsRead_36 ?_
        refine zV_teq (w := zrv E 53) rfl ?_
        refine gf5_121 rfl rfl dX5_trialIsAsRead_39 ?_
        rw [(tr2.2.2.1 (by omega)).1]
        refine zV_callV (As := [ziv ((s + 1 : Nat) : Int), ziv ((vH hb n jn g) (s + 1))]) lk5_325 (rfl) rfl rfl (c3_couldBe (rn := rn) (d - 1) 0 (by rw [tr2.1 31 (by omega)]; exact hdk.2.2.2.2.1) hdk.2.2.2.2.2 (by omega) (by have := vH_lo (g := g) (jn := jn) hi.2.2.1.2.1 hpo (k := s + 1) (by omega); omega) (by rw [tr2.1 39 (by omega)]; exact hrd.1) (by rw [tr2.1 40 (by omega)]; exact hrd.2)) ⟨by show _ + 1 ≤ d; omega, by show _ ≤ k; omega⟩ rfl (Nat.le_of_ble_eq_true rfl) dX5_trialIsAsRead_42 (fun _ _ z => z.elim) (fun r h3 q => ?_)
        obtain ⟨rfl, hh⟩ := q
        rw [hh, tr2.1 39 (by omega), tr2.1 40 (by omega)]
        refine zR_if_ne (tgt := 50) dX5_trialIsAsRead_45 (by decide) (by split <;> omega) (fun h45 => ?_) (fun h45 => ?_)
        · have hb2 : couldB (hb 39) (hb 40) ((s + 1 : Nat) : Int) ((vH hb n jn g) (s + 1)) rn = true := Decidable.byContradiction fun z => h45 (if_neg z)
          refine zV_iinc dX5_trialIsAsRead_50 rfl (Nat.le_of_ble_eq_true rfl) rfl ?_
          refine zV_goto (tgt := 10) dX5_trialIsAsRead_53 (by decide) ?_
          exact ih (s + 1) _ (by omega) (by omega) tr2 (by rw [asR_s, ha, hb2]; rfl)
        · have hb2 : couldB (hb 39) (hb 40) ((s + 1 : Nat) : Int) ((vH hb n jn g) (s + 1)) rn = false := Bool.eq_false_iff.mpr fun z => by
            have h46 : (if couldB (hb 39) (hb 40) ((s + 1 : Nat) : Int) ((vH hb n jn g) (s + 1)) rn = true then (1 : Int) else 0) = 0 := h45
            rw [if_pos z] at h46
            exact absurd h46 (by decide)
          refine zV_iconst dX5_trialIsAsRead_48 ?_
          exact zV_zreturn dX5_trialIsAsRead_49 rfl (Or.inl rfl) (Nat.zero_le _) ⟨by
            have h1 := asR_f (V := vH hb n jn g) (rc := hb 39) (rv := hb 40) (rn := rn) (m := s + 1) (by rw [asR_s, hb2, Bool.and_false]) (kk - (s + 1))
            rw [show s + 1 + (kk - (s + 1)) = kk by omega] at h1
            rw [eR, h1]; rfl, qr_tri tr2⟩
  exact L10 (kk + 1) 0 _ (by omega) (by omega) tr0 rfl
set_option maxRecDepth 100000 in
theorem c5_isHanded {E : zE} {h : zH} {t n jn old ac rn x : Nat} {y : Int} (d k : Nat) (hd : 5 ≤ d) (hi : tInv h t n jn) (hdk : dkOK h old ac rn) (hrd : rdOK h rn) (hx : x < jn) (hy : 0 ≤ y ∧ y ≤ 12) : zCal E mX5_isHanded d k [zrv E 0, ziv (x : Int), ziv y] h (fun r h' => r = some (ziv (if isH h t n jn rn x y = true then 1 else 0)) ∧ qr h h') (fun _ _ => False) := by
  refine zCal_of (by decide) (Nat.le_of_ble_eq_true rfl) (fun a => ?_)
  show zV _ 0 0 [zrv E 0, ziv (x : Int), ziv y] [] _
  have ht := hi.2.1.1
  have hjn8 := hi.2.1.2.2.1
  have b35 : 0 ≤ h 35 x ∧ h 35 x ≤ 12 := hi.2.2.1.2.2.2.1 x hx
  refine zV_aload_nr dX5_isHanded_0 rfl rfl ?_
  refine gf5_41 rfl (rfl) dX5_isHanded_1 ?_
  refine zV_teq (w := zrv E 31) rfl ?_
  refine gf5_112 rfl (rfl) dX5_isHanded_4 ?_
  refine zV_teq (w := zrv E 32) rfl ?_
  refine gf5_173 rfl (rfl) dX5_isHanded_7 ?_
  refine zV_teq (w := zrv E 35) rfl ?_
  refine zV_iload_n dX5_isHanded_10 rfl rfl ?_
  refine zV_ialoadN (i := x) (N := 8) (rfl) (by omega) (by decide) dX5_isHanded_11 ?_
  refine zV_iload_n dX5_isHanded_12 rfl rfl ?_
  refine zR_icmp_ne (tgt := 18) dX5_isHanded_13 (by decide) (by omega) (by omega) (fun h13 => ?_) (fun h13 => ?_)
  · refine zV_aload_nr dX5_isHanded_18 rfl rfl ?_
    refine zV_callV (As := []) lk5_248 (rfl) rfl rfl (c5_startTrial (d - 1) 0 (by omega)) ⟨by show _ + 1 ≤ d; omega, by show _ ≤ k; omega⟩ rfl (Nat.le_of_ble_eq_true rfl) dX5_isHanded_19 (fun _ _ z => z.elim) (fun r h5 q => ?_)
    obtain ⟨rfl, q⟩ := q
    have tr := tri_0 hi q
    refine zV_aload_nr dX5_isHanded_22 rfl rfl ?_
    refine gf5_51 rfl (rfl) dX5_isHanded_23 ?_
    refine zV_teq (w := zrv E 53) rfl ?_
    refine gf5_173 rfl (rfl) dX5_isHanded_26 ?_
    refine zV_teq (w := zrv E 56) rfl ?_
    refine zV_iload_n dX5_isHanded_29 rfl rfl ?_
    refine zV_iload_n dX5_isHanded_30 rfl rfl ?_
    refine zV_iastoreN (i := x) (N := 8) (rfl) (by omega) (by decide) dX5_isHanded_31 ?_
    rw [zup_st]
    have m9 := mod56 (f := setF (h5 56) x y) hi tr (fun j hj => by have h9 : 0 ≤ h5 56 j ∧ h5 56 j ≤ 12 := tr.2.2.2.2.2.1.2.2.2.1 j hj; unfold setF; split <;> omega)
    have tr9 : tri h t n jn (handF h t x y) (xOf h 32) 0 (zst h5 56 (setF (h5 56) x y)) := ⟨m9.2.2.1, by rw [zst_ne (by omega)]; exact tr.2.1, fun z => absurd z (by omega), m9.2.2.2.2.2.2 _ (agn_set tr.2.2.2.1.2.1), by rw [m9.2.2.2.2.2.1]; simp, m9.2.2.2.2.1, m9.2.2.2.1⟩
    refine zV_aload_nr dX5_isHanded_32 rfl rfl ?_
    refine zV_callV (As := []) lk5_314 (rfl) rfl rfl (c5_trialIsAsRead (d - 1) 0 (by omega) hi tr9 hi.2.2.1.2.2.2.2.2.1 hdk hrd) ⟨by show _ + 1 ≤ d; omega, by show _ ≤ k; omega⟩ rfl (Nat.le_of_ble_eq_true rfl) dX5_isHanded_33 (fun _ _ z => z.elim) (fun r h' q => ?_)
    obtain ⟨rfl, q⟩ := q
    exact zV_zreturn dX5_isHanded_36 rfl (by split; exact Or.inr rfl; exact Or.inl rfl) (Nat.zero_le _) ⟨by unfold isH; rw [decide_eq_true h13, Bool.true_and], q⟩
  · refine zV_iconst dX5_isHanded_16 ?_
    exact zV_zreturn dX5_isHanded_17 rfl (Or.inl rfl) (Nat.zero_le _) ⟨by unfold isH; rw [decide_eq_false (fun z => z h13)]; rfl, qr_rfl hi⟩
set_option maxRecDepth 100000 in
theorem c5_handed {E : zE} {h : zH} {t n jn : Nat} {w : Int} (hw : -2147483648 ≤ w ∧ w ≤ 2147483647) {old ac rn : Nat} (hdk : dkOK h old ac rn) (hrd : rdOK h rn) (hi : tInv h t n jn) : zCal E mX5_handed 12 4 [zrv E 0, ziv w] h (fun r h' => (0 ≤ w ∧ w ≤ 2) ∧ r = some (ziv (hdV h t n jn rn w)) ∧ qry h h') (fun e h' => h' = h ∧ e = NSE ∧ ¬ (0 ≤ w ∧ w ≤ 2)) := by
  refine zCal_of (by decide) (Nat.le_of_ble_eq_true rfl) (fun a => ?_)
  show zV _ 0 0 [zrv E 0, ziv w, .null, .null, .null] [] _
  have ht := hi.2.1.1
  have k0 := hi.1
  have hnum := hi.2.2.2.2
  have hn8 := hi.2.1.2.1
  have hjn8 := hi.2.1.2.2.1
  refine zV_iload_n dX5_handed_0 rfl rfl ?_
  refine zV_iconst dX5_handed_1 ?_
  refine zV_callS (As := [ziv w, ziv 2]) lk5_251 (c5_needWhat (by omega) (by decide)) ⟨Nat.le_of_ble_eq_true rfl, Nat.le_of_ble_eq_true rfl⟩ rfl (Nat.le_of_ble_eq_true rfl) dX5_handed_2 (fun e h2 z => ⟨z.2.1, z.1, z.2.2⟩) (fun r h' q => ?_)
  obtain ⟨rfl, hh, cw⟩ := q
  rw [hh]
  refine zV_iload_n dX5_handed_5 rfl rfl ?_
  refine zV_iconst dX5_handed_6 ?_
  refine zR_icmp_ne (tgt := 27) dX5_handed_7 (by decide) (by omega) (by omega) (fun h7 => ?_) (fun h7 => ?_)
  · refine zV_iconst dX5_handed_27 ?_
    refine zV_istore_n dX5_handed_28 rfl (Nat.le_of_ble_eq_true rfl) rfl ?_
    refine zV_iconst dX5_handed_29 ?_
    refine zV_istore_n dX5_handed_30 rfl (Nat.le_of_ble_eq_true rfl) rfl ?_
    have L31 : ∀ (m : Nat) (s : Nat) (h1 : zH) (c : Int), (jn + 1 ≤ s + m) → (s ≤ jn) → (qr h h1) → (w = 0 → c = cntB (hdB h t n jn rn) (13 * s)) → (w = 1 → fstB (hdB h t n jn rn) 0 (13 * jn) = fstB (hdB h t n jn rn) (13 * s) (13 * jn - 13 * s)) → zV (E, mX5_handed, 12, 4, (fun r h' => (0 ≤ w ∧ w ≤ 2) ∧ r = some (ziv (hdV h t n jn rn w)) ∧ qry h h'), (fun e h' => h' = h ∧ e = NSE ∧ ¬ (0 ≤ w ∧ w ≤ 2)), a) 1 31 [zrv E 0, ziv w, ziv c, ziv (s : Int), .null] [] h1 := by
      intro m
      induction m with
      | zero => intro s h1 c hm_ hsn hq hc hf; exfalso; omega
      | succ m ih =>
        intro s h1 c hm_ hsn hq hc hf
        obtain ⟨hi1, g1, g2, g3⟩ := qr_inv hi hq
        have k0 : h1 0 3 = (t : Int) := hi1.1
        refine zV_iload_n dX5_handed_31 rfl rfl ?_
        refine zV_aload_nr dX5_handed_32 rfl rfl ?_
        refine gf5_20 (t := t) (k0) rfl (rfl) dX5_handed_33 ?_
        refine gf5_109 rfl (court_0 ht) dX5_handed_36 ?_
        rw [hi1.2.1.2.2.2.2.1]
        refine zR_icmp_ge (tgt := 90) dX5_handed_39 (by decide) (by omega) (by omega) (fun h39 => ?_) (fun h39 => ?_)
        · refine zV_iload_n dX5_handed_90 rfl rfl ?_
          refine zR_if_ne (tgt := 98) dX5_handed_91 (by decide) (by omega) (fun h91 => ?_) (fun h91 => ?_)
          · refine zV_iconst dX5_handed_98 ?_
            exact zV_ireturn dX5_handed_99 rfl (Nat.le_of_ble_eq_true rfl) ⟨cw, by
                have e1 : fstB (hdB h t n jn rn) 0 (13 * jn) = -1 := by rw [hf (by omega), show 13 * jn - 13 * s = 0 by omega]; rfl
                unfold hdV
                rw [if_neg (by omega), if_neg (by omega), if_pos e1], qr_qry hq⟩
          · refine zV_iload_n dX5_handed_94 rfl rfl ?_
            refine zV_goto (tgt := 99) dX5_handed_95 (by decide) ?_
            exact zV_ireturn dX5_handed_99 rfl (Nat.le_of_ble_eq_true rfl) ⟨cw, by unfold hdV; rw [if_neg (by omega), if_pos h91, hc h91, show s = jn by omega], qr_qry hq⟩
        · refine zV_iconst dX5_handed_42 ?_
          refine zV_istore dX5_handed_43 (Nat.le_of_ble_eq_true rfl) rfl ?_
          have L45 : ∀ (m2 : Nat) (i : Nat) (h2 : zH) (c2 : Int), (14 ≤ i + m2) → (i ≤ 13) → (qr h h2) → (w = 0 → c2 = cntB (hdB h t n jn rn) (13 * s + i)) → (w = 1 → fstB (hdB h t n jn rn) 0 (13 * jn) = fstB (hdB h t n jn rn) (13 * s + i) (13 * jn - (13 * s + i))) → zV (E, mX5_handed, 12, 4, (fun r h' => (0 ≤ w ∧ w ≤ 2) ∧ r = some (ziv (hdV h t n jn rn w)) ∧ qry h h'), (fun e h' => h' = h ∧ e = NSE ∧ ¬ (0 ≤ w ∧ w ≤ 2)), a) 1 45 [zrv E 0, ziv w, ziv c2, ziv (s : Int), ziv (i : Int)] [] h2 := by
            intro m2
            induction m2 with
            | zero => intro i h2 c2 hm_ hin hq2 hc2 hf2; exfalso; omega
            | succ m2 ih2 =>
              intro i h2 c2 hm_ hin hq2 hc2 hf2
              obtain ⟨hi2, g4, g5, g6⟩ := qr_inv hi hq2
              have k0 : h2 0 3 = (t : Int) := hi2.1
              refine zV_iload dX5_handed_45 rfl ?_
              refine zV_bipush dX5_handed_47 (by decide) ?_
              refine zR_icmp_gt (tgt := 84) dX5_handed_49 (by decide) (by omega) (by omega) (fun h49 => ?_) (fun h49 => ?_)
              · refine zV_iinc dX5_handed_84 rfl (Nat.le_of_ble_eq_true rfl) rfl ?_
                refine zV_goto (tgt := 31) dX5_handed_87 (by decide) ?_
                refine zV_drop 4 ?_
                exact ih (s + 1) _ c2 (by omega) (by omega) hq2 (fun z => by rw [hc2 z, show 13 * s + i = 13 * (s + 1) by omega]) (fun z => by rw [hf2 z, show 13 * s + i = 13 * (s + 1) by omega])
              · refine zV_aload_nr dX5_handed_52 rfl rfl ?_
                refine zV_iload_n dX5_handed_53 rfl rfl ?_
                refine zV_iload dX5_handed_54 rfl ?_
                refine zV_callV (As := [ziv (s : Int), ziv (i : Int)]) lk5_318 (rfl) rfl rfl (c5_isHanded (x := s) (y := (i : Int)) 11 0 (by decide) hi2 (rd_q hq2 hdk hrd).1 (rd_q hq2 hdk hrd).2 (by omega) (by omega)) ⟨by show _ + 1 ≤ 12; omega, by show _ ≤ 4; omega⟩ rfl (Nat.le_of_ble_eq_true rfl) dX5_handed_56 (fun _ _ z => z.elim) (fun r h' q => ?_)
                obtain ⟨rfl, q⟩ := q
                have hq3 := qr_trans hq2 q
                rw [isH_q hi hq2]
                have eb : isH h t n jn rn s (i : Int) = hdB h t n jn rn (13 * s + i) := by unfold hdB; rw [show (13 * s + i) / 13 = s by omega, show (13 * s + i) % 13 = i by omega]
                rw [eb]
                refine zR_if_eq (tgt := 78) dX5_handed_59 (by decide) (by split <;> omega) (fun h59 => ?_) (fun h59 => ?_)
                · have hb2 : ¬ hdB h t n jn rn (13 * s + i) = true := fun z => by
                    have h46 : (if hdB h t n jn rn (13 * s + i) = true then (1 : Int) else 0) = 0 := h59
                    rw [if_pos z] at h46
                    exact absurd h46 (by decide)
                  refine zV_iinc dX5_handed_78 rfl (Nat.le_of_ble_eq_true rfl) rfl ?_
                  refine zV_goto (tgt := 45) dX5_handed_81 (by decide) ?_
                  exact ih2 (i + 1) _ c2 (by omega) (by omega) hq3 (fun z => by rw [hc2 z]; show _ = cntB _ (13 * s + i + 1); rw [cntB_s, if_neg hb2]) (fun z => by rw [hf2 z, show 13 * jn - (13 * s + i) = (13 * jn - (13 * s + (i + 1))) + 1 by omega, fstB_s, if_neg hb2]; rfl)
                · have hb2 : hdB h t n jn rn (13 * s + i) = true := Decidable.byContradiction fun z => h59 (if_neg z)
                  refine zV_iload_n dX5_handed_62 rfl rfl ?_
                  refine zV_iconst dX5_handed_63 ?_
                  refine zR_icmp_ne (tgt := 75) dX5_handed_64 (by decide) (by omega) (by omega) (fun h64 => ?_) (fun h64 => ?_)
                  · refine zV_iinc dX5_handed_75 rfl (Nat.le_of_ble_eq_true rfl) rfl ?_
                    refine zV_iinc dX5_handed_78 rfl (Nat.le_of_ble_eq_true rfl) rfl ?_
                    refine zV_goto (tgt := 45) dX5_handed_81 (by decide) ?_
                    exact ih2 (i + 1) _ _ (by omega) (by omega) hq3 (fun z => by rw [hc2 z]; show _ = cntB _ (13 * s + i + 1); rw [cntB_s, if_pos hb2]) (fun z => absurd z h64)
                  · refine zV_bipush dX5_handed_67 (by decide) ?_
                    refine zV_iload_n dX5_handed_69 rfl rfl ?_
                    refine zV_imul dX5_handed_70 ?_
                    refine zV_iload dX5_handed_71 rfl ?_
                    refine zV_iadd dX5_handed_73 ?_
                    exact zV_ireturn dX5_handed_74 rfl (Nat.le_of_ble_eq_true rfl) ⟨cw, by
                      have e1 : fstB (hdB h t n jn rn) 0 (13 * jn) = ((13 * s + i : Nat) : Int) := by rw [hf2 h64, show 13 * jn - (13 * s + i) = (13 * jn - (13 * s + i) - 1) + 1 by omega, fstB_s, if_pos hb2]
                      unfold hdV
                      rw [if_neg (by omega), if_neg (by omega), e1, if_neg (by omega), show ((13 * s + i : Nat) : Int) / 13 = (s : Int) by omega, show ((13 * s + i : Nat) : Int) % 13 = (i : Int) by omega], qr_qry hq3⟩
          exact L45 14 0 h1 c (by omega) (by omega) hq hc hf
    exact L31 (jn + 1) 0 h 0 (by omega) (by omega) (qr_rfl hi) (fun _ => rfl) (fun _ => rfl)
  · refine zV_aload_nr dX5_handed_10 rfl rfl ?_
    refine zV_callV (As := []) lk5_248 (rfl) rfl rfl (c5_startTrial 11 0 (by decide)) ⟨by show _ + 1 ≤ 12; omega, by show _ ≤ 4; omega⟩ rfl (Nat.le_of_ble_eq_true rfl) dX5_handed_11 (fun _ _ z => z.elim) (fun r h' q => ?_)
    obtain ⟨rfl, q⟩ := q
    have tr := tri_0 hi q
    refine zV_aload_nr dX5_handed_14 rfl rfl ?_
    refine zV_callV (As := []) lk5_314 (rfl) rfl rfl (c5_trialIsAsRead 11 0 (by decide) hi tr hi.2.2.1.2.2.2.2.2.1 hdk hrd) ⟨by show _ + 1 ≤ 12; omega, by show _ ≤ 4; omega⟩ rfl (Nat.le_of_ble_eq_true rfl) dX5_handed_15 (fun _ _ z => z.elim) (fun r h' q => ?_)
    obtain ⟨rfl, q⟩ := q
    refine zR_if_eq (tgt := 25) dX5_handed_18 (by decide) (by split <;> omega) (fun h18 => ?_) (fun h18 => ?_)
    · refine zV_iconst dX5_handed_25 ?_
      exact zV_ireturn dX5_handed_26 rfl (Nat.le_of_ble_eq_true rfl) ⟨cw, by unfold hdV; rw [if_pos h7, if_neg (fun z => by
          have h46 : (if isR h n jn rn (gOf h 32 t) = true then (1 : Int) else 0) = 0 := h18
          rw [if_pos z] at h46
          exact absurd h46 (by decide))], qr_qry q⟩
    · refine zV_iconst dX5_handed_21 ?_
      refine zV_goto (tgt := 26) dX5_handed_22 (by decide) ?_
      exact zV_ireturn dX5_handed_26 rfl (Nat.le_of_ble_eq_true rfl) ⟨cw, by unfold hdV; rw [if_pos h7, if_pos (Decidable.byContradiction fun z => h18 (if_neg z))], qr_qry q⟩
