theorem zand_r (x y : Int) : -2147483648 ≤ zand x y ∧ zand x y ≤ 2147483647 := by
  unfold zand
  have h1 := Int32.le_toInt (Int32.ofInt x &&& Int32.ofInt y)
  have h2 := Int32.toInt_lt (Int32.ofInt x &&& Int32.ofInt y)
  omega
section ZW
variable {C : zC} {n pc : Nat} {lv st : List Value} {h : zH}
theorem zV_ldcw {idx : Nat} {v : Int} (hc : Cond.constant (cown C) idx (Int32.ofInt v) ∈ zTs) (hd : decode (ccc C) pc = .ok (.ldc_w idx, 3)) (kk : zV C n (pc + 3) lv (ziv v :: st) h) : zV C n pc lv st h := fun ok H locs ls hP hS hl =>
  lv_ldcw ok.1 ok.2.1 ok.2.2.2.2.1 (ok.2.2.2.2.2.1 _ hc) hd (kk ok H locs ls hP hS hl)
end ZW
theorem kcJ_265 : Cond.constant RJ6 265 (Int32.ofInt 1431655765) ∈ zTs := zTs_of (by decide +kernel) (by decide +kernel)
theorem kcJ_266 : Cond.constant RJ6 266 (Int32.ofInt 858993459) ∈ zTs := zTs_of (by decide +kernel) (by decide +kernel)
theorem kcJ_267 : Cond.constant RJ6 267 (Int32.ofInt 252645135) ∈ zTs := zTs_of (by decide +kernel) (by decide +kernel)
theorem kc6_197 : Cond.constant RX6 197 (Int32.ofInt 100000) ∈ zTs := zTs_of (by decide +kernel) (by decide +kernel)
/-- the JDK's count of bits, as it counts -/
def bitC (x : Int) : Int :=
  let a := x - zand (zushr x 1) 1431655765
  let b := zand a 858993459 + zand (zushr a 2) 858993459
  let c := zand (b + zushr b 4) 252645135
  let d := c + zushr c 8
  let e := d + zushr d 16
  zand e 63
set_option maxRecDepth 100000 in
theorem cJ_bitCount {E : zE} {h : zH} {x : Int} (d k : Nat) : zCal E mJ6_bitCount_0f7a4 d k [ziv x] h (fun r h' => r = some (ziv (bitC x)) ∧ h' = h) (fun _ _ => False) := by
  refine zCal_ofF (by decide +kernel) (Nat.le_of_ble_eq_true rfl) (fun a => ?_)
  show zV _ 0 0 [ziv x] [] _
  refine zV_iload_n dJ6_bitCount_0f7a4_0 rfl rfl ?_
  refine zV_iload_n dJ6_bitCount_0f7a4_1 rfl rfl ?_
  refine zV_iconst dJ6_bitCount_0f7a4_2 ?_
  refine zV_iushr dJ6_bitCount_0f7a4_3 ?_
  refine zV_ldcw (v := 1431655765) kcJ_265 dJ6_bitCount_0f7a4_4 ?_
  refine zV_iand dJ6_bitCount_0f7a4_7 ?_
  refine zV_isub dJ6_bitCount_0f7a4_8 ?_
  refine zV_istore_n dJ6_bitCount_0f7a4_9 rfl (Nat.le_of_ble_eq_true rfl) rfl ?_
  refine zV_iload_n dJ6_bitCount_0f7a4_10 rfl rfl ?_
  refine zV_ldcw (v := 858993459) kcJ_266 dJ6_bitCount_0f7a4_11 ?_
  refine zV_iand dJ6_bitCount_0f7a4_14 ?_
  refine zV_iload_n dJ6_bitCount_0f7a4_15 rfl rfl ?_
  refine zV_iconst dJ6_bitCount_0f7a4_16 ?_
  refine zV_iushr dJ6_bitCount_0f7a4_17 ?_
  refine zV_ldcw (v := 858993459) kcJ_266 dJ6_bitCount_0f7a4_18 ?_
  refine zV_iand dJ6_bitCount_0f7a4_21 ?_
  refine zV_iadd dJ6_bitCount_0f7a4_22 ?_
  refine zV_istore_n dJ6_bitCount_0f7a4_23 rfl (Nat.le_of_ble_eq_true rfl) rfl ?_
  refine zV_iload_n dJ6_bitCount_0f7a4_24 rfl rfl ?_
  refine zV_iload_n dJ6_bitCount_0f7a4_25 rfl rfl ?_
  refine zV_iconst dJ6_bitCount_0f7a4_26 ?_
  refine zV_iushr dJ6_bitCount_0f7a4_27 ?_
  refine zV_iadd dJ6_bitCount_0f7a4_28 ?_
  refine zV_ldcw (v := 252645135) kcJ_267 dJ6_bitCount_0f7a4_29 ?_
  refine zV_iand dJ6_bitCount_0f7a4_32 ?_
  refine zV_istore_n dJ6_bitCount_0f7a4_33 rfl (Nat.le_of_ble_eq_true rfl) rfl ?_
  refine zV_iload_n dJ6_bitCount_0f7a4_34 rfl rfl ?_
  refine zV_iload_n dJ6_bitCount_0f7a4_35 rfl rfl ?_
  refine zV_bipush dJ6_bitCount_0f7a4_36 (by decide) ?_
  refine zV_iushr dJ6_bitCount_0f7a4_38 ?_
  refine zV_iadd dJ6_bitCount_0f7a4_39 ?_
  refine zV_istore_n dJ6_bitCount_0f7a4_40 rfl (Nat.le_of_ble_eq_true rfl) rfl ?_
  refine zV_iload_n dJ6_bitCount_0f7a4_41 rfl rfl ?_
  refine zV_iload_n dJ6_bitCount_0f7a4_42 rfl rfl ?_
  refine zV_bipush dJ6_bitCount_0f7a4_43 (by decide) ?_
  refine zV_iushr dJ6_bitCount_0f7a4_45 ?_
  refine zV_iadd dJ6_bitCount_0f7a4_46 ?_
  refine zV_istore_n dJ6_bitCount_0f7a4_47 rfl (Nat.le_of_ble_eq_true rfl) rfl ?_
  refine zV_iload_n dJ6_bitCount_0f7a4_48 rfl rfl ?_
  refine zV_bipush dJ6_bitCount_0f7a4_49 (by decide) ?_
  refine zV_iand dJ6_bitCount_0f7a4_51 ?_
  exact zV_ireturn dJ6_bitCount_0f7a4_52 rfl (Nat.zero_le _) ⟨rfl, rfl⟩
theorem bitC_lo (x : Int) : -2147483648 ≤ bitC x ∧ bitC x ≤ 2147483647 := by unfold bitC; exact zand_r _ _
/-- the verdict, some hands being turned -/
def turnV (h : zH) (t n jn : Nat) (b : Int) : Int := oneV n jn (gHa (gOf h 32 t) (turnP (h 35) b jn)) (h 32 6) (h 33)
theorem turnV_q {h h1 : zH} {t n jn : Nat} (hi : tInv h t n jn) (hq : qr h h1) (b : Int) : turnV h1 t n jn b = turnV h t n jn b := by
  obtain ⟨a1, a2, a3, a4⟩ := qr_inv hi hq
  unfold turnV
  rw [a2, a4, hq.1 35 (by omega), hq.1 33 (by omega)]
def decS (V : Int → Int) (v : Int) : Nat → Int
  | 0 => 0
  | m + 1 => if V (zshl 1 m) = v then decS V v m else zor (decS V v m) (zshl 1 m)
/-- the fewest, of the first m sets, by whose turning v comes -/
def ttS (V : Int → Int) (v : Int) : Nat → Int
  | 0 => -1
  | m + 1 => if (ttS V v m = -1 ∨ bitC m < bitC (ttS V v m)) ∧ V m = v then (m : Int) else ttS V v m
theorem ttS_lo (V : Int → Int) (v : Int) (m : Nat) : ttS V v m = -1 ∨ (0 ≤ ttS V v m ∧ ttS V v m < m) := by
  induction m with
  | zero => exact Or.inl rfl
  | succ m ih => unfold ttS; split <;> omega

set_option maxRecDepth 100000 in
theorem c5_verdictIfTurned {E : zE} {h : zH} {t n jn : Nat} {b : Int} (d k : Nat) (hd : 5 ≤ d) (hi : tInv h t n jn) : zCal E mX5_verdictIfTurned d k [zrv E 0, ziv b] h (fun r h' => r = some (ziv (turnV h t n jn b)) ∧ qr h h') (fun _ _ => False) := by
  refine zCal_of (by decide) (Nat.le_of_ble_eq_true rfl) (fun a => ?_)
  show zV _ 0 0 [zrv E 0, ziv b, .null] [] _
  have ht := hi.2.1.1
  have ht9 : t = 2 ∨ t = 16 := ht
  have hjn8 := hi.2.1.2.2.1
  refine zV_aload_nr dX5_verdictIfTurned_0 rfl rfl ?_
  refine zV_callV (As := []) lk5_248 (rfl) rfl rfl (c5_startTrial (d - 1) 0 (by omega)) ⟨by show _ + 1 ≤ d; omega, by show _ ≤ k; omega⟩ rfl (Nat.le_of_ble_eq_true rfl) dX5_verdictIfTurned_1 (fun _ _ z => z.elim) (fun r h5 q => ?_)
  obtain ⟨rfl, q⟩ := q
  have tr := tri_0 hi q
  have k0 : h5 0 3 = (t : Int) := by rw [tr.1 0 (by omega)]; exact hi.1
  have hj3 : h5 t 3 = (jn : Int) := (tri_ct hi.2.1 tr).2.2.2.2.1
  refine zV_iconst dX5_verdictIfTurned_4 ?_
  refine zV_istore_n dX5_verdictIfTurned_5 rfl (Nat.le_of_ble_eq_true rfl) rfl ?_
  have L6 : ∀ (m : Nat) (s : Nat), (jn + 1 ≤ s + m) → (s ≤ jn) → zV (E, mX5_verdictIfTurned, d, k, (fun r h' => r = some (ziv (turnV h t n jn b)) ∧ qr h h'), (fun _ _ => False), a) 0 6 [zrv E 0, ziv b, ziv (s : Int)] [] (zst h5 56 (turnP (h5 56) b s)) := by
    intro m
    induction m with
    | zero => intro s hm_ hsn; exfalso; omega
    | succ m ih =>
      intro s hm_ hsn
      have k0 : (zst h5 56 (turnP (h5 56) b s)) 0 3 = (t : Int) := by rw [zst_ne (by omega)]; exact k0
      refine zV_iload_n dX5_verdictIfTurned_6 rfl rfl ?_
      refine zV_aload_nr dX5_verdictIfTurned_7 rfl rfl ?_
      refine gf5_20 (t := t) (k0) rfl (rfl) dX5_verdictIfTurned_8 ?_
      refine gf5_109 rfl (court_0 ht) dX5_verdictIfTurned_11 ?_
      rw [zst_ne (by omega), hj3]
      refine zR_icmp_ge (tgt := 53) dX5_verdictIfTurned_14 (by decide) (by omega) (by omega) (fun h14 => ?_) (fun h14 => ?_)
      · have e : jn = s := by omega
        subst e
        have m9 := mod56 (f := turnP (h5 56) b jn) hi tr (fun j hj => by have h9 : 0 ≤ h5 56 j ∧ h5 56 j ≤ 12 := tr.2.2.2.2.2.1.2.2.2.1 j hj; unfold turnP; split <;> omega)
        refine zV_aload_nr dX5_verdictIfTurned_53 rfl rfl ?_
        refine zV_callV (As := []) lk5_264 (rfl) rfl rfl (c5_nextVerdict (d - 1) 0 (by omega) m9.1 m9.2.1 m9.2.2.2.2.1 m9.2.2.2.1) ⟨by show _ + 1 ≤ d; omega, by show _ ≤ k; omega⟩ rfl (Nat.le_of_ble_eq_true rfl) dX5_verdictIfTurned_54 (fun _ _ z => z.elim) (fun r h' q => ?_)
        obtain ⟨rfl, q9⟩ := q
        have w9 := tri_one (p := h 33) (g := gHa (gOf h 32 t) (turnP (h 35) b jn)) hi m9.2.2.1 (by rw [zst_ne (by omega)]; exact tr.2.1) (m9.2.2.2.2.2.2 _ (turnP_congr tr.2.2.2.1.2.1)) m9.2.2.2.2.2.1 m9.2.2.2.2.1 m9.2.2.2.1 q9
        rw [w9.1]
        exact zV_ireturn dX5_verdictIfTurned_57 rfl (Nat.zero_le _) ⟨rfl, w9.2⟩
      · refine zV_iload_n dX5_verdictIfTurned_17 rfl rfl ?_
        refine zV_iload_n dX5_verdictIfTurned_18 rfl rfl ?_
        refine zV_ishr dX5_verdictIfTurned_19 ?_
        refine zV_iconst dX5_verdictIfTurned_20 ?_
        refine zV_iand dX5_verdictIfTurned_21 ?_
        refine zV_iconst dX5_verdictIfTurned_22 ?_
        have zr := zand_r (zshr b (s : Int)) 1
        refine zR_icmp_ne (tgt := 47) dX5_verdictIfTurned_23 (by decide) (by omega) (by omega) (fun h23 => ?_) (fun h23 => ?_)
        · refine zV_iinc dX5_verdictIfTurned_47 rfl (Nat.le_of_ble_eq_true rfl) rfl ?_
          refine zV_goto (tgt := 6) dX5_verdictIfTurned_50 (by decide) ?_
          refine zV_heq (h' := zst h5 56 (turnP (h5 56) b (s + 1))) ?_ ?_
          · congr 1
            funext j
            unfold turnP
            by_cases e : j = s
            · subst e; rw [if_neg (fun z => h23 z.2), if_neg (by omega)]
            · by_cases e2 : j < s ∧ zand (zshr b j) 1 = 1
              · rw [if_pos ⟨by omega, e2.2⟩, if_pos e2]
              · rw [if_neg (fun z => e2 ⟨by omega, z.2⟩), if_neg e2]
          · exact ih (s + 1) (by omega) (by omega)
        · refine zV_aload_nr dX5_verdictIfTurned_26 rfl rfl ?_
          refine gf5_51 rfl (rfl) dX5_verdictIfTurned_27 ?_
          refine zV_teq (w := zrv E 53) rfl ?_
          refine gf5_173 rfl (rfl) dX5_verdictIfTurned_30 ?_
          refine zV_teq (w := zrv E 56) rfl ?_
          refine zV_iload_n dX5_verdictIfTurned_33 rfl rfl ?_
          refine zV_bipush dX5_verdictIfTurned_34 (by decide) ?_
          refine zV_aload_nr dX5_verdictIfTurned_36 rfl rfl ?_
          refine gf5_51 rfl (rfl) dX5_verdictIfTurned_37 ?_
          refine zV_teq (w := zrv E 53) rfl ?_
          refine gf5_173 rfl (rfl) dX5_verdictIfTurned_40 ?_
          refine zV_teq (w := zrv E 56) rfl ?_
          refine zV_iload_n dX5_verdictIfTurned_43 rfl rfl ?_
          refine zV_ialoadN (i := s) (N := 8) (rfl) (by omega) (by decide) dX5_verdictIfTurned_44 ?_
          rw [zst_same, show turnP (h5 56) b s s = h5 56 s by unfold turnP; rw [if_neg (by omega)]]
          refine zV_isub dX5_verdictIfTurned_45 ?_
          refine zV_iastoreN (i := s) (N := 8) (rfl) (by omega) (by decide) dX5_verdictIfTurned_46 ?_
          refine zV_iinc dX5_verdictIfTurned_47 rfl (Nat.le_of_ble_eq_true rfl) rfl ?_
          refine zV_goto (tgt := 6) dX5_verdictIfTurned_50 (by decide) ?_
          refine zV_heq (h' := zst h5 56 (turnP (h5 56) b (s + 1))) ?_ ?_
          · rw [zup_zst]
            congr 1
            funext j
            unfold turnP
            by_cases e : j = s
            · subst e; rw [if_pos ⟨by omega, h23⟩, if_pos rfl]
            · rw [if_neg e]
              by_cases e2 : j < s ∧ zand (zshr b j) 1 = 1
              · rw [if_pos ⟨by omega, e2.2⟩, if_pos e2]
              · rw [if_neg (fun z => e2 ⟨by omega, z.2⟩), if_neg e2]
          · exact ih (s + 1) (by omega) (by omega)
  refine zV_heq (h' := zst h5 56 (turnP (h5 56) b 0)) (by rw [show turnP (h5 56) b 0 = h5 56 from funext fun j => by unfold turnP; rw [if_neg (by omega)], zst_self]) ?_
  exact L6 (jn + 1) 0 (by omega) (by omega)
set_option maxRecDepth 100000 in
theorem c5_decisive {E : zE} {h : zH} {t n jn : Nat}  (hi : tInv h t n jn) : zCal E mX5_decisive 12 4 [zrv E 0] h (fun r h' => r = some (ziv (decS (turnV h t n jn) (oneV n jn (gOf h 32 t) (h 32 6) (h 33)) jn)) ∧ qry h h') (fun _ _ => False) := by
  refine zCal_of (by decide) (Nat.le_of_ble_eq_true rfl) (fun a => ?_)
  show zV _ 0 0 [zrv E 0, .null, .null, .null] [] _
  have ht := hi.2.1.1
  have k0 := hi.1
  have hnum := hi.2.2.2.2
  have hn8 := hi.2.1.2.1
  have hjn8 := hi.2.1.2.2.1
  refine zV_aload_nr dX5_decisive_0 rfl rfl ?_
  refine zV_callV (As := []) lk5_248 (rfl) rfl rfl (c5_startTrial 11 0 (by decide)) ⟨by show _ + 1 ≤ 12; omega, by show _ ≤ 4; omega⟩ rfl (Nat.le_of_ble_eq_true rfl) dX5_decisive_1 (fun _ _ z => z.elim) (fun r h' q => ?_)
  obtain ⟨rfl, q⟩ := q
  have tr := tri_0 hi q
  have k0 : h' 0 3 = (t : Int) := by rw [tr.1 0 (by omega)]; exact hi.1
  refine zV_aload_nr dX5_decisive_4 rfl rfl ?_
  refine zV_callV (As := []) lk5_264 (rfl) rfl rfl (c5_nextVerdict 11 0 (by decide) k0 (tri_ct hi.2.1 tr) tr.2.2.2.2.2.1 tr.2.2.2.2.2.2) ⟨by show _ + 1 ≤ 12; omega, by show _ ≤ 4; omega⟩ rfl (Nat.le_of_ble_eq_true rfl) dX5_decisive_5 (fun _ _ z => z.elim) (fun r h' q => ?_)
  obtain ⟨rfl, q⟩ := q
  have tr2 := tri_s hi.2.1 (by omega) tr q
  have w8 := oneV_eq (ca := h 32 6) (x := xOf h 32) (p := h 33) (gag_rfl n jn (gOf h 32 t)) hi.2.2.1.2.2.2.2.1 (agn_rfl _ _)
  rw [(tr2.2.2.1 (by omega)).1, show (0 + 1 : Nat) = 1 from rfl, w8]
  have o5 := oneV_lo n jn (gOf h 32 t) (h 32 6) (h 33)
  refine zV_istore_n dX5_decisive_8 rfl (Nat.le_of_ble_eq_true rfl) rfl ?_
  refine zV_iconst dX5_decisive_9 ?_
  refine zV_istore_n dX5_decisive_10 rfl (Nat.le_of_ble_eq_true rfl) rfl ?_
  refine zV_iconst dX5_decisive_11 ?_
  refine zV_istore_n dX5_decisive_12 rfl (Nat.le_of_ble_eq_true rfl) rfl ?_
  have L13 : ∀ (m : Nat) (s : Nat) (h1 : zH), (jn + 1 ≤ s + m) → (s ≤ jn) → (qr h h1) → zV (E, mX5_decisive, 12, 4, (fun r h' => r = some (ziv (decS (turnV h t n jn) (oneV n jn (gOf h 32 t) (h 32 6) (h 33)) jn)) ∧ qry h h'), (fun _ _ => False), a) 0 13 [zrv E 0, ziv (oneV n jn (gOf h 32 t) (h 32 6) (h 33)), ziv (decS (turnV h t n jn) (oneV n jn (gOf h 32 t) (h 32 6) (h 33)) s), ziv (s : Int)] [] h1 := by
    intro m
    induction m with
    | zero => intro s h1 hm_ hsn hq; exfalso; omega
    | succ m ih =>
      intro s h1 hm_ hsn hq
      obtain ⟨hi1, g1, g2, g3⟩ := qr_inv hi hq
      have k0 : h1 0 3 = (t : Int) := hi1.1
      refine zV_iload_n dX5_decisive_13 rfl rfl ?_
      refine zV_aload_nr dX5_decisive_14 rfl rfl ?_
      refine gf5_20 (t := t) (k0) rfl (rfl) dX5_decisive_15 ?_
      refine gf5_109 rfl (court_0 ht) dX5_decisive_18 ?_
      rw [hi1.2.1.2.2.2.2.1]
      refine zR_icmp_ge (tgt := 47) dX5_decisive_21 (by decide) (by omega) (by omega) (fun h21 => ?_) (fun h21 => ?_)
      · refine zV_iload_n dX5_decisive_47 rfl rfl ?_
        exact zV_ireturn dX5_decisive_48 rfl (Nat.le_of_ble_eq_true rfl) ⟨by rw [show jn = s by omega], qr_qry hq⟩
      · refine zV_aload_nr dX5_decisive_24 rfl rfl ?_
        refine zV_iconst dX5_decisive_25 ?_
        refine zV_iload_n dX5_decisive_26 rfl rfl ?_
        refine zV_ishl dX5_decisive_27 ?_
        refine zV_callV (As := [ziv (zshl 1 (s : Int))]) lk5_299 (rfl) rfl rfl (c5_verdictIfTurned 11 0 (by decide) hi1) ⟨by show _ + 1 ≤ 12; omega, by show _ ≤ 4; omega⟩ rfl (Nat.le_of_ble_eq_true rfl) dX5_decisive_28 (fun _ _ z => z.elim) (fun r h' q => ?_)
        obtain ⟨rfl, q9⟩ := q
        rw [turnV_q hi hq]
        refine zV_iload_n dX5_decisive_31 rfl rfl ?_
        have o66 : -2147483648 ≤ turnV h t n jn (zshl 1 (s : Int)) ∧ turnV h t n jn (zshl 1 (s : Int)) ≤ 2147483647 := by have := oneV_lo n jn (gHa (gOf h 32 t) (turnP (h 35) (zshl 1 (s : Int)) jn)) (h 32 6) (h 33); unfold turnV; omega
        refine zR_icmp_eq (tgt := 41) dX5_decisive_32 (by decide) o66 (by omega) (fun h32 => ?_) (fun h32 => ?_)
        · refine zV_iinc dX5_decisive_41 rfl (Nat.le_of_ble_eq_true rfl) rfl ?_
          refine zV_goto (tgt := 13) dX5_decisive_44 (by decide) ?_
          refine zV_lveq (lv' := [zrv E 0, ziv (oneV n jn (gOf h 32 t) (h 32 6) (h 33)), ziv (decS (turnV h t n jn) (oneV n jn (gOf h 32 t) (h 32 6) (h 33)) (s + 1)), ziv ((s + 1 : Nat) : Int)]) (by rw [show decS (turnV h t n jn) (oneV n jn (gOf h 32 t) (h 32 6) (h 33)) (s + 1) = decS (turnV h t n jn) (oneV n jn (gOf h 32 t) (h 32 6) (h 33)) s from if_pos h32]; rfl) ?_
          exact ih (s + 1) _ (by omega) (by omega) (qr_trans hq q9)
        · refine zV_iload_n dX5_decisive_35 rfl rfl ?_
          refine zV_iconst dX5_decisive_36 ?_
          refine zV_iload_n dX5_decisive_37 rfl rfl ?_
          refine zV_ishl dX5_decisive_38 ?_
          refine zV_ior dX5_decisive_39 ?_
          refine zV_istore_n dX5_decisive_40 rfl (Nat.le_of_ble_eq_true rfl) rfl ?_
          refine zV_iinc dX5_decisive_41 rfl (Nat.le_of_ble_eq_true rfl) rfl ?_
          refine zV_goto (tgt := 13) dX5_decisive_44 (by decide) ?_
          refine zV_lveq (lv' := [zrv E 0, ziv (oneV n jn (gOf h 32 t) (h 32 6) (h 33)), ziv (decS (turnV h t n jn) (oneV n jn (gOf h 32 t) (h 32 6) (h 33)) (s + 1)), ziv ((s + 1 : Nat) : Int)]) (by rw [show decS (turnV h t n jn) (oneV n jn (gOf h 32 t) (h 32 6) (h 33)) (s + 1) = zor (decS (turnV h t n jn) (oneV n jn (gOf h 32 t) (h 32 6) (h 33)) s) (zshl 1 s) from if_neg h32]; rfl) ?_
          exact ih (s + 1) _ (by omega) (by omega) (qr_trans hq q9)
  exact L13 (jn + 1) 0 _ (by omega) (by omega) (qr_tri tr2)
set_option maxRecDepth 100000 in
theorem c5_toTurn {E : zE} {h : zH} {t n jn : Nat} {x : Int} (hx : -2147483648 ≤ x ∧ x ≤ 2147483647) (hi : tInv h t n jn) : zCal E mX5_toTurn 12 4 [zrv E 0, ziv x] h (fun r h' => (0 ≤ x ∧ x < 5) ∧ r = some (ziv (ttS (turnV h t n jn) x (2 ^ jn))) ∧ qry h h') (fun e h' => h' = h ∧ e = NSE ∧ ¬ (0 ≤ x ∧ x < 5)) := by
  refine zCal_of (by decide) (Nat.le_of_ble_eq_true rfl) (fun a => ?_)
  show zV _ 0 0 [zrv E 0, ziv x, .null, .null, .null] [] _
  have ht := hi.2.1.1
  have k0 := hi.1
  have hnum := hi.2.2.2.2
  have hn8 := hi.2.1.2.1
  have hjn8 := hi.2.1.2.2.1
  have h2p : 2 ^ jn ≤ 256 := Nat.le_trans (Nat.pow_le_pow_right (by omega) hi.2.1.2.2.1) (by decide)
  refine zV_iload_n dX5_toTurn_0 rfl rfl ?_
  refine zV_callS (As := [ziv x]) lk5_261 (c5_needVerdict (by omega)) ⟨Nat.le_of_ble_eq_true rfl, Nat.le_of_ble_eq_true rfl⟩ rfl (Nat.le_of_ble_eq_true rfl) dX5_toTurn_1 (fun e h2 z => ⟨z.2.1, z.1, z.2.2⟩) (fun r h' q => ?_)
  obtain ⟨rfl, hh, cv⟩ := q
  rw [hh]
  refine zV_iconst dX5_toTurn_4 ?_
  refine zV_istore_n dX5_toTurn_5 rfl (Nat.le_of_ble_eq_true rfl) rfl ?_
  refine zV_iconst dX5_toTurn_6 ?_
  refine zV_istore_n dX5_toTurn_7 rfl (Nat.le_of_ble_eq_true rfl) rfl ?_
  have L8 : ∀ (m : Nat) (s : Nat) (h1 : zH), (2 ^ jn + 1 ≤ s + m) → (s ≤ 2 ^ jn) → (qr h h1) → zV (E, mX5_toTurn, 12, 4, (fun r h' => (0 ≤ x ∧ x < 5) ∧ r = some (ziv (ttS (turnV h t n jn) x (2 ^ jn))) ∧ qry h h'), (fun e h' => h' = h ∧ e = NSE ∧ ¬ (0 ≤ x ∧ x < 5)), a) 1 8 [zrv E 0, ziv x, ziv (ttS (turnV h t n jn) x s), ziv (s : Int), .null] [] h1 := by
    intro m
    induction m with
    | zero => intro s h1 hm_ hsn hq; exfalso; omega
    | succ m ih =>
      intro s h1 hm_ hsn hq
      obtain ⟨hi1, g1, g2, g3⟩ := qr_inv hi hq
      have k0 : h1 0 3 = (t : Int) := hi1.1
      have tl := ttS_lo (turnV h t n jn) x s
      refine zV_iload_n dX5_toTurn_8 rfl rfl ?_
      refine zV_iconst dX5_toTurn_9 ?_
      refine zV_aload_nr dX5_toTurn_10 rfl rfl ?_
      refine gf5_20 (t := t) (k0) rfl (rfl) dX5_toTurn_11 ?_
      refine gf5_109 rfl (court_0 ht) dX5_toTurn_14 ?_
      refine zV_ishl dX5_toTurn_17 ?_
      rw [hi1.2.1.2.2.2.2.1, z1shl jn hjn8]
      refine zR_icmp_ge (tgt := 66) dX5_toTurn_18 (by decide) (by omega) (by omega) (fun h18 => ?_) (fun h18 => ?_)
      · refine zV_iload_n dX5_toTurn_66 rfl rfl ?_
        exact zV_ireturn dX5_toTurn_67 rfl (Nat.le_of_ble_eq_true rfl) ⟨cv, by rw [show 2 ^ jn = s by omega], qr_qry hq⟩
      · have J42 : ∀ (fe : Int), (fe = if ttS (turnV h t n jn) x s = -1 ∨ bitC s < bitC (ttS (turnV h t n jn) x s) then 1 else 0) → zV (E, mX5_toTurn, 12, 4, (fun r h' => (0 ≤ x ∧ x < 5) ∧ r = some (ziv (ttS (turnV h t n jn) x (2 ^ jn))) ∧ qry h h'), (fun e h' => h' = h ∧ e = NSE ∧ ¬ (0 ≤ x ∧ x < 5)), a) 1 42 [zrv E 0, ziv x, ziv (ttS (turnV h t n jn) x s), ziv (s : Int), .null] [ziv fe] h1 := by
          intro fe hfe
          refine zV_istore dX5_toTurn_42 (Nat.le_of_ble_eq_true rfl) rfl ?_
          refine zV_iload dX5_toTurn_44 rfl ?_
          refine zR_if_eq (tgt := 60) dX5_toTurn_46 (by decide) (by rw [hfe]; split <;> omega) (fun h46 => ?_) (fun h46 => ?_)
          · refine zV_iinc dX5_toTurn_60 rfl (Nat.le_of_ble_eq_true rfl) rfl ?_
            refine zV_goto (tgt := 8) dX5_toTurn_63 (by decide) ?_
            refine zV_drop 4 ?_
            refine zV_lveq (lv' := [zrv E 0, ziv x, ziv (ttS (turnV h t n jn) x (s + 1)), ziv ((s + 1 : Nat) : Int), .null]) (by rw [show ttS (turnV h t n jn) x (s + 1) = ttS (turnV h t n jn) x s from if_neg (fun z => by rw [if_pos z.1] at hfe; omega)]; rfl) ?_
            exact ih (s + 1) _ (by omega) (by omega) hq
          · refine zV_aload_nr dX5_toTurn_49 rfl rfl ?_
            refine zV_iload_n dX5_toTurn_50 rfl rfl ?_
            refine zV_callV (As := [ziv (s : Int)]) lk5_299 (rfl) rfl rfl (c5_verdictIfTurned 11 0 (by decide) hi1) ⟨by show _ + 1 ≤ 12; omega, by show _ ≤ 4; omega⟩ rfl (Nat.le_of_ble_eq_true rfl) dX5_toTurn_51 (fun _ _ z => z.elim) (fun r h' q => ?_)
            obtain ⟨rfl, q9⟩ := q
            rw [turnV_q hi hq]
            refine zV_iload_n dX5_toTurn_54 rfl rfl ?_
            have o66 : -2147483648 ≤ turnV h t n jn (s : Int) ∧ turnV h t n jn (s : Int) ≤ 2147483647 := by have := oneV_lo n jn (gHa (gOf h 32 t) (turnP (h 35) (s : Int) jn)) (h 32 6) (h 33); unfold turnV; omega
            refine zR_icmp_ne (tgt := 60) dX5_toTurn_55 (by decide) o66 (by omega) (fun h55 => ?_) (fun h55 => ?_)
            · refine zV_iinc dX5_toTurn_60 rfl (Nat.le_of_ble_eq_true rfl) rfl ?_
              refine zV_goto (tgt := 8) dX5_toTurn_63 (by decide) ?_
              refine zV_drop 4 ?_
              refine zV_lveq (lv' := [zrv E 0, ziv x, ziv (ttS (turnV h t n jn) x (s + 1)), ziv ((s + 1 : Nat) : Int), .null]) (by rw [show ttS (turnV h t n jn) x (s + 1) = ttS (turnV h t n jn) x s from if_neg (fun z => h55 z.2)]; rfl) ?_
              exact ih (s + 1) _ (by omega) (by omega) (qr_trans hq q9)
            · refine zV_iload_n dX5_toTurn_58 rfl rfl ?_
              refine zV_istore_n dX5_toTurn_59 rfl (Nat.le_of_ble_eq_true rfl) rfl ?_
              refine zV_iinc dX5_toTurn_60 rfl (Nat.le_of_ble_eq_true rfl) rfl ?_
              refine zV_goto (tgt := 8) dX5_toTurn_63 (by decide) ?_
              refine zV_drop 4 ?_
              refine zV_lveq (lv' := [zrv E 0, ziv x, ziv (ttS (turnV h t n jn) x (s + 1)), ziv ((s + 1 : Nat) : Int), .null]) (by rw [show ttS (turnV h t n jn) x (s + 1) = (s : Int) from if_pos ⟨Decidable.byContradiction fun z => h46 (by rw [hfe, if_neg z]), h55⟩]; rfl) ?_
              exact ih (s + 1) _ (by omega) (by omega) (qr_trans hq q9)
        refine zV_iload_n dX5_toTurn_21 rfl rfl ?_
        refine zV_iconst dX5_toTurn_22 ?_
        refine zR_icmp_eq (tgt := 37) dX5_toTurn_23 (by decide) (by omega) (by omega) (fun h23 => ?_) (fun h23 => ?_)
        · refine zV_iconst dX5_toTurn_37 ?_
          refine zV_goto (tgt := 42) dX5_toTurn_38 (by decide) ?_
          exact J42 1 (if_pos (Or.inl h23)).symm
        · refine zV_iload_n dX5_toTurn_26 rfl rfl ?_
          refine zV_callS (As := [ziv (s : Int)]) lk5_302 (cJ_bitCount 11 0) ⟨by show _ + 1 ≤ 12; omega, by show _ ≤ 4; omega⟩ rfl (Nat.le_of_ble_eq_true rfl) dX5_toTurn_27 (fun _ _ z => z.elim) (fun r h' q => ?_)
          obtain ⟨rfl, hh⟩ := q
          rw [hh]
          refine zV_iload_n dX5_toTurn_30 rfl rfl ?_
          refine zV_callS (As := [ziv (ttS (turnV h t n jn) x s)]) lk5_302 (cJ_bitCount 11 0) ⟨by show _ + 1 ≤ 12; omega, by show _ ≤ 4; omega⟩ rfl (Nat.le_of_ble_eq_true rfl) dX5_toTurn_31 (fun _ _ z => z.elim) (fun r h' q => ?_)
          obtain ⟨rfl, hh⟩ := q
          rw [hh]
          have bb1 := bitC_lo (s : Int)
          have bb2 := bitC_lo (ttS (turnV h t n jn) x s)
          refine zR_icmp_ge (tgt := 41) dX5_toTurn_34 (by decide) (by omega) (by omega) (fun h34 => ?_) (fun h34 => ?_)
          · refine zV_iconst dX5_toTurn_41 ?_
            exact J42 0 (if_neg (by omega)).symm
          · refine zV_iconst dX5_toTurn_37 ?_
            refine zV_goto (tgt := 42) dX5_toTurn_38 (by decide) ?_
            exact J42 1 (if_pos (Or.inr (by omega))).symm
  exact L8 (2 ^ jn + 1) 0 h (by rw [Nat.zero_add]; exact Nat.le_refl _) (Nat.zero_le _) (qr_rfl hi)
