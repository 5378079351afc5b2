/-! WHAT TO LOOK AT; A GAME; YEARS -/
section ZX
variable {C : zC} {n pc : Nat} {lv st : List Value} {h : zH}
theorem zV_iaew {text : String} {is i : Nat} (hown : cown C = RX5) (hs : zstr[i]? = some (RX5, is, text)) (hdk : 6 ≤ cd C ∧ n + 1 ≤ ck C)
    (d0 : decode (ccc C) pc = .ok (.new 77, 3)) (d3 : decode (ccc C) (pc + 3) = .ok (.dup, 1)) (d4 : decode (ccc C) (pc + 4) = .ok (.ldc_w is, 3)) (d7 : decode (ccc C) (pc + 7) = .ok (.invokespecial 81, 3)) (d10 : decode (ccc C) (pc + 10) = .ok (.athrow, 1))
    (hX : cX C "java/lang/IllegalArgumentException" h) : zV C n pc lv [] h := fun ok H locs ls hP hS hl => by
  obtain ⟨hx, hb, hr, hml, hfc, hts, hlk, hst, hnx⟩ := ok
  rw [hown] at hfc
  have hst' := hst
  obtain ⟨-, -, -, h4, -, -, h7, h8, h9, h10, h11⟩ := hst'
  have hall : ∀ w ∈ vx_atS RX5 81 "java/lang/IllegalArgumentException" ["java/lang/RuntimeException", "java/lang/Exception"], w.before (aar C) (as' C) = true := by
    refine vx_hat (B := zBd.map Cond.declares ++ [.castable "java/lang/IllegalArgumentException" "java/lang/IllegalArgumentException"]) (fun w hw => hts w (zAt_iae w hw)) (fun w hw => by rw [show (vx_atS RX5 81 "java/lang/IllegalArgumentException" ["java/lang/RuntimeException", "java/lang/Exception"]).filter (fun w => !goodWord w) = zBd.map Cond.declares ++ [.castable "java/lang/IllegalArgumentException" "java/lang/IllegalArgumentException"] by decide +kernel] at hw; exact hw) (fun w hw => ?_)
    rcases List.mem_append.mp hw with hw | hw
    · obtain ⟨x, hx', rfl⟩ := List.mem_map.mp hw
      exact va_Nw.use rfl (h10 x hx')
    · rw [List.mem_singleton.mp hw]
      exact va_Nw.use rfl (h11 _ (by decide))
  refine vx_throwSW (A := zA (cE C)) (own := RX5) (cls := "java/lang/IllegalArgumentException") (text := text) (names := ["java/lang/RuntimeException", "java/lang/Exception"]) (ik := 77) (is := is) (ic := 81) (sa := eK (cE C) i) hx hb h9 hfc (by decide) (by decide) (hts _ (zTs_of (by decide +kernel) (by decide +kernel))) (hts _ (zTs_of (by decide +kernel) (by decide +kernel))) (h4 i _ hs) hall (by decide +kernel) h7 h8 hS (by rw [hml]; exact hl.1) d0 d3 d4 d7 d10
    (fun x hx' => (hnx x hx').elim) (by show 2 + 3 < cd C; have := hdk.1; omega) (by show 0 + (13 * (2 + 1) + 43) ≤ 64 * cd C; have := hdk.1; omega) (by show n + 1 ≤ ck C; exact hdk.2) (by show 6 * n + 6 ≤ 6 * ck C; have := hdk.2; omega) hlk (fun t hW hz hq => ?_) hS.2.2 hdk.2 (by have := hdk.2; omega)
  refine ⟨h, hX, ?_, Nat.le_trans hS.1 hz, fun q h1 h2 => ?_⟩
  · intro k q hk'
    have hq' := hP k q hk'
    exact va_at.kept hq' (hq q.1 (va_at.lt hq'))
  · rw [hq q (Nat.lt_of_lt_of_le h1 hS.1)]
    exact hS.2.1 q h1 h2
end ZX
theorem kc5_349 : Cond.constant RX5 349 (Int32.ofInt 1103515245) ∈ zTs := zTs_of (by decide +kernel) (by decide +kernel)
theorem kc6_482 : Cond.constant RX6 482 (Int32.ofInt 1103515245) ∈ zTs := zTs_of (by decide +kernel) (by decide +kernel)
/-- bits of the verdicts of the k-th case, of those that fit -/
def lkS (b : Nat → Bool) (V : Nat → Int) : Nat → Int
  | 0 => 0
  | p + 1 => if b p = true then zor (lkS b V p) (zshl 1 (V p)) else lkS b V p
theorem lkS_s (b : Nat → Bool) (V : Nat → Int) (p : Nat) : lkS b V (p + 1) = if b p = true then zor (lkS b V p) (zshl 1 (V p)) else lkS b V p := rfl
/-- the greatest of f 0 .. f m, the first of like ones -/
def bstS (f : Nat → Int) : Nat → Nat
  | 0 => 0
  | m + 1 => if f (bstS f m) < f (m + 1) then m + 1 else bstS f m
theorem bstS_s (f : Nat → Int) (m : Nat) : bstS f (m + 1) = if f (bstS f m) < f (m + 1) then m + 1 else bstS f m := rfl
theorem bstS_le (f : Nat → Int) (m : Nat) : bstS f m ≤ m := by
  induction m with
  | zero => exact Nat.le_refl _
  | succ m ih => rw [bstS_s]; split <;> omega
def fsV (h : zH) (t n jn : Nat) (p k : Nat) : Int := vH h n jn (handF h t (p / 13) ((p % 13 : Nat) : Int)) (k + 1)
def lkU (h : zH) (t n jn rn k : Nat) : Int := bitC (lkS (hdB h t n jn rn) (fun p => fsV h t n jn p k) (13 * jn))
def lkV (h : zH) (t n jn rn : Nat) (w : Int) : Int := if w = 1 then lkU h t n jn rn (bstS (lkU h t n jn rn) 19) else if lkU h t n jn rn (bstS (lkU h t n jn rn) 19) = 0 then -1 else ((bstS (lkU h t n jn rn) 19 : Nat) : Int) + 1

set_option maxRecDepth 100000 in
theorem c5_noteIfAsRead {E : zE} {h : zH} {t n jn old ac rn x : Nat} {y : Int} (d k : Nat) (hd : 5 ≤ d) (hi : tInv h t n jn) (hdk : dkOK h old ac rn) (hrd : rdOK h rn) (hx : x < jn) (hy : 0 ≤ y ∧ y ≤ 12) : zCal E mX5_noteIfAsRead d k [zrv E 0, ziv (x : Int), ziv y] h (fun r h' => r = none ∧ qr h h' ∧ ∀ k, k < 20 → h' 62 k = if isR h n jn rn (handF h t x y) = true then zor (h 62 k) (zshl 1 ((vH h n jn (handF h t x y)) (k + 1))) else h 62 k) (fun _ _ => False) := by
  refine zCal_of (by decide) (Nat.le_of_ble_eq_true rfl) (fun a => ?_)
  show zV _ 0 0 [zrv E 0, ziv (x : Int), ziv y, .null] [] _
  have ht := hi.2.1.1
  have hjn8 := hi.2.1.2.2.1
  have hnum := hi.2.2.2.2
  refine zV_aload_nr dX5_noteIfAsRead_0 rfl rfl ?_
  refine zV_callV (As := []) lk5_248 (rfl) rfl rfl (c5_startTrial (d - 1) 0 (by omega)) ⟨by show _ + 1 ≤ d; omega, by show _ ≤ k; omega⟩ rfl (Nat.le_of_ble_eq_true rfl) dX5_noteIfAsRead_1 (fun _ _ z => z.elim) (fun r h5 q => ?_)
  obtain ⟨rfl, q⟩ := q
  have tr := tri_0 hi q
  refine zV_aload_nr dX5_noteIfAsRead_4 rfl rfl ?_
  refine gf5_51 rfl (rfl) dX5_noteIfAsRead_5 ?_
  refine zV_teq (w := zrv E 53) rfl ?_
  refine gf5_173 rfl (rfl) dX5_noteIfAsRead_8 ?_
  refine zV_teq (w := zrv E 56) rfl ?_
  refine zV_iload_n dX5_noteIfAsRead_11 rfl rfl ?_
  refine zV_iload_n dX5_noteIfAsRead_12 rfl rfl ?_
  refine zV_iastoreN (i := x) (N := 8) (rfl) (by omega) (by decide) dX5_noteIfAsRead_13 ?_
  rw [zup_st]
  have m9 := mod56 (f := setF (h5 56) x y) hi tr (fun j hj => by have h9 : 0 ≤ h5 56 j ∧ h5 56 j ≤ 12 := tr.2.2.2.2.2.1.2.2.2.1 j hj; unfold setF; split <;> omega)
  have tr9 : tri h t n jn (handF h t x y) (xOf h 32) 0 (zst h5 56 (setF (h5 56) x y)) := ⟨m9.2.2.1, by rw [zst_ne (by omega)]; exact tr.2.1, fun z => absurd z (by omega), m9.2.2.2.2.2.2 _ (agn_set tr.2.2.2.1.2.1), by rw [m9.2.2.2.2.2.1]; simp, m9.2.2.2.2.1, m9.2.2.2.1⟩
  refine zV_iconst dX5_noteIfAsRead_14 ?_
  refine zV_istore_n dX5_noteIfAsRead_15 rfl (Nat.le_of_ble_eq_true rfl) rfl ?_
  have L16 : ∀ (m : Nat) (s : Nat) (h1 : zH), (21 ≤ s + m) → (s ≤ 20) → (tri h t n jn (handF h t x y) (xOf h 32) s h1) → (∀ k, k < s → h1 61 k = (vH h n jn (handF h t x y)) (k + 1)) → (h1 62 = h 62) → (asR (vH h n jn (handF h t x y)) (h 39) (h 40) rn s = true) → zV (E, mX5_noteIfAsRead, d, k, (fun r h' => r = none ∧ qr h h' ∧ ∀ k, k < 20 → h' 62 k = if isR h n jn rn (handF h t x y) = true then zor (h 62 k) (zshl 1 ((vH h n jn (handF h t x y)) (k + 1))) else h 62 k), (fun _ _ => False), a) 0 16 [zrv E 0, ziv (x : Int), ziv y, ziv (s : Int)] [] h1 := by
    intro m
    induction m with
    | zero => intro s h1 hm_ hsn tr1 hf h62 ha; exfalso; omega
    | succ m ih =>
      intro s h1 hm_ hsn tr1 hf h62 ha
      have k0 : h1 0 3 = (t : Int) := by rw [tr1.1 0 (by omega)]; exact hi.1
      have hct2 := tri_ct hi.2.1 tr1
      refine zV_iload_n dX5_noteIfAsRead_16 rfl rfl ?_
      refine zV_aload_nr dX5_noteIfAsRead_17 rfl rfl ?_
      refine gf5_61 rfl (rfl) dX5_noteIfAsRead_18 ?_
      refine zV_teq (w := zrv E 61) rfl ?_
      refine zV_alen (t := 0) (N := 20) (rfl) dX5_noteIfAsRead_21 ?_
      refine zR_icmp_ge (tgt := 80) dX5_noteIfAsRead_22 (by decide) (by omega) (by omega) (fun h22 => ?_) (fun h22 => ?_)
      · have ha20 : isR h n jn rn (handF h t x y) = true := by unfold isR; rw [show 20 = s by omega]; exact ha
        refine zV_iconst dX5_noteIfAsRead_80 ?_
        refine zV_istore_n dX5_noteIfAsRead_81 rfl (Nat.le_of_ble_eq_true rfl) rfl ?_
        have L82 : ∀ (m2 : Nat) (s : Nat) (h2 : zH), (21 ≤ s + m2) → (s ≤ 20) → (qr h h2) → (∀ k, k < 20 → h2 61 k = (vH h n jn (handF h t x y)) (k + 1)) → (∀ k, k < s → h2 62 k = zor (h 62 k) (zshl 1 ((vH h n jn (handF h t x y)) (k + 1)))) → (∀ k, s ≤ k → k < 20 → h2 62 k = h 62 k) → zV (E, mX5_noteIfAsRead, d, k, (fun r h' => r = none ∧ qr h h' ∧ ∀ k, k < 20 → h' 62 k = if isR h n jn rn (handF h t x y) = true then zor (h 62 k) (zshl 1 ((vH h n jn (handF h t x y)) (k + 1))) else h 62 k), (fun _ _ => False), a) 0 82 [zrv E 0, ziv (x : Int), ziv y, ziv (s : Int)] [] h2 := by
          intro m2
          induction m2 with
          | zero => intro s h2 hm_ hsn2 hq2 hf2 hlo hhi; exfalso; omega
          | succ m2 ih2 =>
            intro s h2 hm_ hsn2 hq2 hf2 hlo hhi
            refine zV_iload_n dX5_noteIfAsRead_82 rfl rfl ?_
            refine zV_aload_nr dX5_noteIfAsRead_83 rfl rfl ?_
            refine gf5_61 rfl (rfl) dX5_noteIfAsRead_84 ?_
            refine zV_teq (w := zrv E 61) rfl ?_
            refine zV_alen (t := 0) (N := 20) (rfl) dX5_noteIfAsRead_87 ?_
            refine zR_icmp_ge (tgt := 114) dX5_noteIfAsRead_88 (by decide) (by omega) (by omega) (fun h88 => ?_) (fun h88 => ?_)
            · exact zV_vreturn dX5_noteIfAsRead_114 rfl (Nat.zero_le _) ⟨rfl, hq2, fun k hk => by rw [if_pos ha20, hlo k (by omega)]⟩
            · refine zV_aload_nr dX5_noteIfAsRead_91 rfl rfl ?_
              refine gf5_64 rfl (rfl) dX5_noteIfAsRead_92 ?_
              refine zV_teq (w := zrv E 62) rfl ?_
              refine zV_iload_n dX5_noteIfAsRead_95 rfl rfl ?_
              refine zV_dup2 dX5_noteIfAsRead_96 rfl rfl ?_
              refine zV_ialoadN (i := s) (N := 20) (rfl) (by omega) (by decide) dX5_noteIfAsRead_97 ?_
              refine zV_iconst dX5_noteIfAsRead_98 ?_
              refine zV_aload_nr dX5_noteIfAsRead_99 rfl rfl ?_
              refine gf5_61 rfl (rfl) dX5_noteIfAsRead_100 ?_
              refine zV_teq (w := zrv E 61) rfl ?_
              refine zV_iload_n dX5_noteIfAsRead_103 rfl rfl ?_
              refine zV_ialoadN (i := s) (N := 20) (rfl) (by omega) (by decide) dX5_noteIfAsRead_104 ?_
              refine zV_ishl dX5_noteIfAsRead_105 ?_
              refine zV_ior dX5_noteIfAsRead_106 ?_
              refine zV_iastoreN (i := s) (N := 20) (rfl) (by omega) (by decide) dX5_noteIfAsRead_107 ?_
              refine zV_iinc dX5_noteIfAsRead_108 rfl (Nat.le_of_ble_eq_true rfl) rfl ?_
              refine zV_goto (tgt := 82) dX5_noteIfAsRead_111 (by decide) ?_
              exact ih2 (s + 1) _ (by omega) (by omega) ⟨fun c2 hh => by rw [zup_fn (by omega)]; exact hq2.1 c2 hh, fun j j1 j2 => by rw [zup_fn (by decide)]; exact hq2.2 j j1 j2⟩ (fun k hk => by rw [zup_fn (by decide)]; exact hf2 k hk)
                (fun k hk => by
                  rw [zup_at]
                  by_cases e : k = s
                  · rw [if_pos e, e, hhi s (by omega) (by omega), hf2 s (by omega)]
                  · rw [if_neg e]; exact hlo k (by omega))
                (fun k k1 k2 => by rw [zup_at, if_neg (by omega)]; exact hhi k (by omega) k2)
        exact L82 21 0 _ (by omega) (by omega) (qr_tri tr1) (fun k hk => hf k (by omega)) (fun k hk => absurd hk (by omega)) (fun k _ _ => by rw [h62])
      · refine zV_aload_nr dX5_noteIfAsRead_25 rfl rfl ?_
        refine gf5_51 rfl (rfl) dX5_noteIfAsRead_26 ?_
        refine zV_teq (w := zrv E 53) rfl ?_
        refine zV_aload_nr dX5_noteIfAsRead_29 rfl rfl ?_
        refine gf5_20 (t := t) (k0) rfl (rfl) dX5_noteIfAsRead_30 ?_
        refine zV_aload_nr dX5_noteIfAsRead_33 rfl rfl ?_
        refine gf5_34 rfl (rfl) dX5_noteIfAsRead_34 ?_
        refine zV_teq (w := zrv E 28) rfl ?_
        refine zV_callV (As := [zrv E t, zrv E 28]) lk5_234 (rfl) rfl rfl (c2_hear (d - 1) 0 (by omega) hct2 tr1.2.2.2.2.2.1 tr1.2.2.2.2.2.2) ⟨by show _ + 1 ≤ d; omega, by show _ ≤ k; omega⟩ rfl (Nat.le_of_ble_eq_true rfl) dX5_noteIfAsRead_37 (fun _ _ z => z.elim) (fun r h' q => ?_)
        obtain ⟨rfl, q⟩ := q
        have tr3 := tri_s hi.2.1 (by omega) tr1 q
        have q61 : h' 61 = h1 61 := q.1 61 (by decide) (by decide) (by decide) (by decide) (by decide) (by decide)
        have q62 : h' 62 = h1 62 := q.1 62 (by decide) (by decide) (by decide) (by decide) (by decide) (by decide)
        refine zV_aload_nr dX5_noteIfAsRead_40 rfl rfl ?_
        refine gf5_61 rfl (rfl) dX5_noteIfAsRead_41 ?_
        refine zV_teq (w := zrv E 61) rfl ?_
        refine zV_iload_n dX5_noteIfAsRead_44 rfl rfl ?_
        refine zV_aload_nr dX5_noteIfAsRead_45 rfl rfl ?_
        refine gf5_51 rfl (rfl) dX5_noteIfAsRead_46 ?_
        refine zV_teq (w := zrv E 53) rfl ?_
        refine gf5_121 rfl rfl dX5_noteIfAsRead_49 ?_
        rw [show h' 53 7 = (vH h n jn (handF h t x y)) (s + 1) from (tr3.2.2.1 (by omega)).1]
        refine zV_iastoreN (i := s) (N := 20) (rfl) (by omega) (by decide) dX5_noteIfAsRead_52 ?_
        have tr4 := tri_put (h2 := zup h' 61 s ((vH h n jn (handF h t x y)) (s + 1))) ht tr3 (fun c2 e => zup_fn (by omega)) (fun c2 e => zup_fn (by omega))
        refine zV_aload_nr dX5_noteIfAsRead_53 rfl rfl ?_
        refine gf5_41 rfl (rfl) dX5_noteIfAsRead_54 ?_
        refine zV_teq (w := zrv E 31) rfl ?_
        refine zV_iload_n dX5_noteIfAsRead_57 rfl rfl ?_
        refine zV_iconst dX5_noteIfAsRead_58 ?_
        refine zV_iadd dX5_noteIfAsRead_59 ?_
        refine zV_aload_nr dX5_noteIfAsRead_60 rfl rfl ?_
        refine gf5_51 rfl (rfl) dX5_noteIfAsRead_61 ?_
        refine zV_teq (w := zrv E 53) rfl ?_
        refine gf5_121 rfl rfl dX5_noteIfAsRead_64 ?_
        rw [show (zup h' 61 s ((vH h n jn (handF h t x y)) (s + 1))) 53 7 = (vH h n jn (handF h t x y)) (s + 1) from (tr4.2.2.1 (by omega)).1]
        refine zV_callV (As := [ziv ((s : Int) + 1), ziv ((vH h n jn (handF h t x y)) (s + 1))]) lk5_325 (rfl) rfl rfl (c3_couldBe (rn := rn) (d - 1) 0 (by rw [tr4.1 31 (by omega)]; exact hdk.2.2.2.2.1) hdk.2.2.2.2.2 (by omega) (by have := vH_lo (g := handF h t x y) (jn := jn) hi.2.2.1.2.1 hi.2.2.1.2.2.2.2.2.1 (k := s + 1) (by omega); omega) (by rw [tr4.1 39 (by omega)]; exact hrd.1) (by rw [tr4.1 40 (by omega)]; exact hrd.2)) ⟨by show _ + 1 ≤ d; omega, by show _ ≤ k; omega⟩ rfl (Nat.le_of_ble_eq_true rfl) dX5_noteIfAsRead_67 (fun _ _ z => z.elim) (fun r h3 q => ?_)
        obtain ⟨rfl, hh⟩ := q
        rw [hh, tr4.1 39 (by omega), tr4.1 40 (by omega)]
        refine zR_if_ne (tgt := 74) dX5_noteIfAsRead_70 (by decide) (by split <;> omega) (fun h70 => ?_) (fun h70 => ?_)
        · have hb2 : couldB (h 39) (h 40) ((s + 1 : Nat) : Int) ((vH h n jn (handF h t x y)) (s + 1)) rn = true := Decidable.byContradiction fun z => h70 (if_neg z)
          refine zV_iinc dX5_noteIfAsRead_74 rfl (Nat.le_of_ble_eq_true rfl) rfl ?_
          refine zV_goto (tgt := 16) dX5_noteIfAsRead_77 (by decide) ?_
          exact ih (s + 1) _ (by omega) (by omega) tr4 (fun k hk => by
            rw [zup_at]
            by_cases e : k = s
            · rw [if_pos e, e]
            · rw [if_neg e, q61]; exact hf k (by omega)) (by rw [zup_fn (by decide), q62]; exact h62) (by rw [asR_s, ha, hb2]; rfl)
        · have hb2 : couldB (h 39) (h 40) ((s + 1 : Nat) : Int) ((vH h n jn (handF h t x y)) (s + 1)) rn = false := Bool.eq_false_iff.mpr fun z => by
            have h46 : (if couldB (h 39) (h 40) ((s + 1 : Nat) : Int) ((vH h n jn (handF h t x y)) (s + 1)) rn = true then (1 : Int) else 0) = 0 := h70
            rw [if_pos z] at h46
            exact absurd h46 (by decide)
          exact zV_vreturn dX5_noteIfAsRead_73 rfl (Nat.zero_le _) ⟨rfl, qr_tri tr4, fun k hk => by
            have h1 := asR_f (V := vH h n jn (handF h t x y)) (rc := h 39) (rv := h 40) (rn := rn) (m := s + 1) (by rw [asR_s, hb2, Bool.and_false]) (20 - (s + 1))
            rw [show s + 1 + (20 - (s + 1)) = 20 by omega] at h1
            rw [if_neg (by unfold isR; rw [h1]; decide), zup_fn (by decide), q62, h62]⟩
  exact L16 21 0 _ (by omega) (by omega) tr9 (fun k hk => absurd hk (by omega)) (by rw [zst_ne (by decide), q.1 62 (by decide) (by decide) (by decide) (by decide) (by decide)]) rfl
set_option maxRecDepth 100000 in
theorem c5_look {E : zE} {h : zH} {t n jn : Nat} {w : Int} (hw : -2147483648 ≤ w ∧ w ≤ 2147483647) {old ac rn : Nat} (hdk : dkOK h old ac rn) (hrd : rdOK h rn) (hi : tInv h t n jn) : zCal E mX5_look 12 4 [zrv E 0, ziv w] h (fun r h' => (0 ≤ w ∧ w ≤ 1) ∧ r = some (ziv (lkV h t n jn rn w)) ∧ qry h h') (fun e h' => h' = h ∧ e = NSE ∧ ¬ (0 ≤ w ∧ w ≤ 1)) := by
  refine zCal_of (by decide) (Nat.le_of_ble_eq_true rfl) (fun a => ?_)
  show zV _ 0 0 [zrv E 0, ziv w, .null, .null] [] _
  have ht := hi.2.1.1
  have k0 := hi.1
  have hnum := hi.2.2.2.2
  have hn8 := hi.2.1.2.1
  have hjn8 := hi.2.1.2.2.1
  refine zV_iload_n dX5_look_0 rfl rfl ?_
  refine zV_iconst dX5_look_1 ?_
  refine zV_callS (As := [ziv w, ziv 1]) lk5_251 (c5_needWhat (by omega) (by decide)) ⟨Nat.le_of_ble_eq_true rfl, Nat.le_of_ble_eq_true rfl⟩ rfl (Nat.le_of_ble_eq_true rfl) dX5_look_2 (fun e h2 z => ⟨z.2.1, z.1, z.2.2⟩) (fun r h' q => ?_)
  obtain ⟨rfl, hh, cw⟩ := q
  rw [hh]
  refine zV_iconst dX5_look_5 ?_
  refine zV_istore_n dX5_look_6 rfl (Nat.le_of_ble_eq_true rfl) rfl ?_
  have L7 : ∀ (m : Nat) (s : Nat) (h1 : zH), (21 ≤ s + m) → (s ≤ 20) → (qr h h1) → (∀ k, k < s → h1 62 k = 0) → zV (E, mX5_look, 12, 4, (fun r h' => (0 ≤ w ∧ w ≤ 1) ∧ r = some (ziv (lkV h t n jn rn w)) ∧ qry h h'), (fun e h' => h' = h ∧ e = NSE ∧ ¬ (0 ≤ w ∧ w ≤ 1)), a) 1 7 [zrv E 0, ziv w, ziv (s : Int), .null] [] h1 := by
    intro m
    induction m with
    | zero => intro s h1 hm_ hsn hq hz; exfalso; omega
    | succ m ih =>
      intro s h1 hm_ hsn hq hz
      refine zV_iload_n dX5_look_7 rfl rfl ?_
      refine zV_aload_nr dX5_look_8 rfl rfl ?_
      refine gf5_64 rfl (rfl) dX5_look_9 ?_
      refine zV_teq (w := zrv E 62) rfl ?_
      refine zV_alen (t := 0) (N := 20) (rfl) dX5_look_12 ?_
      refine zR_icmp_ge (tgt := 29) dX5_look_13 (by decide) (by omega) (by omega) (fun h13 => ?_) (fun h13 => ?_)
      · refine zV_iconst dX5_look_29 ?_
        refine zV_istore_n dX5_look_30 rfl (Nat.le_of_ble_eq_true rfl) rfl ?_
        have L31 : ∀ (m3 : Nat) (s : Nat) (h1 : zH), (jn + 1 ≤ s + m3) → (s ≤ jn) → (qr h h1) → (∀ k, k < 20 → h1 62 k = lkS (hdB h t n jn rn) (fun p => fsV h t n jn p k) (13 * s)) → zV (E, mX5_look, 12, 4, (fun r h' => (0 ≤ w ∧ w ≤ 1) ∧ r = some (ziv (lkV h t n jn rn w)) ∧ qry h h'), (fun e h' => h' = h ∧ e = NSE ∧ ¬ (0 ≤ w ∧ w ≤ 1)), a) 1 31 [zrv E 0, ziv w, ziv (s : Int), .null] [] h1 := by
          intro m3
          induction m3 with
          | zero => intro s h1 hm_ hsn hq hu; exfalso; omega
          | succ m3 ih3 =>
            intro s h1 hm_ hsn hq hu
            obtain ⟨hi1, g1, g2, g3⟩ := qr_inv hi hq
            have k0 : h1 0 3 = (t : Int) := hi1.1
            refine zV_iload_n dX5_look_31 rfl rfl ?_
            refine zV_aload_nr dX5_look_32 rfl rfl ?_
            refine gf5_20 (t := t) (k0) rfl (rfl) dX5_look_33 ?_
            refine gf5_109 rfl (court_0 ht) dX5_look_36 ?_
            rw [hi1.2.1.2.2.2.2.1]
            refine zR_icmp_ge (tgt := 84) dX5_look_39 (by decide) (by omega) (by omega) (fun h39 => ?_) (fun h39 => ?_)
            · obtain ⟨h2, hh2⟩ : ∃ z, z = h1 := ⟨_, rfl⟩
              rw [← hh2]
              rw [← hh2] at hq hu
              have ub : ∀ k, k < 20 → bitC (h2 62 k) = lkU h t n jn rn k := fun k hk => by rw [hu k hk, show 13 * s = 13 * jn by omega]; rfl
              refine zV_iconst dX5_look_84 ?_
              refine zV_istore_n dX5_look_85 rfl (Nat.le_of_ble_eq_true rfl) rfl ?_
              refine zV_iconst dX5_look_86 ?_
              refine zV_istore_n dX5_look_87 rfl (Nat.le_of_ble_eq_true rfl) rfl ?_
              have L88 : ∀ (m4 : Nat) (s : Nat), (20 ≤ s + m4) → (s ≤ 19) → zV (E, mX5_look, 12, 4, (fun r h' => (0 ≤ w ∧ w ≤ 1) ∧ r = some (ziv (lkV h t n jn rn w)) ∧ qry h h'), (fun e h' => h' = h ∧ e = NSE ∧ ¬ (0 ≤ w ∧ w ≤ 1)), a) 1 88 [zrv E 0, ziv w, ziv ((bstS (lkU h t n jn rn) s : Nat) : Int), ziv ((s + 1 : Nat) : Int)] [] h2 := by
                intro m4
                induction m4 with
                | zero => intro s hm_ hs19; exfalso; omega
                | succ m4 ih4 =>
                  intro s hm_ hs19
                  have bl := bstS_le (lkU h t n jn rn) s
                  refine zV_iload_n dX5_look_88 rfl rfl ?_
                  refine zV_aload_nr dX5_look_89 rfl rfl ?_
                  refine gf5_64 rfl (rfl) dX5_look_90 ?_
                  refine zV_teq (w := zrv E 62) rfl ?_
                  refine zV_alen (t := 0) (N := 20) (rfl) dX5_look_93 ?_
                  refine zR_icmp_ge (tgt := 126) dX5_look_94 (by decide) (by omega) (by omega) (fun h94 => ?_) (fun h94 => ?_)
                  · refine zV_aload_nr dX5_look_126 rfl rfl ?_
                    refine gf5_64 rfl (rfl) dX5_look_127 ?_
                    refine zV_teq (w := zrv E 62) rfl ?_
                    refine zV_iload_n dX5_look_130 rfl rfl ?_
                    refine zV_ialoadN (i := (bstS (lkU h t n jn rn) s)) (N := 20) (rfl) (by omega) (by decide) dX5_look_131 ?_
                    refine zV_callS (As := [ziv (h2 62 (bstS (lkU h t n jn rn) s))]) lk5_302 (cJ_bitCount 11 0) ⟨by show _ + 1 ≤ 12; omega, by show _ ≤ 4; omega⟩ rfl (Nat.le_of_ble_eq_true rfl) dX5_look_132 (fun _ _ z => z.elim) (fun r h' q => ?_)
                    obtain ⟨rfl, hh⟩ := q
                    rw [hh, ub _ (by omega)]
                    have e19 : s = 19 := by omega
                    subst e19
                    refine zV_istore_n dX5_look_135 rfl (Nat.le_of_ble_eq_true rfl) rfl ?_
                    refine zV_iload_n dX5_look_136 rfl rfl ?_
                    refine zV_iconst dX5_look_137 ?_
                    refine zR_icmp_ne (tgt := 143) dX5_look_138 (by decide) (by omega) (by omega) (fun h138 => ?_) (fun h138 => ?_)
                    · refine zV_iload_n dX5_look_143 rfl rfl ?_
                      have bb2 : -2147483648 ≤ lkU h t n jn rn (bstS (lkU h t n jn rn) 19) ∧ lkU h t n jn rn (bstS (lkU h t n jn rn) 19) ≤ 2147483647 := bitC_lo _
                      refine zR_if_ne (tgt := 151) dX5_look_144 (by decide) (by omega) (fun h144 => ?_) (fun h144 => ?_)
                      · refine zV_iload_n dX5_look_151 rfl rfl ?_
                        refine zV_iconst dX5_look_152 ?_
                        refine zV_iadd dX5_look_153 ?_
                        exact zV_ireturn dX5_look_154 rfl (Nat.le_of_ble_eq_true rfl) ⟨cw, by unfold lkV; rw [if_neg h138, if_neg h144], qr_qry hq⟩
                      · refine zV_iconst dX5_look_147 ?_
                        refine zV_goto (tgt := 154) dX5_look_148 (by decide) ?_
                        exact zV_ireturn dX5_look_154 rfl (Nat.le_of_ble_eq_true rfl) ⟨cw, by unfold lkV; rw [if_neg h138, if_pos h144], qr_qry hq⟩
                    · refine zV_iload_n dX5_look_141 rfl rfl ?_
                      exact zV_ireturn dX5_look_142 rfl (Nat.le_of_ble_eq_true rfl) ⟨cw, by unfold lkV; rw [if_pos h138], qr_qry hq⟩
                  · refine zV_aload_nr dX5_look_97 rfl rfl ?_
                    refine gf5_64 rfl (rfl) dX5_look_98 ?_
                    refine zV_teq (w := zrv E 62) rfl ?_
                    refine zV_iload_n dX5_look_101 rfl rfl ?_
                    refine zV_ialoadN (i := (s + 1)) (N := 20) (rfl) (by omega) (by decide) dX5_look_102 ?_
                    refine zV_callS (As := [ziv (h2 62 (s + 1))]) lk5_302 (cJ_bitCount 11 0) ⟨by show _ + 1 ≤ 12; omega, by show _ ≤ 4; omega⟩ rfl (Nat.le_of_ble_eq_true rfl) dX5_look_103 (fun _ _ z => z.elim) (fun r h' q => ?_)
                    obtain ⟨rfl, hh⟩ := q
                    rw [hh]
                    refine zV_aload_nr dX5_look_106 rfl rfl ?_
                    refine gf5_64 rfl (rfl) dX5_look_107 ?_
                    refine zV_teq (w := zrv E 62) rfl ?_
                    refine zV_iload_n dX5_look_110 rfl rfl ?_
                    refine zV_ialoadN (i := (bstS (lkU h t n jn rn) s)) (N := 20) (rfl) (by omega) (by decide) dX5_look_111 ?_
                    refine zV_callS (As := [ziv (h2 62 (bstS (lkU h t n jn rn) s))]) lk5_302 (cJ_bitCount 11 0) ⟨by show _ + 1 ≤ 12; omega, by show _ ≤ 4; omega⟩ rfl (Nat.le_of_ble_eq_true rfl) dX5_look_112 (fun _ _ z => z.elim) (fun r h' q => ?_)
                    obtain ⟨rfl, hh⟩ := q
                    rw [hh, ub _ (by omega), ub _ (by omega)]
                    have bb1 : -2147483648 ≤ lkU h t n jn rn (s + 1) ∧ lkU h t n jn rn (s + 1) ≤ 2147483647 := bitC_lo _
                    have bb2 : -2147483648 ≤ lkU h t n jn rn (bstS (lkU h t n jn rn) s) ∧ lkU h t n jn rn (bstS (lkU h t n jn rn) s) ≤ 2147483647 := bitC_lo _
                    refine zR_icmp_le (tgt := 120) dX5_look_115 (by decide) (by omega) (by omega) (fun h115 => ?_) (fun h115 => ?_)
                    · refine zV_iinc dX5_look_120 rfl (Nat.le_of_ble_eq_true rfl) rfl ?_
                      refine zV_goto (tgt := 88) dX5_look_123 (by decide) ?_
                      refine zV_lveq (lv' := [zrv E 0, ziv w, ziv ((bstS (lkU h t n jn rn) (s + 1) : Nat) : Int), ziv ((s + 1 + 1 : Nat) : Int)]) (by rw [bstS_s, if_neg (by omega)]; rfl) ?_
                      exact ih4 (s + 1) (by omega) (by omega)
                    · refine zV_iload_n dX5_look_118 rfl rfl ?_
                      refine zV_istore_n dX5_look_119 rfl (Nat.le_of_ble_eq_true rfl) rfl ?_
                      refine zV_iinc dX5_look_120 rfl (Nat.le_of_ble_eq_true rfl) rfl ?_
                      refine zV_goto (tgt := 88) dX5_look_123 (by decide) ?_
                      refine zV_lveq (lv' := [zrv E 0, ziv w, ziv ((bstS (lkU h t n jn rn) (s + 1) : Nat) : Int), ziv ((s + 1 + 1 : Nat) : Int)]) (by rw [bstS_s, if_pos (by omega)]; rfl) ?_
                      exact ih4 (s + 1) (by omega) (by omega)
              exact L88 20 0 (by omega) (by omega)
            · refine zV_iconst dX5_look_42 ?_
              refine zV_istore_n dX5_look_43 rfl (Nat.le_of_ble_eq_true rfl) rfl ?_
              have L44 : ∀ (m2 : Nat) (i : Nat) (h2 : zH), (14 ≤ i + m2) → (i ≤ 13) → (qr h h2) → (∀ k, k < 20 → h2 62 k = lkS (hdB h t n jn rn) (fun p => fsV h t n jn p k) (13 * s + i)) → zV (E, mX5_look, 12, 4, (fun r h' => (0 ≤ w ∧ w ≤ 1) ∧ r = some (ziv (lkV h t n jn rn w)) ∧ qry h h'), (fun e h' => h' = h ∧ e = NSE ∧ ¬ (0 ≤ w ∧ w ≤ 1)), a) 1 44 [zrv E 0, ziv w, ziv (s : Int), ziv (i : Int)] [] h2 := by
                intro m2
                induction m2 with
                | zero => intro i h2 hm_ hin hq2 hu2; exfalso; omega
                | succ m2 ih2 =>
                  intro i h2 hm_ hin hq2 hu2
                  obtain ⟨hi2, g4, g5, g6⟩ := qr_inv hi hq2
                  have k0 : h2 0 3 = (t : Int) := hi2.1
                  refine zV_iload_n dX5_look_44 rfl rfl ?_
                  refine zV_bipush dX5_look_45 (by decide) ?_
                  refine zR_icmp_gt (tgt := 78) dX5_look_47 (by decide) (by omega) (by omega) (fun h47 => ?_) (fun h47 => ?_)
                  · refine zV_iinc dX5_look_78 rfl (Nat.le_of_ble_eq_true rfl) rfl ?_
                    refine zV_goto (tgt := 31) dX5_look_81 (by decide) ?_
                    refine zV_drop 3 ?_
                    exact ih3 (s + 1) _ (by omega) (by omega) hq2 (fun k hk => by rw [hu2 k hk, show 13 * s + i = 13 * (s + 1) by omega])
                  · refine zV_aload_nr dX5_look_50 rfl rfl ?_
                    refine gf5_41 rfl (rfl) dX5_look_51 ?_
                    refine zV_teq (w := zrv E 31) rfl ?_
                    refine gf5_112 rfl (rfl) dX5_look_54 ?_
                    refine zV_teq (w := zrv E 32) rfl ?_
                    refine gf5_173 rfl (rfl) dX5_look_57 ?_
                    refine zV_teq (w := zrv E 35) rfl ?_
                    refine zV_iload_n dX5_look_60 rfl rfl ?_
                    refine zV_ialoadN (i := s) (N := 8) (rfl) (by omega) (by decide) dX5_look_61 ?_
                    refine zV_iload_n dX5_look_62 rfl rfl ?_
                    rw [hq2.1 35 (by omega)]
                    have b35 : 0 ≤ h 35 s ∧ h 35 s ≤ 12 := hi.2.2.1.2.2.2.1 s (by omega)
                    have eb : hdB h t n jn rn (13 * s + i) = (decide (h 35 s ≠ (i : Int)) && isR h n jn rn (handF h t s (i : Int))) := by unfold hdB; rw [show (13 * s + i) / 13 = s by omega, show (13 * s + i) % 13 = i by omega]; rfl
                    refine zR_icmp_eq (tgt := 72) dX5_look_63 (by decide) (by omega) (by omega) (fun h63 => ?_) (fun h63 => ?_)
                    · refine zV_iinc dX5_look_72 rfl (Nat.le_of_ble_eq_true rfl) rfl ?_
                      refine zV_goto (tgt := 44) dX5_look_75 (by decide) ?_
                      exact ih2 (i + 1) _ (by omega) (by omega) hq2 (fun k hk => by rw [hu2 k hk]; show _ = lkS _ _ (13 * s + i + 1); rw [lkS_s, if_neg (by rw [eb, decide_eq_false (fun z => z h63), Bool.false_and]; decide)])
                    · refine zV_aload_nr dX5_look_66 rfl rfl ?_
                      refine zV_iload_n dX5_look_67 rfl rfl ?_
                      refine zV_iload_n dX5_look_68 rfl rfl ?_
                      refine zV_callV (As := [ziv (s : Int), ziv (i : Int)]) lk5_328 (rfl) rfl rfl (c5_noteIfAsRead (x := s) (y := (i : Int)) 11 0 (by decide) hi2 (rd_q hq2 hdk hrd).1 (rd_q hq2 hdk hrd).2 (by omega) (by omega)) ⟨by show _ + 1 ≤ 12; omega, by show _ ≤ 4; omega⟩ rfl (Nat.le_of_ble_eq_true rfl) dX5_look_69 (fun _ _ z => z.elim) (fun r h' q => ?_)
                      obtain ⟨rfl, q, q62⟩ := q
                      have hq3 := qr_trans hq2 q
                      rw [isR_q hi hq2, handF_q hi hq2, vH_q hi hq2] at q62
                      refine zV_iinc dX5_look_72 rfl (Nat.le_of_ble_eq_true rfl) rfl ?_
                      refine zV_goto (tgt := 44) dX5_look_75 (by decide) ?_
                      exact ih2 (i + 1) _ (by omega) (by omega) hq3 (fun k hk => by
                        rw [q62 k hk, hu2 k hk]
                        show _ = lkS _ _ (13 * s + i + 1)
                        rw [lkS_s, eb, decide_eq_true h63, Bool.true_and]
                        have e2 : fsV h t n jn (13 * s + i) k = vH h n jn (handF h t s (i : Int)) (k + 1) := by unfold fsV; rw [show (13 * s + i) / 13 = s by omega, show (13 * s + i) % 13 = i by omega]
                        rw [e2])
              exact L44 14 0 h1 (by omega) (by omega) hq hu
        exact L31 (jn + 1) 0 h1 (by omega) (by omega) hq (fun k hk => hz k (by omega))
      · refine zV_aload_nr dX5_look_16 rfl rfl ?_
        refine gf5_64 rfl (rfl) dX5_look_17 ?_
        refine zV_teq (w := zrv E 62) rfl ?_
        refine zV_iload_n dX5_look_20 rfl rfl ?_
        refine zV_iconst dX5_look_21 ?_
        refine zV_iastoreN (i := s) (N := 20) (rfl) (by omega) (by decide) dX5_look_22 ?_
        refine zV_iinc dX5_look_23 rfl (Nat.le_of_ble_eq_true rfl) rfl ?_
        refine zV_goto (tgt := 7) dX5_look_26 (by decide) ?_
        exact ih (s + 1) _ (by omega) (by omega) ⟨fun c2 hh => by rw [zup_fn (by omega)]; exact hq.1 c2 hh, fun j j1 j2 => by rw [zup_fn (by decide)]; exact hq.2 j j1 j2⟩ (fun k hk => by
          rw [zup_at]
          by_cases e : k = s
          · rw [if_pos e]
          · rw [if_neg e]; exact hz k (by omega))
  exact L7 21 0 h (by omega) (by omega) (qr_rfl hi) (fun k hk => absurd hk (by omega))
