/-! THE CLERK: rules, to their end -/
theorem sgQ_v {h : zH} {T : Nat → Int} {n p : Nat} {c : Int} {r : Option Value} {h' : zH} (q : if isS T n p c = true then r = some (ziv 1) ∧ clkF h h' ∧ tokAt h' T n (tB T n p) else r = some (ziv 0) ∧ h' = zup h 14 9 1) : ∃ v : Int, r = some (ziv v) ∧ (v = 0 ∨ v = 1) ∧ (v = 0 → ¬ isS T n p c = true ∧ h' = zup h 14 9 1) ∧ (v ≠ 0 → isS T n p c = true ∧ clkF h h' ∧ tokAt h' T n (tB T n p)) := by
  by_cases e : isS T n p c = true
  · rw [if_pos e] at q; exact ⟨1, q.1, Or.inr rfl, fun z => absurd z (by decide), fun _ => ⟨e, q.2⟩⟩
  · rw [if_neg e] at q; exact ⟨0, q.1, Or.inl rfl, fun _ => ⟨e, q.2⟩, fun z => absurd rfl z⟩
theorem ifT {b : Bool} (h : (if b = true then (1 : Int) else 0) ≠ 0) : b = true := Decidable.byContradiction fun z => h (if_neg z)
theorem ifF {b : Bool} (h : (if b = true then (1 : Int) else 0) = 0) : ¬ b = true := fun z => by rw [if_pos z] at h; exact absurd h (by decide)
theorem valN_lo (T : Nat → Int) (n : Nat) (dr : Bool) (p : Nat) : -16 ≤ valN T n dr p ∧ valN T n dr p ≤ 0 := by
  unfold valN; repeat' split
  all_goals omega
theorem emit_look {h h1 : zH} {T : Nat → Int} {n u ru c q : Nat} {l : List Int} {b : Bool} (hu : isCourt u) (he : emitd h T n u ru c l b q h1) : emitd h T n u ru c l true q (zup h1 (u + 11) ru 1) := by
  have hu9 : u = 2 ∨ u = 16 := hu
  obtain ⟨e0, e1, e2, e3, e4, e5, e6, e7, e8⟩ := he
  have e14 : zup h1 (u + 11) ru 1 14 = h1 14 := zup_fn (by omega)
  refine ⟨fun c2 a b c d => by rw [zup_fn d]; exact e0 c2 a b c d, fun j a b c d => by rw [e14]; exact e1 j a b c d, fun j hj => by rw [zup_fn (by omega)]; exact e2 j hj, by rw [zup_fn (by omega)]; exact e3, fun i hi => by rw [zup_fn (by omega)]; exact e4 i hi, fun i hi => by rw [zup_fn (by omega)]; exact e5 i hi, by rw [zup_at, if_pos rfl, if_pos rfl], fun j hj => by rw [zup_at, if_neg hj]; exact e7 j hj, ?_⟩
  unfold tokAt; rw [e14]; exact e8
theorem bad_adv {h h1 : zH} {T : Nat → Int} {n u : Nat} {k : Int} {q : Nat} (hf : clkF h h1) {h2 : zH} (hb : badd h1 T n u k q h2) : badd h T n u k q h2 := ⟨fun c2 a b c d => (hb.1 c2 a b c d).trans (hf.1 c2 a), fun j hj => (hb.2.1 j hj).trans (hf.2 j (by omega) (by omega) (by omega) (by omega)), hb.2.2.1, hb.2.2.2⟩
theorem bad_end {h h1 : zH} {T : Nat → Int} {n u ru c : Nat} {l : List Int} {b : Bool} {k : Int} {q : Nat} (he : emitd h T n u ru c l b q h1) : badd h T n u k q (zup h1 14 9 k) := bad_cat he (bad_0 he.2.2.2.2.2.2.2.2)
theorem opTst_2 {T : Nat → Int} {n p : Nat} (h : isS T n p 61 = true) (h1 : ¬ isS T n p 60 = true) : opTst T n p = -5 := by
  unfold opTst; rw [if_neg h1, if_pos h]
theorem opTst_0 {T : Nat → Int} {n p : Nat} (h : ¬ isS T n p 61 = true) (h1 : ¬ isS T n p 60 = true) : opTst T n p = 0 := by
  unfold opTst; rw [if_neg h1, if_neg h]

set_option maxRecDepth 100000 in
theorem c0_takePart {E : zE} {h : zH} {T : Nat → Int} {n u ru c p : Nat} {ex : Nat → zR} {w : Int} {d k : Nat} (he : ∀ p, p ≤ n → good n p (ex p)) (hp : pre h T n u ru c p) (hd : 8 ≤ d) (HE : ∀ (h : zH) (c p : Nat), pre h T n u ru c p → zCal E mX0_takeExpr (d - 1) 0 [zrv E 14, ziv (w + 1)] h (parQ h T n u ru c (ex p)) (fun _ _ => False)) : zCal E mX0_takePart d k [zrv E 14, ziv w] h (parQ h T n u ru c (partP T n (decide (ru = 0)) ex p)) (fun _ _ => False) := by
  refine zCal_of (by decide) (Nat.le_of_ble_eq_true rfl) (fun a => ?_)
  show zV _ 0 0 [zrv E 14, ziv w, .null] [] _
  have hk := hp.1
  have hn7 := hk.2.2.1
  have hu := hk.2.2.2.2.1
  have hu9 : u = 2 ∨ u = 16 := hu
  have hpn := hp.2.2.1
  have hcp := hp.2.2.2.2.1
  have ht := hp.2.1
  have tl := tB_lo (T := T) hpn
  have ta := tA_lo (T := T) hpn
  have kl := tK_lo T n p
  have vl := tV_lo (T := T) (n := n) (p := p) hk.2.2.2.2.2.2
  have vn := valN_lo T n (decide (ru = 0)) p
  have hE0 := emit_0 hp
  refine zV_aload_nr dX0_takePart_0 rfl rfl ?_
  refine zV_bipush dX0_takePart_1 (by decide) ?_
  refine zV_callV (As := [ziv 40]) lk0_89 (rfl) rfl rfl (c0_isSign (p := p) (d - 1) 0 hp.1 hp.2.1 (by decide)) ⟨by show _ + 1 ≤ d; omega, by show _ ≤ k; omega⟩ rfl (Nat.le_of_ble_eq_true rfl) dX0_takePart_3 (fun _ _ z => z.elim) (fun r h9 q => ?_)
  obtain ⟨rfl, hh⟩ := q
  rw [hh]
  refine zR_if_eq (tgt := 38) dX0_takePart_6 (by decide) (by split <;> omega) (fun h6 => ?_) (fun h6 => ?_)
  · have n6 := ifF h6
    have J141 : ∀ (l : List Int) (b : Bool) (h1 : zH), (emitd h T n u ru c l b p h1) → (l.length = 1) → (partP T n (decide (ru = 0)) ex p = .inr (l, b, tB T n p)) → (tK T n p ≠ 0) → zV (E, mX0_takePart, d, k, (parQ h T n u ru c (partP T n (decide (ru = 0)) ex p)), (fun _ _ => False), a) 0 141 [zrv E 14, ziv w, .null] [] h1 := by
      intro l b h1 hE hl1 hR tkn
      have tlt := tl.2.2 tkn
      have hp1 : clk h1 T n u ∧ tokAt h1 T n p := by
        obtain ⟨k0, k1, k2, k3, k4, k5, k6⟩ := hk
        obtain ⟨e0, e1, e2, e3, e4, e5, e6, e7, e8⟩ := hE
        exact ⟨⟨by rw [e1 0 (by decide) (by decide) (by decide) (by decide)]; exact k0, by rw [e1 1 (by decide) (by decide) (by decide) (by decide)]; exact k1, k2, by rw [e1 2 (by decide) (by decide) (by decide) (by decide)]; exact k3, k4, by rw [e0 1 (by decide) (by omega) (by omega) (by omega)]; exact k5, k6⟩, e8⟩
      refine zV_aload_nr dX0_takePart_141 rfl rfl ?_
      refine zV_callV (As := []) lk0_44 (rfl) rfl rfl (c0_advance (p := tB T n p) (d - 1) 0 (by omega) hp1.1 hp1.2.2.1 tl.2.1) ⟨by show _ + 1 ≤ d; omega, by show _ ≤ k; omega⟩ rfl (Nat.le_of_ble_eq_true rfl) dX0_takePart_142 (fun _ _ z => z.elim) (fun r h2 q => ?_)
      obtain ⟨rfl, fr, ht2⟩ := q
      refine zV_iconst dX0_takePart_145 ?_
      exact zV_zreturn dX0_takePart_146 rfl (Or.inr rfl) (Nat.zero_le _) (by rw [hR]; exact ⟨rfl, emit_adv hu hE fr ht2⟩)
    refine zV_aload_nr dX0_takePart_38 rfl rfl ?_
    refine gf0_47 rfl rfl dX0_takePart_39 ?_
    refine zV_iconst dX0_takePart_42 ?_
    rw [ht.2.2.1]
    refine zR_icmp_ne (tgt := 103) dX0_takePart_43 (by decide) (by omega) (by omega) (fun h43 => ?_) (fun h43 => ?_)
    · refine zV_aload_nr dX0_takePart_103 rfl rfl ?_
      refine gf0_47 rfl rfl dX0_takePart_104 ?_
      refine zV_iconst dX0_takePart_107 ?_
      rw [ht.2.2.1]
      refine zR_icmp_eq (tgt := 117) dX0_takePart_108 (by decide) (by omega) (by omega) (fun h108 => ?_) (fun h108 => ?_)
      · refine zV_aload_nr dX0_takePart_117 rfl rfl ?_
        refine zV_callV (As := []) lk0_77 (rfl) rfl rfl (c0_isTooLong (d - 1) 0 ht.1 ht.2.1 (by omega)) ⟨by show _ + 1 ≤ d; omega, by show _ ≤ k; omega⟩ rfl (Nat.le_of_ble_eq_true rfl) dX0_takePart_118 (fun _ _ z => z.elim) (fun r h9 q => ?_)
        obtain ⟨rfl, hh⟩ := q
        rw [hh]
        refine zR_if_eq (tgt := 130) dX0_takePart_121 (by decide) (by split <;> omega) (fun h121 => ?_) (fun h121 => ?_)
        · have hl9 : ¬ 4 < tB T n p - tA T n p := fun z => by
            have h46 : (if 4 < tB T n p - tA T n p then (1 : Int) else 0) = 0 := h121
            rw [if_pos z] at h46
            exact absurd h46 (by decide)
          refine zV_aload_nr dX0_takePart_130 rfl rfl ?_
          refine gf0_18 (t := u) (hk.2.2.2.1) rfl (rfl) dX0_takePart_131 ?_
          refine zV_aload_nr dX0_takePart_134 rfl rfl ?_
          refine gf0_68 rfl rfl dX0_takePart_135 ?_
          rw [ht.2.2.2]
          refine zV_callV (As := [ziv (tV T n p)]) lk0_185 (court_0 hu) rfl rfl (c1_addStep (d - 1) 0 hu hp.2.2.2.1 (by omega)) ⟨by show _ + 1 ≤ d; omega, by show _ ≤ k; omega⟩ rfl (Nat.le_of_ble_eq_true rfl) dX0_takePart_138 (fun _ _ z => z.elim) (fun r h9 q => ?_)
          obtain ⟨rfl, hh⟩ := q
          have hE5 : emitd h T n u ru c [tV T n p] false p h9 := by
            have := emit_step (v := tV T n p) hu hE0
            rw [hh]; exact this
          exact J141 _ _ _ hE5 rfl (by unfold partP; rw [if_neg n6, if_neg h43, if_pos h108, if_neg hl9]) (by omega)
        · have hl9 : 4 < tB T n p - tA T n p := Decidable.byContradiction fun z => h121 (if_neg z)
          refine zV_aload_nr dX0_takePart_124 rfl rfl ?_
          refine zV_iconst dX0_takePart_125 ?_
          refine zV_callV (As := [ziv 2]) lk0_92 (rfl) rfl rfl (c0_refuse (d - 1) 0) ⟨by show _ + 1 ≤ d; omega, by show _ ≤ k; omega⟩ rfl (Nat.le_of_ble_eq_true rfl) dX0_takePart_126 (fun _ _ z => z.elim) (fun r h9 q => ?_)
          obtain ⟨rfl, hh⟩ := q
          exact zV_zreturn dX0_takePart_129 rfl (Or.inl rfl) (Nat.zero_le _) (by unfold partP; rw [if_neg n6, if_neg h43, if_pos h108, if_pos hl9]; exact ⟨rfl, by rw [hh]; exact bad_0 ht⟩)
      · refine zV_aload_nr dX0_takePart_111 rfl rfl ?_
        refine zV_iconst dX0_takePart_112 ?_
        refine zV_callV (As := [ziv 1]) lk0_92 (rfl) rfl rfl (c0_refuse (d - 1) 0) ⟨by show _ + 1 ≤ d; omega, by show _ ≤ k; omega⟩ rfl (Nat.le_of_ble_eq_true rfl) dX0_takePart_113 (fun _ _ z => z.elim) (fun r h9 q => ?_)
        obtain ⟨rfl, hh⟩ := q
        exact zV_zreturn dX0_takePart_116 rfl (Or.inl rfl) (Nat.zero_le _) (by unfold partP; rw [if_neg n6, if_neg h43, if_neg h108]; exact ⟨rfl, by rw [hh]; exact bad_0 ht⟩)
    · refine zV_aload_nr dX0_takePart_46 rfl rfl ?_
      refine zV_callV (As := []) lk0_208 (rfl) rfl rfl (c0_valueNamed (p := p) (d - 1) 0 (by omega) hk ht hpn hp.2.2.2.2.2.1 hp.2.2.2.2.2.2) ⟨by show _ + 1 ≤ d; omega, by show _ ≤ k; omega⟩ rfl (Nat.le_of_ble_eq_true rfl) dX0_takePart_47 (fun _ _ z => z.elim) (fun r h9 q => ?_)
      obtain ⟨rfl, hh⟩ := q
      rw [hh]
      refine zV_istore_n dX0_takePart_50 rfl (Nat.le_of_ble_eq_true rfl) rfl ?_
      refine zV_iload_n dX0_takePart_51 rfl rfl ?_
      refine zR_if_ne (tgt := 61) dX0_takePart_52 (by decide) (by omega) (fun h52 => ?_) (fun h52 => ?_)
      · refine zV_aload_nr dX0_takePart_61 rfl rfl ?_
        refine gf0_18 (t := u) (hk.2.2.2.1) rfl (rfl) dX0_takePart_62 ?_
        refine zV_iload_n dX0_takePart_65 rfl rfl ?_
        refine zV_callV (As := [ziv (valN T n (decide (ru = 0)) p)]) lk0_185 (court_0 hu) rfl rfl (c1_addStep (d - 1) 0 hu hp.2.2.2.1 (by omega)) ⟨by show _ + 1 ≤ d; omega, by show _ ≤ k; omega⟩ rfl (Nat.le_of_ble_eq_true rfl) dX0_takePart_66 (fun _ _ z => z.elim) (fun r h9 q => ?_)
        obtain ⟨rfl, hh⟩ := q
        have hE5 : emitd h T n u ru c [valN T n (decide (ru = 0)) p] false p h9 := by
          have := emit_step (v := valN T n (decide (ru = 0)) p) hu hE0
          rw [hh]; exact this
        have eru : h9 14 3 = (ru : Int) := by rw [hE5.2.1 3 (by decide) (by decide) (by decide) (by decide)]; exact hp.2.2.2.2.2.1
        have eu9 : h9 14 2 = (u : Int) := by rw [hE5.2.1 2 (by decide) (by decide) (by decide) (by decide)]; exact hk.2.2.2.1
        refine zV_iload_n dX0_takePart_69 rfl rfl ?_
        refine zV_bipush dX0_takePart_70 (by decide) ?_
        refine zR_icmp_eq (tgt := 87) dX0_takePart_72 (by decide) (by omega) (by omega) (fun h72 => ?_) (fun h72 => ?_)
        · refine zV_aload_nr dX0_takePart_87 rfl rfl ?_
          refine gf0_18 (t := u) (eu9) rfl (rfl) dX0_takePart_88 ?_
          refine gf0_211 rfl (court_0 hu) dX0_takePart_91 ?_
          refine zV_aload_nr dX0_takePart_94 rfl rfl ?_
          refine gf0_165 rfl rfl dX0_takePart_95 ?_
          rw [eru]
          refine zV_iconst dX0_takePart_98 ?_
          refine zV_zastoreN (i := ru) (N := 2) (court_11 hk.2.2.2.2.1) hp.2.2.2.2.2.2 (by decide) (Or.inr rfl) dX0_takePart_99 ?_
          refine zV_goto (tgt := 141) dX0_takePart_100 (by decide) ?_
          refine zV_drop 2 ?_
          exact J141 _ _ _ (emit_look hu hE5) rfl (by unfold partP; rw [if_neg n6, if_pos h43, if_neg h52, show decide (-13 ≤ valN T n (decide (ru = 0)) p ∧ valN T n (decide (ru = 0)) p ≤ -11) = true from decide_eq_true (by omega)]) (by omega)
        · refine zV_iload_n dX0_takePart_75 rfl rfl ?_
          refine zV_bipush dX0_takePart_76 (by decide) ?_
          refine zR_icmp_eq (tgt := 87) dX0_takePart_78 (by decide) (by omega) (by omega) (fun h78 => ?_) (fun h78 => ?_)
          · refine zV_aload_nr dX0_takePart_87 rfl rfl ?_
            refine gf0_18 (t := u) (eu9) rfl (rfl) dX0_takePart_88 ?_
            refine gf0_211 rfl (court_0 hu) dX0_takePart_91 ?_
            refine zV_aload_nr dX0_takePart_94 rfl rfl ?_
            refine gf0_165 rfl rfl dX0_takePart_95 ?_
            rw [eru]
            refine zV_iconst dX0_takePart_98 ?_
            refine zV_zastoreN (i := ru) (N := 2) (court_11 hk.2.2.2.2.1) hp.2.2.2.2.2.2 (by decide) (Or.inr rfl) dX0_takePart_99 ?_
            refine zV_goto (tgt := 141) dX0_takePart_100 (by decide) ?_
            refine zV_drop 2 ?_
            exact J141 _ _ _ (emit_look hu hE5) rfl (by unfold partP; rw [if_neg n6, if_pos h43, if_neg h52, show decide (-13 ≤ valN T n (decide (ru = 0)) p ∧ valN T n (decide (ru = 0)) p ≤ -11) = true from decide_eq_true (by omega)]) (by omega)
          · refine zV_iload_n dX0_takePart_81 rfl rfl ?_
            refine zV_bipush dX0_takePart_82 (by decide) ?_
            refine zR_icmp_ne (tgt := 100) dX0_takePart_84 (by decide) (by omega) (by omega) (fun h84 => ?_) (fun h84 => ?_)
            · refine zV_goto (tgt := 141) dX0_takePart_100 (by decide) ?_
              refine zV_drop 2 ?_
              exact J141 _ _ _ hE5 rfl (by unfold partP; rw [if_neg n6, if_pos h43, if_neg h52, show decide (-13 ≤ valN T n (decide (ru = 0)) p ∧ valN T n (decide (ru = 0)) p ≤ -11) = false from decide_eq_false (by omega)]) (by omega)
            · refine zV_aload_nr dX0_takePart_87 rfl rfl ?_
              refine gf0_18 (t := u) (eu9) rfl (rfl) dX0_takePart_88 ?_
              refine gf0_211 rfl (court_0 hu) dX0_takePart_91 ?_
              refine zV_aload_nr dX0_takePart_94 rfl rfl ?_
              refine gf0_165 rfl rfl dX0_takePart_95 ?_
              rw [eru]
              refine zV_iconst dX0_takePart_98 ?_
              refine zV_zastoreN (i := ru) (N := 2) (court_11 hk.2.2.2.2.1) hp.2.2.2.2.2.2 (by decide) (Or.inr rfl) dX0_takePart_99 ?_
              refine zV_goto (tgt := 141) dX0_takePart_100 (by decide) ?_
              refine zV_drop 2 ?_
              exact J141 _ _ _ (emit_look hu hE5) rfl (by unfold partP; rw [if_neg n6, if_pos h43, if_neg h52, show decide (-13 ≤ valN T n (decide (ru = 0)) p ∧ valN T n (decide (ru = 0)) p ≤ -11) = true from decide_eq_true (by omega)]) (by omega)
      · refine zV_aload_nr dX0_takePart_55 rfl rfl ?_
        refine zV_iconst dX0_takePart_56 ?_
        refine zV_callV (As := [ziv 3]) lk0_92 (rfl) rfl rfl (c0_refuse (d - 1) 0) ⟨by show _ + 1 ≤ d; omega, by show _ ≤ k; omega⟩ rfl (Nat.le_of_ble_eq_true rfl) dX0_takePart_57 (fun _ _ z => z.elim) (fun r h9 q => ?_)
        obtain ⟨rfl, hh⟩ := q
        exact zV_zreturn dX0_takePart_60 rfl (Or.inl rfl) (Nat.zero_le _) (by unfold partP; rw [if_neg n6, if_pos h43, if_pos h52]; exact ⟨rfl, by rw [hh]; exact bad_0 ht⟩)
  · have y6 := ifT h6
    refine zV_aload_nr dX0_takePart_9 rfl rfl ?_
    refine zV_callV (As := []) lk0_44 (rfl) rfl rfl (c0_advance (p := tB T n p) (d - 1) 0 (by omega) hp.1 hp.2.1.2.1 tl.2.1) ⟨by show _ + 1 ≤ d; omega, by show _ ≤ k; omega⟩ rfl (Nat.le_of_ble_eq_true rfl) dX0_takePart_10 (fun _ _ z => z.elim) (fun r h2 q => ?_)
    obtain ⟨rfl, fr, ht2⟩ := q
    have hE2 := emit_adv hu hE0 fr ht2
    have hp2 := pre_e hp hE2 (by first | omega | (simp only [List.length_nil]; omega)) tl.2.1
    refine zV_aload_nr dX0_takePart_13 rfl rfl ?_
    refine zV_iload_n dX0_takePart_14 rfl rfl ?_
    refine zV_iconst dX0_takePart_15 ?_
    refine zV_iadd dX0_takePart_16 ?_
    refine zV_callV (As := [ziv (w + 1)]) lk0_174 (rfl) rfl rfl (HE h2 c (tB T n p) hp2) ⟨by show _ + 1 ≤ d; omega, by show _ ≤ k; omega⟩ rfl (Nat.le_of_ble_eq_true rfl) dX0_takePart_17 (fun _ _ z => z.elim) (fun r h3 q => ?_)
    obtain ⟨v9, rfl, hv9, hbad, hok⟩ := parQ_v q
    refine zR_if_eq (tgt := 36) dX0_takePart_20 (by decide) (by omega) (fun h20 => ?_) (fun h20 => ?_)
    · obtain ⟨ke, q0, hR0, hB0⟩ := hbad h20
      refine zV_iconst dX0_takePart_36 ?_
      exact zV_zreturn dX0_takePart_37 rfl (by simp) (Nat.zero_le _) (by unfold partP; rw [if_pos y6, hR0]; exact ⟨rfl, bad_cat hE2 hB0⟩)
    · obtain ⟨l0, b0, q0, hR0, hE4⟩ := hok h20
      have g0 := he (tB T n p) tl.2.1
      rw [hR0] at g0
      have hE3 := emit_cat hE2 hE4
      have hp3 := pre_e hp hE3 (by have := g0.1; show c + l0.length ≤ q0; omega) g0.2.2
      refine zV_aload_nr dX0_takePart_23 rfl rfl ?_
      refine zV_bipush dX0_takePart_24 (by decide) ?_
      refine zV_callV (As := [ziv 41]) lk0_54 (rfl) rfl rfl (c0_takeSign (p := q0) (d - 1) 0 (by omega) hp3.1 hp3.2.1 g0.2.2 (by decide)) ⟨by show _ + 1 ≤ d; omega, by show _ ≤ k; omega⟩ rfl (Nat.le_of_ble_eq_true rfl) dX0_takePart_26 (fun _ _ z => z.elim) (fun r h4 q => ?_)
      obtain ⟨v8, rfl, hv8, hno, hyes⟩ := sgQ_v q
      refine zR_if_eq (tgt := 36) dX0_takePart_29 (by decide) (by omega) (fun h29 => ?_) (fun h29 => ?_)
      · obtain ⟨n41, hh4⟩ := hno h29
        refine zV_iconst dX0_takePart_36 ?_
        exact zV_zreturn dX0_takePart_37 rfl (by simp) (Nat.zero_le _) (by unfold partP; rw [if_pos y6, hR0]; show parQ _ _ _ _ _ _ (if isS T n q0 41 = true then _ else _) _ _; rw [if_neg n41]; exact ⟨rfl, by rw [hh4]; exact bad_end hE3⟩)
      · obtain ⟨y41, fr4, ht4⟩ := hyes h29
        refine zV_iconst dX0_takePart_32 ?_
        refine zV_goto (tgt := 37) dX0_takePart_33 (by decide) ?_
        exact zV_zreturn dX0_takePart_37 rfl (by simp) (Nat.zero_le _) (by unfold partP; rw [if_pos y6, hR0]; show parQ _ _ _ _ _ _ (if isS T n q0 41 = true then _ else _) _ _; rw [if_pos y41]; exact ⟨rfl, emit_adv hu hE3 fr4 ht4⟩)
set_option maxRecDepth 100000 in
theorem c0_takeTest {E : zE} {h : zH} {T : Nat → Int} {n u ru c p : Nat} {ex : Nat → zR} {w : Int} {d k : Nat} (he : ∀ p, p ≤ n → good n p (ex p)) (hp : pre h T n u ru c p) (hd : 9 ≤ d) (HP : ∀ (h : zH) (c p : Nat), pre h T n u ru c p → zCal E mX0_takeSum (d - 1) 0 [zrv E 14, ziv w] h (parQ h T n u ru c (sumP T n (decide (ru = 0)) ex p)) (fun _ _ => False)) : zCal E mX0_takeTest d k [zrv E 14, ziv w] h (parQ h T n u ru c (testP T n (decide (ru = 0)) ex p)) (fun _ _ => False) := by
  refine zCal_of (by decide) (Nat.le_of_ble_eq_true rfl) (fun a => ?_)
  show zV _ 0 0 [zrv E 14, ziv w, .null] [] _
  have hk := hp.1
  have hn7 := hk.2.2.1
  have hu := hk.2.2.2.2.1
  have hu9 : u = 2 ∨ u = 16 := hu
  have hpn := hp.2.2.1
  have hcp := hp.2.2.2.2.1
  have gs := good_sum (T := T) (dr := (decide (ru = 0))) he
  refine zV_aload_nr dX0_takeTest_0 rfl rfl ?_
  refine zV_iload_n dX0_takeTest_1 rfl rfl ?_
  refine zV_callV (As := [ziv w]) lk0_199 (rfl) rfl rfl (HP h c p hp) ⟨by show _ + 1 ≤ d; omega, by show _ ≤ k; omega⟩ rfl (Nat.le_of_ble_eq_true rfl) dX0_takeTest_2 (fun _ _ z => z.elim) (fun r h1 q => ?_)
  obtain ⟨v9, rfl, hv9, hbad, hok⟩ := parQ_v q
  refine zR_if_ne (tgt := 10) dX0_takeTest_5 (by decide) (by omega) (fun h5 => ?_) (fun h5 => ?_)
  · obtain ⟨l0, b0, q0, hR0, hE1⟩ := hok h5
    have g0 := gs p hpn
    rw [hR0] at g0
    have g01 : p + l0.length ≤ q0 := g0.1
    have g02 : p < q0 := g0.2.1
    have g03 : q0 ≤ n := g0.2.2
    have hp1 := pre_e hp hE1 (by omega) g03
    have tl := tB_lo (T := T) g03
    have ta := tA_lo (T := T) g03
    refine zV_aload_nr dX0_takeTest_10 rfl rfl ?_
    refine zV_bipush dX0_takeTest_11 (by decide) ?_
    have J32 : (opTst T n q0 ≠ 0) → zV (E, mX0_takeTest, d, k, (parQ h T n u ru c (testP T n (decide (ru = 0)) ex p)), (fun _ _ => False), a) 0 32 [zrv E 14, ziv w, ziv (if isS T n q0 60 = true then 1 else 0)] [] h1 := by
      intro  hop
      have tkn := op_k.2.2.2.2 q0 hop
      have tlt := tl.2.2 tkn
      refine zV_aload_nr dX0_takeTest_32 rfl rfl ?_
      refine zV_callV (As := []) lk0_44 (rfl) rfl rfl (c0_advance (p := tB T n q0) (d - 1) 0 (by omega) hp1.1 hp1.2.1.2.1 tl.2.1) ⟨by show _ + 1 ≤ d; omega, by show _ ≤ k; omega⟩ rfl (Nat.le_of_ble_eq_true rfl) dX0_takeTest_33 (fun _ _ z => z.elim) (fun r h2 q => ?_)
      obtain ⟨rfl, fr, ht2⟩ := q
      have hE2 := emit_adv hu hE1 fr ht2
      have hp2 := pre_e hp hE2 (by first | omega | (simp only [List.length_nil]; omega)) tl.2.1
      refine zV_aload_nr dX0_takeTest_36 rfl rfl ?_
      refine zV_iload_n dX0_takeTest_37 rfl rfl ?_
      refine zV_callV (As := [ziv w]) lk0_199 (rfl) rfl rfl (HP h2 (c + l0.length) (tB T n q0) hp2) ⟨by show _ + 1 ≤ d; omega, by show _ ≤ k; omega⟩ rfl (Nat.le_of_ble_eq_true rfl) dX0_takeTest_38 (fun _ _ z => z.elim) (fun r h3 q => ?_)
      obtain ⟨v9, rfl, hv9, hbad, hok⟩ := parQ_v q
      refine zR_if_ne (tgt := 46) dX0_takeTest_41 (by decide) (by omega) (fun h41 => ?_) (fun h41 => ?_)
      · obtain ⟨l2, b2, q2, hR2, hE2b⟩ := hok h41
        have g2 := gs (tB T n q0) tl.2.1
        rw [hR2] at g2
        have hE3 := emit_cat hE2 hE2b
        have g21 : tB T n q0 + l2.length ≤ q2 := g2.1
        have g22 : q2 ≤ n := g2.2.2
        have g23 : tB T n q0 < q2 := g2.2.1
        have ll : (l0 ++ l2).length = l0.length + l2.length := List.length_append
        have hp3 := pre_e hp hE3 (by omega) g22
        refine zV_aload_nr dX0_takeTest_46 rfl rfl ?_
        refine gf0_18 (t := u) (hp3.1.2.2.2.1) rfl (rfl) dX0_takeTest_47 ?_
        have J61 : ∀ (ov : Int), (ov = opTst T n q0) → zV (E, mX0_takeTest, d, k, (parQ h T n u ru c (testP T n (decide (ru = 0)) ex p)), (fun _ _ => False), a) 0 61 [zrv E 14, ziv w, ziv (if isS T n q0 60 = true then 1 else 0)] [ziv ov, zrv E u] h3 := by
          intro ov hov
          refine zV_callV (As := [ziv ov]) lk0_185 (court_0 hu) rfl rfl (c1_addStep (d - 1) 0 hu hE3.2.2.2.1 (by omega)) ⟨by show _ + 1 ≤ d; omega, by show _ ≤ k; omega⟩ rfl (Nat.le_of_ble_eq_true rfl) dX0_takeTest_61 (fun _ _ z => z.elim) (fun r h4 q => ?_)
          obtain ⟨rfl, hh⟩ := q
          rw [hh]
          refine zV_iconst dX0_takeTest_64 ?_
          exact zV_zreturn dX0_takeTest_65 rfl (Or.inr rfl) (Nat.zero_le _) (by
            unfold testP; rw [hR0]; show parQ _ _ _ _ _ _ (if opTst T n q0 = 0 then _ else _) _ _; rw [if_neg hop, hR2]
            refine ⟨rfl, ?_⟩
            have := emit_step (v := ov) hu hE3
            rw [List.append_assoc] at this
            rw [← hov]
            exact this)
        refine zV_iload_n dX0_takeTest_50 rfl rfl ?_
        refine zR_if_eq (tgt := 59) dX0_takeTest_51 (by decide) (by split <;> omega) (fun h51 => ?_) (fun h51 => ?_)
        · have n51 := ifF h51
          refine zV_bipush dX0_takeTest_59 (by decide) ?_
          exact J61 _ (Decidable.byContradiction fun z => by
            unfold opTst at hop z
            rw [if_neg n51] at hop z
            by_cases z2 : isS T n q0 61 = true
            · rw [if_pos z2] at z; exact z rfl
            · rw [if_neg z2] at hop; exact hop rfl)
        · have y51 := ifT h51
          refine zV_bipush dX0_takeTest_54 (by decide) ?_
          refine zV_goto (tgt := 61) dX0_takeTest_56 (by decide) ?_
          exact J61 _ (by unfold opTst; rw [if_pos y51])
      · obtain ⟨ke, q2, hR2, hB2⟩ := hbad h41
        refine zV_iconst dX0_takeTest_44 ?_
        exact zV_zreturn dX0_takeTest_45 rfl (Or.inl rfl) (Nat.zero_le _) (by unfold testP; rw [hR0]; show parQ _ _ _ _ _ _ (if opTst T n q0 = 0 then _ else _) _ _; rw [if_neg hop, hR2]; exact ⟨rfl, bad_cat hE2 hB2⟩)
    refine zV_callV (As := [ziv 60]) lk0_89 (rfl) rfl rfl (c0_isSign (p := q0) (d - 1) 0 hp1.1 hp1.2.1 (by decide)) ⟨by show _ + 1 ≤ d; omega, by show _ ≤ k; omega⟩ rfl (Nat.le_of_ble_eq_true rfl) dX0_takeTest_13 (fun _ _ z => z.elim) (fun r h9 q => ?_)
    obtain ⟨rfl, hh⟩ := q
    rw [hh]
    refine zV_istore_n dX0_takeTest_16 rfl (Nat.le_of_ble_eq_true rfl) rfl ?_
    refine zV_iload_n dX0_takeTest_17 rfl rfl ?_
    refine zR_if_ne (tgt := 32) dX0_takeTest_18 (by decide) (by split <;> omega) (fun h18 => ?_) (fun h18 => ?_)
    · have y18 := ifT h18
      exact J32 (by unfold opTst; rw [if_pos y18]; decide)
    · have n18 := ifF h18
      refine zV_aload_nr dX0_takeTest_21 rfl rfl ?_
      refine zV_bipush dX0_takeTest_22 (by decide) ?_
      refine zV_callV (As := [ziv 61]) lk0_89 (rfl) rfl rfl (c0_isSign (p := q0) (d - 1) 0 hp1.1 hp1.2.1 (by decide)) ⟨by show _ + 1 ≤ d; omega, by show _ ≤ k; omega⟩ rfl (Nat.le_of_ble_eq_true rfl) dX0_takeTest_24 (fun _ _ z => z.elim) (fun r h9 q => ?_)
      obtain ⟨rfl, hh⟩ := q
      rw [hh]
      refine zR_if_ne (tgt := 32) dX0_takeTest_27 (by decide) (by split <;> omega) (fun h27 => ?_) (fun h27 => ?_)
      · have y27 := ifT h27
        exact J32 (by rw [opTst_2 y27 n18]; decide)
      · have n27 := ifF h27
        refine zV_iconst dX0_takeTest_30 ?_
        exact zV_zreturn dX0_takeTest_31 rfl (Or.inr rfl) (Nat.zero_le _) (by unfold testP; rw [hR0]; show parQ _ _ _ _ _ _ (if opTst T n q0 = 0 then _ else _) _ _; rw [if_pos (opTst_0 n27 n18)]; exact ⟨rfl, hE1⟩)
  · obtain ⟨ke, q0, hR0, hB0⟩ := hbad h5
    refine zV_iconst dX0_takeTest_8 ?_
    exact zV_zreturn dX0_takeTest_9 rfl (Or.inl rfl) (Nat.zero_le _) (by unfold testP; rw [hR0]; exact ⟨rfl, hB0⟩)
set_option maxRecDepth 100000 in
theorem c0_takeNot {E : zE} {h : zH} {T : Nat → Int} {n u ru c p : Nat} {ex : Nat → zR} {w : Int} {d k : Nat} (he : ∀ p, p ≤ n → good n p (ex p)) (hp : pre h T n u ru c p) (hd : 9 ≤ d) (HP : ∀ (h : zH) (c p : Nat), pre h T n u ru c p → zCal E mX0_takeTest (d - 1) 0 [zrv E 14, ziv w] h (parQ h T n u ru c (testP T n (decide (ru = 0)) ex p)) (fun _ _ => False)) : zCal E mX0_takeNot d k [zrv E 14, ziv w] h (parQ h T n u ru c (notP T n (decide (ru = 0)) ex p)) (fun _ _ => False) := by
  refine zCal_of (by decide) (Nat.le_of_ble_eq_true rfl) (fun a => ?_)
  show zV _ 0 0 [zrv E 14, ziv w, .null, .null] [] _
  have hk := hp.1
  have hn7 := hk.2.2.1
  have hu := hk.2.2.2.2.1
  have hu9 : u = 2 ∨ u = 16 := hu
  have hpn := hp.2.2.1
  have hcp := hp.2.2.2.2.1
  have gs := good_test (T := T) (dr := (decide (ru = 0))) he
  refine zV_iconst dX0_takeNot_0 ?_
  refine zV_istore_n dX0_takeNot_1 rfl (Nat.le_of_ble_eq_true rfl) rfl ?_
  have L2 : ∀ (m : Nat) (i : Nat) (q1 : Nat) (h1 : zH), (7 ≤ i + m) → (i ≤ 6) → (emitd h T n u ru c [] false q1 h1) → (p + 3 * i ≤ q1 ∧ q1 ≤ n ∧ p ≤ q1) → (ntF T n 6 p = ((ntF T n (6 - i) q1).1 + i, (ntF T n (6 - i) q1).2)) → zV (E, mX0_takeNot, d, k, (parQ h T n u ru c (notP T n (decide (ru = 0)) ex p)), (fun _ _ => False), a) 0 2 [zrv E 14, ziv w, ziv (i : Int), .null] [] h1 := by
    intro m
    induction m with
    | zero => intro i q1 h1 hm_ hi6 hE hi9 hN; exfalso; omega
    | succ m ih =>
      intro i q1 h1 hm_ hi6 hE hi9 hN
      have hp1 : pre h1 T n u ru c q1 := pre_e hp hE (by show c ≤ q1; omega) hi9.2.1
      have tl := tB_lo (T := T) hi9.2.1
      have ta := tA_lo (T := T) hi9.2.1
      have J27 : (¬ (i < 6 ∧ isW T n q1 wNot = true)) → zV (E, mX0_takeNot, d, k, (parQ h T n u ru c (notP T n (decide (ru = 0)) ex p)), (fun _ _ => False), a) 0 27 [zrv E 14, ziv w, ziv (i : Int), .null] [] h1 := by
        intro  hst
        have hN0 : ntF T n (6 - i) q1 = (0, q1) := by
          by_cases z : i < 6
          · rw [show 6 - i = (5 - i) + 1 by omega, ntF_s, if_neg (fun z2 => hst ⟨z, z2⟩)]
          · rw [show 6 - i = 0 by omega]; rfl
        have hN1 : (ntF T n 6 p).1 = i := by rw [hN, hN0]; exact Nat.zero_add i
        have hN2 : (ntF T n 6 p).2 = q1 := by rw [hN, hN0]
        have J48 : (i = 6 → ¬ isW T n q1 wNot = true) → zV (E, mX0_takeNot, d, k, (parQ h T n u ru c (notP T n (decide (ru = 0)) ex p)), (fun _ _ => False), a) 0 48 [zrv E 14, ziv w, ziv (i : Int), .null] [] h1 := by
          intro  hno
          refine zV_aload_nr dX0_takeNot_48 rfl rfl ?_
          refine zV_iload_n dX0_takeNot_49 rfl rfl ?_
          refine zV_callV (As := [ziv w]) lk0_196 (rfl) rfl rfl (HP h1 c q1 hp1) ⟨by show _ + 1 ≤ d; omega, by show _ ≤ k; omega⟩ rfl (Nat.le_of_ble_eq_true rfl) dX0_takeNot_50 (fun _ _ z => z.elim) (fun r h3 q => ?_)
          obtain ⟨v9, rfl, hv9, hbad, hok⟩ := parQ_v q
          refine zR_if_ne (tgt := 58) dX0_takeNot_53 (by decide) (by omega) (fun h53 => ?_) (fun h53 => ?_)
          · obtain ⟨l0, b0, q0, hR0, hE3⟩ := hok h53
            have g0 := gs q1 hi9.2.1
            rw [hR0] at g0
            have g01 : q1 + l0.length ≤ q0 := g0.1
            have g03 : q0 ≤ n := g0.2.2
            have hE4 := emit_cat hE hE3
            have hN : notP T n (decide (ru = 0)) ex p = .inr (l0 ++ List.replicate i (-3), b0, q0) := by
              unfold notP
              rw [hN1, hN2, if_neg (fun z => hno z.1 z.2), hR0]; rfl
            refine zV_iconst dX0_takeNot_58 ?_
            refine zV_istore_n dX0_takeNot_59 rfl (Nat.le_of_ble_eq_true rfl) rfl ?_
            have L60 : ∀ (m2 : Nat) (s : Nat) (h4 : zH), (i + 1 ≤ s + m2) → (s ≤ i) → (emitd h T n u ru c (l0 ++ List.replicate s (-3)) b0 q0 h4) → zV (E, mX0_takeNot, d, k, (parQ h T n u ru c (notP T n (decide (ru = 0)) ex p)), (fun _ _ => False), a) 0 60 [zrv E 14, ziv w, ziv (i : Int), ziv (s : Int)] [] h4 := by
              intro m2
              induction m2 with
              | zero => intro s h4 hm_ hs hE5; exfalso; omega
              | succ m2 ih2 =>
                intro s h4 hm_ hs hE5
                have e142 : h4 14 2 = (u : Int) := by rw [hE5.2.1 2 (by decide) (by decide) (by decide) (by decide)]; exact hk.2.2.2.1
                refine zV_iload_n dX0_takeNot_60 rfl rfl ?_
                refine zV_iload_n dX0_takeNot_61 rfl rfl ?_
                refine zR_icmp_ge (tgt := 80) dX0_takeNot_62 (by decide) (by omega) (by omega) (fun h62 => ?_) (fun h62 => ?_)
                · refine zV_iconst dX0_takeNot_80 ?_
                  exact zV_zreturn dX0_takeNot_81 rfl (Or.inr rfl) (Nat.zero_le _) (by rw [hN, show i = s by omega]; exact ⟨rfl, hE5⟩)
                · refine zV_aload_nr dX0_takeNot_65 rfl rfl ?_
                  refine gf0_18 (t := u) (e142) rfl (rfl) dX0_takeNot_66 ?_
                  refine zV_bipush dX0_takeNot_69 (by decide) ?_
                  refine zV_callV (As := [ziv (-3)]) lk0_185 (court_0 hu) rfl rfl (c1_addStep (d - 1) 0 hu hE5.2.2.2.1 (by rw [List.length_append, List.length_replicate]; omega)) ⟨by show _ + 1 ≤ d; omega, by show _ ≤ k; omega⟩ rfl (Nat.le_of_ble_eq_true rfl) dX0_takeNot_71 (fun _ _ z => z.elim) (fun r h4 q => ?_)
                  obtain ⟨rfl, hh⟩ := q
                  rw [hh]
                  refine zV_iinc dX0_takeNot_74 rfl (Nat.le_of_ble_eq_true rfl) rfl ?_
                  refine zV_goto (tgt := 60) dX0_takeNot_77 (by decide) ?_
                  exact ih2 (s + 1) _ (by omega) (by omega) (by
                    have := emit_step (v := (-3)) hu hE5
                    rw [List.append_assoc, ← List.replicate_succ'] at this
                    exact this)
            exact L60 (i + 1) 0 _ (by omega) (by omega) (by simpa using hE4)
          · obtain ⟨ke, q0, hR0, hB0⟩ := hbad h53
            refine zV_iconst dX0_takeNot_56 ?_
            exact zV_zreturn dX0_takeNot_57 rfl (Or.inl rfl) (Nat.zero_le _) (by unfold notP; rw [hN1, hN2, if_neg (fun z => hno z.1 z.2), hR0]; exact ⟨rfl, bad_cat hE hB0⟩)
        refine zV_iload_n dX0_takeNot_27 rfl rfl ?_
        refine zV_bipush dX0_takeNot_28 (by decide) ?_
        refine zR_icmp_ne (tgt := 48) dX0_takeNot_30 (by decide) (by omega) (by omega) (fun h30 => ?_) (fun h30 => ?_)
        · exact J48 (fun z => absurd z (by omega))
        · refine zV_aload_nr dX0_takeNot_33 rfl rfl ?_
          refine zV_lds (i := 20) rfl rfl dX0_takeNot_34 ?_
          refine zV_callV (As := [.ref (eK E 20)]) lk0_100 (rfl) rfl rfl (c0_isWord (p := q1) (b := wNot) (d - 1) 0 (by omega) hp1.1 hp1.2.1 hi9.2.1 rfl) ⟨by show _ + 1 ≤ d; omega, by show _ ≤ k; omega⟩ rfl (Nat.le_of_ble_eq_true rfl) dX0_takeNot_36 (fun _ _ z => z.elim) (fun r h9 q => ?_)
          obtain ⟨rfl, hh⟩ := q
          rw [hh]
          refine zR_if_eq (tgt := 48) dX0_takeNot_39 (by decide) (by split <;> omega) (fun h39 => ?_) (fun h39 => ?_)
          · have n39 := ifF h39
            exact J48 (fun _ => n39)
          · have y39 := ifT h39
            refine zV_aload_nr dX0_takeNot_42 rfl rfl ?_
            refine zV_iconst dX0_takeNot_43 ?_
            refine zV_callV (As := [ziv 2]) lk0_92 (rfl) rfl rfl (c0_refuse (d - 1) 0) ⟨by show _ + 1 ≤ d; omega, by show _ ≤ k; omega⟩ rfl (Nat.le_of_ble_eq_true rfl) dX0_takeNot_44 (fun _ _ z => z.elim) (fun r h9 q => ?_)
            obtain ⟨rfl, hh⟩ := q
            exact zV_zreturn dX0_takeNot_47 rfl (Or.inl rfl) (Nat.zero_le _) (by unfold notP; rw [hN1, hN2, if_pos ⟨by omega, y39⟩]; exact ⟨rfl, by rw [hh]; exact bad_end hE⟩)
      refine zV_iload_n dX0_takeNot_2 rfl rfl ?_
      refine zV_bipush dX0_takeNot_3 (by decide) ?_
      refine zR_icmp_ge (tgt := 27) dX0_takeNot_5 (by decide) (by omega) (by omega) (fun h5 => ?_) (fun h5 => ?_)
      · exact J27 (fun z => by omega)
      · refine zV_aload_nr dX0_takeNot_8 rfl rfl ?_
        refine zV_lds (i := 20) rfl rfl dX0_takeNot_9 ?_
        refine zV_callV (As := [.ref (eK E 20)]) lk0_100 (rfl) rfl rfl (c0_isWord (p := q1) (b := wNot) (d - 1) 0 (by omega) hp1.1 hp1.2.1 hi9.2.1 rfl) ⟨by show _ + 1 ≤ d; omega, by show _ ≤ k; omega⟩ rfl (Nat.le_of_ble_eq_true rfl) dX0_takeNot_11 (fun _ _ z => z.elim) (fun r h9 q => ?_)
        obtain ⟨rfl, hh⟩ := q
        rw [hh]
        refine zR_if_eq (tgt := 27) dX0_takeNot_14 (by decide) (by split <;> omega) (fun h14 => ?_) (fun h14 => ?_)
        · have n14 := ifF h14
          exact J27 (fun z => n14 z.2)
        · have y14 := ifT h14
          refine zV_aload_nr dX0_takeNot_17 rfl rfl ?_
          refine zV_callV (As := []) lk0_44 (rfl) rfl rfl (c0_advance (p := tB T n q1) (d - 1) 0 (by omega) hp1.1 hp1.2.1.2.1 tl.2.1) ⟨by show _ + 1 ≤ d; omega, by show _ ≤ k; omega⟩ rfl (Nat.le_of_ble_eq_true rfl) dX0_takeNot_18 (fun _ _ z => z.elim) (fun r h2 q => ?_)
          obtain ⟨rfl, fr, ht2⟩ := q
          have hE2 := emit_adv hu hE fr ht2
          refine zV_iinc dX0_takeNot_21 rfl (Nat.le_of_ble_eq_true rfl) rfl ?_
          refine zV_goto (tgt := 2) dX0_takeNot_24 (by decide) ?_
          exact ih (i + 1) (tB T n q1) h2 (by omega) (by omega) hE2 ⟨by have := (isW_k y14).2; have e3 : wNot.length = 3 := rfl; omega, tl.2.1, by omega⟩ (by
            rw [hN, show 6 - i = (6 - (i + 1)) + 1 by omega, ntF_s, if_pos y14]
            dsimp only
            rw [Nat.add_assoc, Nat.add_comm 1 i])
  exact L2 7 0 p h (by omega) (by omega) (emit_0 hp) ⟨by omega, hpn, Nat.le_refl _⟩ rfl
set_option maxRecDepth 100000 in
theorem c0_takeAnd {E : zE} {h : zH} {T : Nat → Int} {n u ru c p : Nat} {ex : Nat → zR} {w : Int} {d k : Nat} (he : ∀ p, p ≤ n → good n p (ex p)) (hp : pre h T n u ru c p) (hd : 9 ≤ d) (HP : ∀ (h : zH) (c p : Nat), pre h T n u ru c p → zCal E mX0_takeNot (d - 1) 0 [zrv E 14, ziv w] h (parQ h T n u ru c (notP T n (decide (ru = 0)) ex p)) (fun _ _ => False)) : zCal E mX0_takeAnd d k [zrv E 14, ziv w] h (parQ h T n u ru c (andP T n (decide (ru = 0)) ex p)) (fun _ _ => False) := by
  refine zCal_of (by decide) (Nat.le_of_ble_eq_true rfl) (fun a => ?_)
  show zV _ 0 0 [zrv E 14, ziv w, .null] [] _
  have hk := hp.1
  have hn7 := hk.2.2.1
  have hu := hk.2.2.2.2.1
  have hu9 : u = 2 ∨ u = 16 := hu
  have hpn := hp.2.2.1
  have hcp := hp.2.2.2.2.1
  have gs := good_not (T := T) (dr := (decide (ru = 0))) he
  refine zV_aload_nr dX0_takeAnd_0 rfl rfl ?_
  refine zV_iload_n dX0_takeAnd_1 rfl rfl ?_
  refine zV_callV (As := [ziv w]) lk0_189 (rfl) rfl rfl (HP h c p hp) ⟨by show _ + 1 ≤ d; omega, by show _ ≤ k; omega⟩ rfl (Nat.le_of_ble_eq_true rfl) dX0_takeAnd_2 (fun _ _ z => z.elim) (fun r h1 q => ?_)
  obtain ⟨v9, rfl, hv9, hbad, hok⟩ := parQ_v q
  refine zR_if_ne (tgt := 10) dX0_takeAnd_5 (by decide) (by omega) (fun h5 => ?_) (fun h5 => ?_)
  · obtain ⟨l0, b0, q0, hR0, hE0⟩ := hok h5
    have g0 := gs p hpn
    rw [hR0] at g0
    refine zV_iconst dX0_takeAnd_10 ?_
    refine zV_istore_n dX0_takeAnd_11 rfl (Nat.le_of_ble_eq_true rfl) rfl ?_
    have L12 : ∀ (m : Nat) (i : Nat) (l : List Int) (b : Bool) (q1 : Nat) (h1 : zH), (n + 1 ≤ i + m) → (emitd h T n u ru c l b q1 h1) → (i ≤ q1 ∧ q1 ≤ n) → (p + l.length ≤ q1 ∧ p < q1) → (andP T n (decide (ru = 0)) ex p = loopP T n (opAnd T n) (notP T n (decide (ru = 0)) ex) (n + 1 - i) l b q1) → zV (E, mX0_takeAnd, d, k, (parQ h T n u ru c (andP T n (decide (ru = 0)) ex p)), (fun _ _ => False), a) 0 12 [zrv E 14, ziv w, ziv (i : Int)] [] h1 := by
      intro m
      induction m with
      | zero => intro i l b q1 h1 hm_ hE hi9 hl9 hR; exfalso; omega
      | succ m ih =>
        intro i l b q1 h1 hm_ hE hi9 hl9 hR
        have hp1 := pre_e hp hE (by omega) hi9.2
        have tl := tB_lo (T := T) hi9.2
        have ta := tA_lo (T := T) hi9.2
        have hR1 : opAnd T n q1 = 0 → andP T n (decide (ru = 0)) ex p = .inr (l, b, q1) := fun z => by rw [hR, show n + 1 - i = (n - i) + 1 by omega, loopP_s, if_pos z]
        refine zV_iload_n dX0_takeAnd_12 rfl rfl ?_
        refine zV_aload_nr dX0_takeAnd_13 rfl rfl ?_
        refine gf0_31 rfl rfl dX0_takeAnd_14 ?_
        rw [hp1.1.2.1]
        refine zR_icmp_ge (tgt := 58) dX0_takeAnd_17 (by decide) (by omega) (by omega) (fun h17 => ?_) (fun h17 => ?_)
        · refine zV_iconst dX0_takeAnd_58 ?_
          exact zV_zreturn dX0_takeAnd_59 rfl (Or.inr rfl) (Nat.zero_le _) (by rw [hR1 ((op_0 (tK_end (by omega))).2.2.1)]; exact ⟨rfl, hE⟩)
        · refine zV_aload_nr dX0_takeAnd_20 rfl rfl ?_
          refine zV_lds (i := 19) rfl rfl dX0_takeAnd_21 ?_
          refine zV_callV (As := [.ref (eK E 19)]) lk0_100 (rfl) rfl rfl (c0_isWord (p := q1) (b := wAnd) (d - 1) 0 (by omega) hp1.1 hp1.2.1 hi9.2 rfl) ⟨by show _ + 1 ≤ d; omega, by show _ ≤ k; omega⟩ rfl (Nat.le_of_ble_eq_true rfl) dX0_takeAnd_23 (fun _ _ z => z.elim) (fun r h9 q => ?_)
          obtain ⟨rfl, hh⟩ := q
          rw [hh]
          refine zR_if_eq (tgt := 58) dX0_takeAnd_26 (by decide) (by split <;> omega) (fun h26 => ?_) (fun h26 => ?_)
          · have n26 := ifF h26
            refine zV_iconst dX0_takeAnd_58 ?_
            exact zV_zreturn dX0_takeAnd_59 rfl (Or.inr rfl) (Nat.zero_le _) (by rw [hR1 (by unfold opAnd; rw [if_neg n26])]; exact ⟨rfl, hE⟩)
          · have y26 := ifT h26
            have hop : opAnd T n q1 = -2 := by unfold opAnd; rw [if_pos y26]
            have hop0 : opAnd T n q1 ≠ 0 := by rw [hop]; decide
            have tkn : tK T n q1 ≠ 0 := by rw [(isW_k y26).1]; decide
            have tlt := tl.2.2 tkn
            refine zV_aload_nr dX0_takeAnd_29 rfl rfl ?_
            refine zV_callV (As := []) lk0_44 (rfl) rfl rfl (c0_advance (p := tB T n q1) (d - 1) 0 (by omega) hp1.1 hp1.2.1.2.1 tl.2.1) ⟨by show _ + 1 ≤ d; omega, by show _ ≤ k; omega⟩ rfl (Nat.le_of_ble_eq_true rfl) dX0_takeAnd_30 (fun _ _ z => z.elim) (fun r h2 q => ?_)
            obtain ⟨rfl, fr, ht2⟩ := q
            have hE2 := emit_adv hu hE fr ht2
            have hp2 := pre_e hp hE2 (by omega) tl.2.1
            refine zV_aload_nr dX0_takeAnd_33 rfl rfl ?_
            refine zV_iload_n dX0_takeAnd_34 rfl rfl ?_
            refine zV_callV (As := [ziv w]) lk0_189 (rfl) rfl rfl (HP h2 (c + l.length) (tB T n q1) hp2) ⟨by show _ + 1 ≤ d; omega, by show _ ≤ k; omega⟩ rfl (Nat.le_of_ble_eq_true rfl) dX0_takeAnd_35 (fun _ _ z => z.elim) (fun r h3 q => ?_)
            obtain ⟨v9, rfl, hv9, hbad, hok⟩ := parQ_v q
            refine zR_if_ne (tgt := 43) dX0_takeAnd_38 (by decide) (by omega) (fun h38 => ?_) (fun h38 => ?_)
            · obtain ⟨l2, b2, q2, hR2, hE2b⟩ := hok h38
              have g2 := gs (tB T n q1) tl.2.1
              rw [hR2] at g2
              have hE3 := emit_cat hE2 hE2b
              have hp3 := pre_e hp hE3 (by have := g2.1; rw [List.length_append]; omega) g2.2.2
              have g21 : tB T n q1 + l2.length ≤ q2 := g2.1
              have g22 : q2 ≤ n := g2.2.2
              have g23 : tB T n q1 < q2 := g2.2.1
              have ll : (l ++ l2).length = l.length + l2.length := List.length_append
              refine zV_aload_nr dX0_takeAnd_43 rfl rfl ?_
              refine gf0_18 (t := u) (hp3.1.2.2.2.1) rfl (rfl) dX0_takeAnd_44 ?_
              refine zV_bipush dX0_takeAnd_47 (by decide) ?_
              refine zV_callV (As := [ziv (-2)]) lk0_185 (court_0 hu) rfl rfl (c1_addStep (d - 1) 0 hu hE3.2.2.2.1 (by omega)) ⟨by show _ + 1 ≤ d; omega, by show _ ≤ k; omega⟩ rfl (Nat.le_of_ble_eq_true rfl) dX0_takeAnd_49 (fun _ _ z => z.elim) (fun r h4 q => ?_)
              obtain ⟨rfl, hh⟩ := q
              rw [hh]
              refine zV_iinc dX0_takeAnd_52 rfl (Nat.le_of_ble_eq_true rfl) rfl ?_
              refine zV_goto (tgt := 12) dX0_takeAnd_55 (by decide) ?_
              refine ih (i + 1) (l ++ (l2 ++ [-2])) (b || b2) q2 _ (by omega) ?_ ⟨by omega, g2.2.2⟩ ⟨by simp only [List.length_append, List.length_cons, List.length_nil]; omega, by omega⟩ (by rw [hR, show n + 1 - i = (n + 1 - (i + 1)) + 1 by omega, loopP_s, if_neg hop0, hR2, hop]; rfl)
              have := emit_step (v := (-2)) hu hE3
              rw [List.append_assoc] at this
              rw [show c + (l ++ l2).length = c + l.length + l2.length by omega] at this ⊢
              exact this
            · obtain ⟨ke, q2, hR2, hB2⟩ := hbad h38
              refine zV_iconst dX0_takeAnd_41 ?_
              exact zV_zreturn dX0_takeAnd_42 rfl (Or.inl rfl) (Nat.zero_le _) (by rw [hR, show n + 1 - i = (n - i) + 1 by omega, loopP_s, if_neg hop0, hR2]; exact ⟨rfl, bad_cat hE2 hB2⟩)
    exact L12 (n + 1) 0 l0 b0 q0 _ (by omega) hE0 ⟨by omega, g0.2.2⟩ ⟨g0.1, g0.2.1⟩ (by unfold andP; rw [hR0]; rfl)
  · obtain ⟨ke, q0, hR0, hB0⟩ := hbad h5
    refine zV_iconst dX0_takeAnd_8 ?_
    exact zV_zreturn dX0_takeAnd_9 rfl (Or.inl rfl) (Nat.zero_le _) (by unfold andP; rw [hR0]; exact ⟨rfl, hB0⟩)
set_option maxRecDepth 100000 in
theorem c0_takeExpr1 {E : zE} {h : zH} {T : Nat → Int} {n u ru c p : Nat} {ex : Nat → zR} {w : Int} {d k : Nat} (he : ∀ p, p ≤ n → good n p (ex p)) (hp : pre h T n u ru c p) (hw : 0 ≤ w ∧ w < 6) (hd : 9 ≤ d) (HP : ∀ (h : zH) (c p : Nat), pre h T n u ru c p → zCal E mX0_takeAnd (d - 1) 0 [zrv E 14, ziv w] h (parQ h T n u ru c (andP T n (decide (ru = 0)) ex p)) (fun _ _ => False)) : zCal E mX0_takeExpr d k [zrv E 14, ziv w] h (parQ h T n u ru c (orP T n (decide (ru = 0)) ex p)) (fun _ _ => False) := by
  refine zCal_of (by decide) (Nat.le_of_ble_eq_true rfl) (fun a => ?_)
  show zV _ 0 0 [zrv E 14, ziv w, .null] [] _
  have hk := hp.1
  have hn7 := hk.2.2.1
  have hu := hk.2.2.2.2.1
  have hu9 : u = 2 ∨ u = 16 := hu
  have hpn := hp.2.2.1
  have hcp := hp.2.2.2.2.1
  have gs := good_and (T := T) (dr := (decide (ru = 0))) he
  refine zV_iload_n dX0_takeExpr_0 rfl rfl ?_
  refine zV_bipush dX0_takeExpr_1 (by decide) ?_
  refine zR_icmp_lt (tgt := 41) dX0_takeExpr_3 (by decide) (by omega) (by omega) (fun h3 => ?_) (fun h3 => ?_)
  · refine zV_aload_nr dX0_takeExpr_41 rfl rfl ?_
    refine zV_iload_n dX0_takeExpr_42 rfl rfl ?_
    refine zV_callV (As := [ziv w]) lk0_180 (rfl) rfl rfl (HP h c p hp) ⟨by show _ + 1 ≤ d; omega, by show _ ≤ k; omega⟩ rfl (Nat.le_of_ble_eq_true rfl) dX0_takeExpr_43 (fun _ _ z => z.elim) (fun r h1 q => ?_)
    obtain ⟨v9, rfl, hv9, hbad, hok⟩ := parQ_v q
    refine zR_if_ne (tgt := 51) dX0_takeExpr_46 (by decide) (by omega) (fun h46 => ?_) (fun h46 => ?_)
    · obtain ⟨l0, b0, q0, hR0, hE0⟩ := hok h46
      have g0 := gs p hpn
      rw [hR0] at g0
      refine zV_iconst dX0_takeExpr_51 ?_
      refine zV_istore_n dX0_takeExpr_52 rfl (Nat.le_of_ble_eq_true rfl) rfl ?_
      have L53 : ∀ (m : Nat) (i : Nat) (l : List Int) (b : Bool) (q1 : Nat) (h1 : zH), (n + 1 ≤ i + m) → (emitd h T n u ru c l b q1 h1) → (i ≤ q1 ∧ q1 ≤ n) → (p + l.length ≤ q1 ∧ p < q1) → (orP T n (decide (ru = 0)) ex p = loopP T n (opOr T n) (andP T n (decide (ru = 0)) ex) (n + 1 - i) l b q1) → zV (E, mX0_takeExpr, d, k, (parQ h T n u ru c (orP T n (decide (ru = 0)) ex p)), (fun _ _ => False), a) 0 53 [zrv E 14, ziv w, ziv (i : Int)] [] h1 := by
        intro m
        induction m with
        | zero => intro i l b q1 h1 hm_ hE hi9 hl9 hR; exfalso; omega
        | succ m ih =>
          intro i l b q1 h1 hm_ hE hi9 hl9 hR
          have hp1 := pre_e hp hE (by omega) hi9.2
          have tl := tB_lo (T := T) hi9.2
          have ta := tA_lo (T := T) hi9.2
          have hR1 : opOr T n q1 = 0 → orP T n (decide (ru = 0)) ex p = .inr (l, b, q1) := fun z => by rw [hR, show n + 1 - i = (n - i) + 1 by omega, loopP_s, if_pos z]
          refine zV_iload_n dX0_takeExpr_53 rfl rfl ?_
          refine zV_aload_nr dX0_takeExpr_54 rfl rfl ?_
          refine gf0_31 rfl rfl dX0_takeExpr_55 ?_
          rw [hp1.1.2.1]
          refine zR_icmp_ge (tgt := 98) dX0_takeExpr_58 (by decide) (by omega) (by omega) (fun h58 => ?_) (fun h58 => ?_)
          · refine zV_iconst dX0_takeExpr_98 ?_
            exact zV_zreturn dX0_takeExpr_99 rfl (Or.inr rfl) (Nat.zero_le _) (by rw [hR1 ((op_0 (tK_end (by omega))).2.2.2.1)]; exact ⟨rfl, hE⟩)
          · refine zV_aload_nr dX0_takeExpr_61 rfl rfl ?_
            refine zV_lds (i := 18) rfl rfl dX0_takeExpr_62 ?_
            refine zV_callV (As := [.ref (eK E 18)]) lk0_100 (rfl) rfl rfl (c0_isWord (p := q1) (b := wOr) (d - 1) 0 (by omega) hp1.1 hp1.2.1 hi9.2 rfl) ⟨by show _ + 1 ≤ d; omega, by show _ ≤ k; omega⟩ rfl (Nat.le_of_ble_eq_true rfl) dX0_takeExpr_64 (fun _ _ z => z.elim) (fun r h9 q => ?_)
            obtain ⟨rfl, hh⟩ := q
            rw [hh]
            refine zR_if_eq (tgt := 98) dX0_takeExpr_67 (by decide) (by split <;> omega) (fun h67 => ?_) (fun h67 => ?_)
            · have n26 := ifF h67
              refine zV_iconst dX0_takeExpr_98 ?_
              exact zV_zreturn dX0_takeExpr_99 rfl (Or.inr rfl) (Nat.zero_le _) (by rw [hR1 (by unfold opOr; rw [if_neg n26])]; exact ⟨rfl, hE⟩)
            · have y26 := ifT h67
              have hop : opOr T n q1 = -1 := by unfold opOr; rw [if_pos y26]
              have hop0 : opOr T n q1 ≠ 0 := by rw [hop]; decide
              have tkn : tK T n q1 ≠ 0 := by rw [(isW_k y26).1]; decide
              have tlt := tl.2.2 tkn
              refine zV_aload_nr dX0_takeExpr_70 rfl rfl ?_
              refine zV_callV (As := []) lk0_44 (rfl) rfl rfl (c0_advance (p := tB T n q1) (d - 1) 0 (by omega) hp1.1 hp1.2.1.2.1 tl.2.1) ⟨by show _ + 1 ≤ d; omega, by show _ ≤ k; omega⟩ rfl (Nat.le_of_ble_eq_true rfl) dX0_takeExpr_71 (fun _ _ z => z.elim) (fun r h2 q => ?_)
              obtain ⟨rfl, fr, ht2⟩ := q
              have hE2 := emit_adv hu hE fr ht2
              have hp2 := pre_e hp hE2 (by omega) tl.2.1
              refine zV_aload_nr dX0_takeExpr_74 rfl rfl ?_
              refine zV_iload_n dX0_takeExpr_75 rfl rfl ?_
              refine zV_callV (As := [ziv w]) lk0_180 (rfl) rfl rfl (HP h2 (c + l.length) (tB T n q1) hp2) ⟨by show _ + 1 ≤ d; omega, by show _ ≤ k; omega⟩ rfl (Nat.le_of_ble_eq_true rfl) dX0_takeExpr_76 (fun _ _ z => z.elim) (fun r h3 q => ?_)
              obtain ⟨v9, rfl, hv9, hbad, hok⟩ := parQ_v q
              refine zR_if_ne (tgt := 84) dX0_takeExpr_79 (by decide) (by omega) (fun h79 => ?_) (fun h79 => ?_)
              · obtain ⟨l2, b2, q2, hR2, hE2b⟩ := hok h79
                have g2 := gs (tB T n q1) tl.2.1
                rw [hR2] at g2
                have hE3 := emit_cat hE2 hE2b
                have hp3 := pre_e hp hE3 (by have := g2.1; rw [List.length_append]; omega) g2.2.2
                have g21 : tB T n q1 + l2.length ≤ q2 := g2.1
                have g22 : q2 ≤ n := g2.2.2
                have g23 : tB T n q1 < q2 := g2.2.1
                have ll : (l ++ l2).length = l.length + l2.length := List.length_append
                refine zV_aload_nr dX0_takeExpr_84 rfl rfl ?_
                refine gf0_18 (t := u) (hp3.1.2.2.2.1) rfl (rfl) dX0_takeExpr_85 ?_
                refine zV_iconst dX0_takeExpr_88 ?_
                refine zV_callV (As := [ziv (-1)]) lk0_185 (court_0 hu) rfl rfl (c1_addStep (d - 1) 0 hu hE3.2.2.2.1 (by omega)) ⟨by show _ + 1 ≤ d; omega, by show _ ≤ k; omega⟩ rfl (Nat.le_of_ble_eq_true rfl) dX0_takeExpr_89 (fun _ _ z => z.elim) (fun r h4 q => ?_)
                obtain ⟨rfl, hh⟩ := q
                rw [hh]
                refine zV_iinc dX0_takeExpr_92 rfl (Nat.le_of_ble_eq_true rfl) rfl ?_
                refine zV_goto (tgt := 53) dX0_takeExpr_95 (by decide) ?_
                refine ih (i + 1) (l ++ (l2 ++ [-1])) (b || b2) q2 _ (by omega) ?_ ⟨by omega, g2.2.2⟩ ⟨by simp only [List.length_append, List.length_cons, List.length_nil]; omega, by omega⟩ (by rw [hR, show n + 1 - i = (n + 1 - (i + 1)) + 1 by omega, loopP_s, if_neg hop0, hR2, hop]; rfl)
                have := emit_step (v := (-1)) hu hE3
                rw [List.append_assoc] at this
                rw [show c + (l ++ l2).length = c + l.length + l2.length by omega] at this ⊢
                exact this
              · obtain ⟨ke, q2, hR2, hB2⟩ := hbad h79
                refine zV_iconst dX0_takeExpr_82 ?_
                exact zV_zreturn dX0_takeExpr_83 rfl (Or.inl rfl) (Nat.zero_le _) (by rw [hR, show n + 1 - i = (n - i) + 1 by omega, loopP_s, if_neg hop0, hR2]; exact ⟨rfl, bad_cat hE2 hB2⟩)
      exact L53 (n + 1) 0 l0 b0 q0 _ (by omega) hE0 ⟨by omega, g0.2.2⟩ ⟨g0.1, g0.2.1⟩ (by unfold orP; rw [hR0]; rfl)
    · obtain ⟨ke, q0, hR0, hB0⟩ := hbad h46
      refine zV_iconst dX0_takeExpr_49 ?_
      exact zV_zreturn dX0_takeExpr_50 rfl (Or.inl rfl) (Nat.zero_le _) (by unfold orP; rw [hR0]; exact ⟨rfl, hB0⟩)
  · exact absurd h3 (by omega)
set_option maxRecDepth 100000 in
theorem c0_takeExpr0 {E : zE} {h : zH} {T : Nat → Int} {n u ru c p : Nat} {w : Int} {d k : Nat} (hp : pre h T n u ru c p) (hw : 6 ≤ w ∧ w ≤ 100) (hd : 9 ≤ d) : zCal E mX0_takeExpr d k [zrv E 14, ziv w] h (parQ h T n u ru c (exprP T n (decide (ru = 0)) 0 p)) (fun _ _ => False) := by
  refine zCal_of (by decide) (Nat.le_of_ble_eq_true rfl) (fun a => ?_)
  show zV _ 0 0 [zrv E 14, ziv w, .null] [] _
  have hk := hp.1
  have hn7 := hk.2.2.1
  have hu := hk.2.2.2.2.1
  have hu9 : u = 2 ∨ u = 16 := hu
  have hpn := hp.2.2.1
  have hcp := hp.2.2.2.2.1
  have ht := hp.2.1
  have kl := tK_lo T n p
  refine zV_iload_n dX0_takeExpr_0 rfl rfl ?_
  refine zV_bipush dX0_takeExpr_1 (by decide) ?_
  refine zR_icmp_lt (tgt := 41) dX0_takeExpr_3 (by decide) (by omega) (by omega) (fun h3 => ?_) (fun h3 => ?_)
  · exact absurd h3 (by omega)
  · refine zV_aload_nr dX0_takeExpr_6 rfl rfl ?_
    refine zV_aload_nr dX0_takeExpr_7 rfl rfl ?_
    have J37 : ∀ (ke : Int), (ke = if tK T n p = 2 ∨ tK T n p = 1 ∨ isS T n p 40 = true then 2 else 1) → zV (E, mX0_takeExpr, d, k, (parQ h T n u ru c (exprP T n (decide (ru = 0)) 0 p)), (fun _ _ => False), a) 0 37 [zrv E 14, ziv w, .null] [ziv ke, zrv E 14] h := by
      intro ke hke
      refine zV_callV (As := [ziv ke]) lk0_92 (rfl) rfl rfl (c0_refuse (d - 1) 0) ⟨by show _ + 1 ≤ d; omega, by show _ ≤ k; omega⟩ rfl (Nat.le_of_ble_eq_true rfl) dX0_takeExpr_37 (fun _ _ z => z.elim) (fun r h9 q => ?_)
      obtain ⟨rfl, hh⟩ := q
      exact zV_zreturn dX0_takeExpr_40 rfl (Or.inl rfl) (Nat.zero_le _) ⟨rfl, by rw [hh, ← hke]; exact bad_0 ht⟩
    refine gf0_47 rfl rfl dX0_takeExpr_8 ?_
    refine zV_iconst dX0_takeExpr_11 ?_
    rw [ht.2.2.1]
    refine zR_icmp_eq (tgt := 32) dX0_takeExpr_12 (by decide) (by omega) (by omega) (fun h12 => ?_) (fun h12 => ?_)
    · refine zV_iconst dX0_takeExpr_32 ?_
      refine zV_goto (tgt := 37) dX0_takeExpr_33 (by decide) ?_
      exact J37 _ (by rw [if_pos (Or.inl h12)])
    · refine zV_aload_nr dX0_takeExpr_15 rfl rfl ?_
      refine gf0_47 rfl rfl dX0_takeExpr_16 ?_
      refine zV_iconst dX0_takeExpr_19 ?_
      rw [ht.2.2.1]
      refine zR_icmp_eq (tgt := 32) dX0_takeExpr_20 (by decide) (by omega) (by omega) (fun h20 => ?_) (fun h20 => ?_)
      · refine zV_iconst dX0_takeExpr_32 ?_
        refine zV_goto (tgt := 37) dX0_takeExpr_33 (by decide) ?_
        exact J37 _ (by rw [if_pos (Or.inr (Or.inl h20))])
      · refine zV_aload_nr dX0_takeExpr_23 rfl rfl ?_
        refine zV_bipush dX0_takeExpr_24 (by decide) ?_
        refine zV_callV (As := [ziv 40]) lk0_89 (rfl) rfl rfl (c0_isSign (p := p) (d - 1) 0 hp.1 hp.2.1 (by decide)) ⟨by show _ + 1 ≤ d; omega, by show _ ≤ k; omega⟩ rfl (Nat.le_of_ble_eq_true rfl) dX0_takeExpr_26 (fun _ _ z => z.elim) (fun r h9 q => ?_)
        obtain ⟨rfl, hh⟩ := q
        rw [hh]
        refine zR_if_eq (tgt := 36) dX0_takeExpr_29 (by decide) (by split <;> omega) (fun h29 => ?_) (fun h29 => ?_)
        · have n29 := ifF h29
          refine zV_iconst dX0_takeExpr_36 ?_
          exact J37 _ (by rw [if_neg (by rintro (z | z | z); exact h12 z; exact h20 z; exact n29 z)])
        · have y29 := ifT h29
          refine zV_iconst dX0_takeExpr_32 ?_
          refine zV_goto (tgt := 37) dX0_takeExpr_33 (by decide) ?_
          exact J37 _ (by rw [if_pos (Or.inr (Or.inr y29))])
theorem c0_takeExpr {E : zE} {T : Nat → Int} {n u ru : Nat} : ∀ (j d k : Nat) (h : zH) (c p w : Nat), w + j = 6 → 7 * j + 9 ≤ d → pre h T n u ru c p → zCal E mX0_takeExpr d k [zrv E 14, ziv (w : Int)] h (parQ h T n u ru c (exprP T n (decide (ru = 0)) j p)) (fun _ _ => False) := by
  intro j
  induction j with
  | zero => intro d k h c p w hw hd hp; exact c0_takeExpr0 hp (by omega) (by omega)
  | succ j ih =>
    intro d k h c p w hw hd hp
    have he : ∀ p, p ≤ n → good n p (exprP T n (decide (ru = 0)) j p) := fun p hp => good_expr j p hp
    show zCal E mX0_takeExpr d k [zrv E 14, ziv (w : Int)] h (parQ h T n u ru c (orP T n (decide (ru = 0)) (exprP T n (decide (ru = 0)) j) p)) (fun _ _ => False)
    refine c0_takeExpr1 he hp (by omega) (by omega) (fun h c p hp => ?_)
    refine c0_takeAnd he hp (by omega) (fun h c p hp => ?_)
    refine c0_takeNot he hp (by omega) (fun h c p hp => ?_)
    refine c0_takeTest he hp (by omega) (fun h c p hp => ?_)
    refine c0_takeSum he hp (by omega) (fun h c p hp => ?_)
    refine c0_takeProduct he hp (by omega) (fun h c p hp => ?_)
    refine c0_takePart he hp (by omega) (fun h c p hp => ?_)
    exact ih _ 0 h c p (w + 1) (by omega) (by omega) hp

