/-! THE DOCKET -/
def opened (h : zH) (c t : Nat) (h' : zH) : Prop := (∀ c2 : Nat, c2 ≠ c → c2 ≠ c + 1 → c2 ≠ c + 2 → c2 ≠ c + 3 → c2 ≠ c + 4 → h' c2 = h c2) ∧ agn 8 (h' (c + 1)) (h (t + 1)) ∧ agn 8 (h' (c + 2)) (h (t + 3)) ∧ agn 8 (h' (c + 3)) (h (t + 4)) ∧ (∀ j, j < 8 → h' (c + 4) j = (j : Int)) ∧ h' c 5 = h t 8 ∧ h' c 6 = 0 ∧ h' c 7 = -1 ∧ h' c 8 = h c 8
/-- the cup 32 saved in the row 38 from f on -/
def saved (h : zH) (f : Nat) (h' : zH) : Prop := (∀ c2 : Nat, c2 ≠ 38 → h' c2 = h c2) ∧ (∀ i, i < 8 → h' 38 (f + i) = h 33 i) ∧ (∀ i, i < 8 → h' 38 (f + 8 + i) = h 35 i) ∧ (∀ i, i < 8 → h' 38 (f + 16 + i) = h 36 i) ∧ h' 38 (f + 24) = h 32 5 ∧ h' 38 (f + 25) = h 32 6 ∧ h' 38 (f + 26) = h 32 7 ∧ ∀ i, (i < f ∨ f + 27 ≤ i) → h' 38 i = h 38 i
def loaded (h : zH) (f : Nat) (h' : zH) : Prop := (∀ c2 : Nat, c2 ≠ 32 → c2 ≠ 33 → c2 ≠ 35 → c2 ≠ 36 → h' c2 = h c2) ∧ (∀ i, i < 8 → h' 33 i = h 38 (f + i)) ∧ (∀ i, i < 8 → h' 35 i = h 38 (f + 8 + i)) ∧ (∀ i, i < 8 → h' 36 i = h 38 (f + 16 + i)) ∧ h' 32 5 = h 38 (f + 24) ∧ h' 32 6 = h 38 (f + 25) ∧ h' 32 7 = h 38 (f + 26) ∧ h' 32 8 = h 32 8
theorem lk3_46 : Cond.methodLink RX3 46 arraycopyName ∈ zTs := zTs_of (by decide +kernel) rfl

set_option maxRecDepth 100000 in
theorem c2_opn {E : zE} {h : zH} {c t : Nat} (d k : Nat) (hc : isCup c) (ht : isCourt t) : zCal E mX2_open d k [zrv E c, zrv E t] h (fun r h' => r = none ∧ opened h c t h') (fun _ _ => False) := by
  refine zCal_of (by decide) (Nat.le_of_ble_eq_true rfl) (fun a => ?_)
  show zV _ 0 0 [zrv E c, zrv E t, .null] [] _
  have hc9 : c = 32 ∨ c = 43 ∨ c = 53 := hc
  have ht9 : t = 2 ∨ t = 16 := ht
  refine zV_iconst dX2_open_0 ?_
  refine zV_istore_n dX2_open_1 rfl (Nat.le_of_ble_eq_true rfl) rfl ?_
  have L2 : ∀ (m : Nat) (s : Nat) (h1 : zH), (9 ≤ s + m) → (s ≤ 8) → (∀ c2 : Nat, c2 ≠ c + 1 → h1 c2 = h c2) → (agn s (h1 (c + 1)) (h (t + 1))) → zV (E, mX2_open, d, k, (fun r h' => r = none ∧ opened h c t h'), (fun _ _ => False), a) 0 2 [zrv E c, zrv E t, ziv (s : Int)] [] h1 := by
    intro m
    induction m with
    | zero => intro s h1 hm_ hsn hag g1; exfalso; omega
    | succ m ih =>
      intro s h1 hm_ hsn hag g1
      refine zV_iload_n dX2_open_2 rfl rfl ?_
      refine zV_bipush dX2_open_3 (by decide) ?_
      refine zR_icmp_ge (tgt := 26) dX2_open_5 (by decide) (by omega) (by omega) (fun h5 => ?_) (fun h5 => ?_)
      · refine zV_iconst dX2_open_26 ?_
        refine zV_istore_n dX2_open_27 rfl (Nat.le_of_ble_eq_true rfl) rfl ?_
        have L28 : ∀ (m : Nat) (s : Nat) (h1 : zH), (9 ≤ s + m) → (s ≤ 8) → (∀ c2 : Nat, c2 ≠ c + 1 → c2 ≠ c + 2 → c2 ≠ c + 3 → c2 ≠ c + 4 → h1 c2 = h c2) → (agn 8 (h1 (c + 1)) (h (t + 1))) → (agn s (h1 (c + 2)) (h (t + 3))) → (agn s (h1 (c + 3)) (h (t + 4))) → (∀ j, j < s → h1 (c + 4) j = (j : Int)) → zV (E, mX2_open, d, k, (fun r h' => r = none ∧ opened h c t h'), (fun _ _ => False), a) 0 28 [zrv E c, zrv E t, ziv (s : Int)] [] h1 := by
          intro m
          induction m with
          | zero => intro s h1 hm_ hsn hag g1 g2 g3 g4; exfalso; omega
          | succ m ih =>
            intro s h1 hm_ hsn hag g1 g2 g3 g4
            refine zV_iload_n dX2_open_28 rfl rfl ?_
            refine zV_bipush dX2_open_29 (by decide) ?_
            refine zR_icmp_ge (tgt := 71) dX2_open_31 (by decide) (by omega) (by omega) (fun h31 => ?_) (fun h31 => ?_)
            · have e : s = 8 := by omega
              subst e
              have et : h1 t = h t := hag t (by omega) (by omega) (by omega) (by omega)
              have ec : h1 c = h c := hag c (by omega) (by omega) (by omega) (by omega)
              refine zV_aload_nr dX2_open_71 rfl rfl ?_
              refine zV_aload_nr dX2_open_72 rfl rfl ?_
              refine gf2_39 rfl (court_0 ht) dX2_open_73 ?_
              refine pf2_27 rfl (cup_0 hc) dX2_open_76 ?_
              refine zV_aload_nr dX2_open_79 rfl rfl ?_
              refine zV_iconst dX2_open_80 ?_
              refine pf2_40 rfl (cup_0 hc) dX2_open_81 ?_
              refine zV_aload_nr dX2_open_84 rfl rfl ?_
              refine zV_iconst dX2_open_85 ?_
              refine pf2_31 rfl (cup_0 hc) dX2_open_86 ?_
              exact zV_vreturn dX2_open_89 rfl (Nat.zero_le _) ⟨rfl, fun c2 a0 a1 a2 a3 a4 => by rw [zup_fn a0, zup_fn a0, zup_fn a0]; exact hag c2 a1 a2 a3 a4, by rw [zup_fn (by omega), zup_fn (by omega), zup_fn (by omega)]; exact g1, by rw [zup_fn (by omega), zup_fn (by omega), zup_fn (by omega)]; exact g2, by rw [zup_fn (by omega), zup_fn (by omega), zup_fn (by omega)]; exact g3, by rw [zup_fn (by omega), zup_fn (by omega), zup_fn (by omega)]; exact g4, by simp [zup_at, et], by simp [zup_at], by simp [zup_at], by simp [zup_at, ec]⟩
            · refine zV_aload_nr dX2_open_34 rfl rfl ?_
              refine gf2_15 rfl (cup_0 hc) dX2_open_35 ?_
              refine zV_iload_n dX2_open_38 rfl rfl ?_
              refine zV_aload_nr dX2_open_39 rfl rfl ?_
              refine gf2_37 rfl (court_0 ht) dX2_open_40 ?_
              refine zV_iload_n dX2_open_43 rfl rfl ?_
              refine zV_ialoadN (i := s) (N := 8) (court_3 ht) (by omega) (by decide) dX2_open_44 ?_
              refine zV_iastoreN (i := s) (N := 8) (cup_2 hc) (by omega) (by decide) dX2_open_45 ?_
              refine zV_aload_nr dX2_open_46 rfl rfl ?_
              refine gf2_18 rfl (cup_0 hc) dX2_open_47 ?_
              refine zV_iload_n dX2_open_50 rfl rfl ?_
              refine zV_aload_nr dX2_open_51 rfl rfl ?_
              refine gf2_38 rfl (court_0 ht) dX2_open_52 ?_
              refine zV_iload_n dX2_open_55 rfl rfl ?_
              refine zV_ialoadN (i := s) (N := 8) (court_4 ht) (by omega) (by decide) dX2_open_56 ?_
              refine zV_iastoreN (i := s) (N := 8) (cup_3 hc) (by omega) (by decide) dX2_open_57 ?_
              refine zV_aload_nr dX2_open_58 rfl rfl ?_
              refine gf2_21 rfl (cup_0 hc) dX2_open_59 ?_
              refine zV_iload_n dX2_open_62 rfl rfl ?_
              refine zV_iload_n dX2_open_63 rfl rfl ?_
              refine zV_iastoreN (i := s) (N := 8) (cup_4 hc) (by omega) (by decide) dX2_open_64 ?_
              refine zV_iinc dX2_open_65 rfl (Nat.le_of_ble_eq_true rfl) rfl ?_
              refine zV_goto (tgt := 28) dX2_open_68 (by decide) ?_
              exact ih (s + 1) _ (by omega) (by omega) (fun c2 a b e f => by rw [zup_fn f, zup_fn e, zup_fn b]; exact hag c2 a b e f) (by rw [zup_fn (by omega), zup_fn (by omega), zup_fn (by omega)]; exact g1)
                (fun i hi => by
                  rw [zup_fn (by omega), zup_fn (by omega), zup_at]
                  by_cases e : i = s
                  · rw [if_pos e, e, hag (t + 3) (by omega) (by omega) (by omega) (by omega)]
                  · rw [if_neg e]; exact g2 i (by omega))
                (fun i hi => by
                  rw [zup_fn (by omega), zup_at]
                  by_cases e : i = s
                  · rw [if_pos e, e, zup_fn (by omega), hag (t + 4) (by omega) (by omega) (by omega) (by omega)]
                  · rw [if_neg e, zup_fn (by omega)]; exact g3 i (by omega))
                (fun i hi => by
                  rw [zup_at]
                  by_cases e : i = s
                  · rw [if_pos e, e]
                  · rw [if_neg e, zup_fn (by omega), zup_fn (by omega)]; exact g4 i (by omega))
        exact L28 9 0 _ (by omega) (by omega) (fun c2 a _ _ _ => hag c2 a) (by rw [show (8 : Nat) = s by omega]; exact g1) (fun i hi => absurd hi (by omega)) (fun i hi => absurd hi (by omega)) (fun i hi => absurd hi (by omega))
      · refine zV_aload_nr dX2_open_8 rfl rfl ?_
        refine gf2_9 rfl (cup_0 hc) dX2_open_9 ?_
        refine zV_iload_n dX2_open_12 rfl rfl ?_
        refine zV_aload_nr dX2_open_13 rfl rfl ?_
        refine gf2_34 rfl (court_0 ht) dX2_open_14 ?_
        refine zV_iload_n dX2_open_17 rfl rfl ?_
        refine zV_ialoadN (i := s) (N := 8) (court_1 ht) (by omega) (by decide) dX2_open_18 ?_
        refine zV_iastoreN (i := s) (N := 8) (cup_1 hc) (by omega) (by decide) dX2_open_19 ?_
        refine zV_iinc dX2_open_20 rfl (Nat.le_of_ble_eq_true rfl) rfl ?_
        refine zV_goto (tgt := 2) dX2_open_23 (by decide) ?_
        exact ih (s + 1) _ (by omega) (by omega) (fun c2 a => by rw [zup_fn a]; exact hag c2 a) (fun i hi => if e : i = s then (by rw [zup_at, if_pos e, e, hag (t + 1) (by omega)]) else (by rw [zup_at, if_neg e]; exact g1 i (by omega)))
  exact L2 9 0 h (by omega) (by omega) (fun _ _ => rfl) (fun i hi => absurd hi (by omega))
set_option maxRecDepth 100000 in
theorem c2_save {E : zE} {h : zH} {f : Nat} (d k : Nat) (hd : 1 ≤ d) (hf : f + 27 ≤ 1080) : zCal E mX2_save d k [zrv E 32, zrv E 38, ziv (f : Int)] h (fun r h' => r = none ∧ saved h f h') (fun _ _ => False) := by
  refine zCal_of (by decide) (Nat.le_of_ble_eq_true rfl) (fun a => ?_)
  show zV _ 0 0 [zrv E 32, zrv E 38, ziv (f : Int)] [] _
  refine zV_iload_n dX2_save_0 rfl rfl ?_
  refine zR_if_lt (tgt := 13) dX2_save_1 (by decide) (by omega) (fun h1 => ?_) (fun h1 => ?_)
  · exact absurd h1 (by omega)
  · refine zV_iload_n dX2_save_4 rfl rfl ?_
    refine zV_aload_nr dX2_save_5 rfl rfl ?_
    refine zV_alen (t := 0) (N := 1080) (rfl) dX2_save_6 ?_
    refine zV_bipush dX2_save_7 (by decide) ?_
    refine zV_isub dX2_save_9 ?_
    refine zR_icmp_le (tgt := 14) dX2_save_10 (by decide) (by omega) (by omega) (fun h10 => ?_) (fun h10 => ?_)
    · refine zV_aload_nr dX2_save_14 rfl rfl ?_
      refine gf2_9 rfl (rfl) dX2_save_15 ?_
      refine zV_teq (w := zrv E 33) rfl ?_
      refine zV_iconst dX2_save_18 ?_
      refine zV_aload_nr dX2_save_19 rfl rfl ?_
      refine zV_iload_n dX2_save_20 rfl rfl ?_
      refine zV_bipush dX2_save_21 (by decide) ?_
      refine zV_copy (k0 := 33) (k1 := 38) (N0 := 8) (N1 := 1080) (show Cond.methodLink RX2 43 arraycopyName ∈ zTs from lk2_43) rfl rfl (by decide) (by omega) (show 1 ≤ d from hd) rfl dX2_save_23 ?_
      refine zV_aload_nr dX2_save_26 rfl rfl ?_
      refine gf2_18 rfl (rfl) dX2_save_27 ?_
      refine zV_teq (w := zrv E 35) rfl ?_
      refine zV_iconst dX2_save_30 ?_
      refine zV_aload_nr dX2_save_31 rfl rfl ?_
      refine zV_iload_n dX2_save_32 rfl rfl ?_
      refine zV_bipush dX2_save_33 (by decide) ?_
      refine zV_iadd dX2_save_35 ?_
      refine zV_bipush dX2_save_36 (by decide) ?_
      refine zV_copy (k0 := 35) (k1 := 38) (N0 := 8) (N1 := 1080) (show Cond.methodLink RX2 43 arraycopyName ∈ zTs from lk2_43) rfl rfl (by decide) (by omega) (show 1 ≤ d from hd) rfl dX2_save_38 ?_
      refine zV_aload_nr dX2_save_41 rfl rfl ?_
      refine gf2_21 rfl (rfl) dX2_save_42 ?_
      refine zV_teq (w := zrv E 36) rfl ?_
      refine zV_iconst dX2_save_45 ?_
      refine zV_aload_nr dX2_save_46 rfl rfl ?_
      refine zV_iload_n dX2_save_47 rfl rfl ?_
      refine zV_bipush dX2_save_48 (by decide) ?_
      refine zV_iadd dX2_save_50 ?_
      refine zV_bipush dX2_save_51 (by decide) ?_
      refine zV_iadd dX2_save_53 ?_
      refine zV_bipush dX2_save_54 (by decide) ?_
      refine zV_copy (k0 := 36) (k1 := 38) (N0 := 8) (N1 := 1080) (show Cond.methodLink RX2 43 arraycopyName ∈ zTs from lk2_43) rfl rfl (by decide) (by omega) (show 1 ≤ d from hd) rfl dX2_save_56 ?_
      refine zV_aload_nr dX2_save_59 rfl rfl ?_
      refine zV_iload_n dX2_save_60 rfl rfl ?_
      refine zV_bipush dX2_save_61 (by decide) ?_
      refine zV_iadd dX2_save_63 ?_
      refine zV_iconst dX2_save_64 ?_
      refine zV_isub dX2_save_65 ?_
      refine zV_aload_nr dX2_save_66 rfl rfl ?_
      refine gf2_27 rfl rfl dX2_save_67 ?_
      refine zV_iastore (N := 1080) (rfl) (by omega) (by decide) dX2_save_70 ?_
      refine zV_aload_nr dX2_save_71 rfl rfl ?_
      refine zV_iload_n dX2_save_72 rfl rfl ?_
      refine zV_bipush dX2_save_73 (by decide) ?_
      refine zV_iadd dX2_save_75 ?_
      refine zV_iconst dX2_save_76 ?_
      refine zV_isub dX2_save_77 ?_
      refine zV_aload_nr dX2_save_78 rfl rfl ?_
      refine gf2_40 rfl rfl dX2_save_79 ?_
      refine zV_iastore (N := 1080) (rfl) (by omega) (by decide) dX2_save_82 ?_
      refine zV_aload_nr dX2_save_83 rfl rfl ?_
      refine zV_iload_n dX2_save_84 rfl rfl ?_
      refine zV_bipush dX2_save_85 (by decide) ?_
      refine zV_iadd dX2_save_87 ?_
      refine zV_iconst dX2_save_88 ?_
      refine zV_isub dX2_save_89 ?_
      refine zV_aload_nr dX2_save_90 rfl rfl ?_
      refine gf2_31 rfl rfl dX2_save_91 ?_
      refine zV_iastore (N := 1080) (rfl) (by omega) (by decide) dX2_save_94 ?_
      exact zV_vreturn dX2_save_95 rfl (Nat.zero_le _) (by
          have t0 : ((f : Int)).toNat = f := Int.toNat_natCast f
          have t1 : ((f : Int) + 8).toNat = f + 8 := by omega
          have t2 : ((f : Int) + 8 + 8).toNat = f + 16 := by omega
          have t3 : ((f : Int) + 27 - 3).toNat = f + 24 := by omega
          have t4 : ((f : Int) + 27 - 2).toNat = f + 25 := by omega
          have t5 : ((f : Int) + 27 - 1).toNat = f + 26 := by omega
          have t8 : (8 : Int).toNat = 8 := rfl
          have t9 : (0 : Int).toNat = 0 := rfl
          rw [t0, t1, t2, t3, t4, t5, t8, t9]
          refine ⟨rfl, fun c2 a => by rw [zup_fn a, zup_fn a, zup_fn a, zcp_fn a, zcp_fn a, zcp_fn a], fun i hi => ?_, fun i hi => ?_, fun i hi => ?_, ?_, ?_, ?_, fun i hi => ?_⟩
          · unfold zup zcp; (repeat (first | rw [if_pos (by omega)] | rw [if_neg (by omega)])); congr 1; omega
          · unfold zup zcp; (repeat (first | rw [if_pos (by omega)] | rw [if_neg (by omega)])); congr 1; omega
          · unfold zup zcp; (repeat (first | rw [if_pos (by omega)] | rw [if_neg (by omega)])); congr 1; omega
          · unfold zup zcp; (repeat (first | rw [if_pos (by omega)] | rw [if_neg (by omega)]))
          · unfold zup zcp; (repeat (first | rw [if_pos (by omega)] | rw [if_neg (by omega)]))
          · unfold zup zcp; (repeat (first | rw [if_pos (by omega)] | rw [if_neg (by omega)]))
          · unfold zup zcp; (repeat (first | rw [if_pos (by omega)] | rw [if_neg (by omega)])))
    · exact absurd h10 (by omega)
set_option maxRecDepth 100000 in
theorem c2_load {E : zE} {h : zH} {f : Nat} (d k : Nat) (hd : 1 ≤ d) (hf : f + 27 ≤ 1080) : zCal E mX2_load d k [zrv E 32, zrv E 38, ziv (f : Int)] h (fun r h' => r = none ∧ loaded h f h') (fun _ _ => False) := by
  refine zCal_of (by decide) (Nat.le_of_ble_eq_true rfl) (fun a => ?_)
  show zV _ 0 0 [zrv E 32, zrv E 38, ziv (f : Int)] [] _
  refine zV_iload_n dX2_load_0 rfl rfl ?_
  refine zR_if_lt (tgt := 13) dX2_load_1 (by decide) (by omega) (fun h1 => ?_) (fun h1 => ?_)
  · exact absurd h1 (by omega)
  · refine zV_iload_n dX2_load_4 rfl rfl ?_
    refine zV_aload_nr dX2_load_5 rfl rfl ?_
    refine zV_alen (t := 0) (N := 1080) (rfl) dX2_load_6 ?_
    refine zV_bipush dX2_load_7 (by decide) ?_
    refine zV_isub dX2_load_9 ?_
    refine zR_icmp_le (tgt := 14) dX2_load_10 (by decide) (by omega) (by omega) (fun h10 => ?_) (fun h10 => ?_)
    · refine zV_aload_nr dX2_load_14 rfl rfl ?_
      refine zV_iload_n dX2_load_15 rfl rfl ?_
      refine zV_aload_nr dX2_load_16 rfl rfl ?_
      refine gf2_9 rfl (rfl) dX2_load_17 ?_
      refine zV_teq (w := zrv E 33) rfl ?_
      refine zV_iconst dX2_load_20 ?_
      refine zV_bipush dX2_load_21 (by decide) ?_
      refine zV_copy (k0 := 38) (k1 := 33) (N0 := 1080) (N1 := 8) (show Cond.methodLink RX2 43 arraycopyName ∈ zTs from lk2_43) rfl rfl (by decide) (by omega) (show 1 ≤ d from hd) rfl dX2_load_23 ?_
      refine zV_aload_nr dX2_load_26 rfl rfl ?_
      refine zV_iload_n dX2_load_27 rfl rfl ?_
      refine zV_bipush dX2_load_28 (by decide) ?_
      refine zV_iadd dX2_load_30 ?_
      refine zV_aload_nr dX2_load_31 rfl rfl ?_
      refine gf2_18 rfl (rfl) dX2_load_32 ?_
      refine zV_teq (w := zrv E 35) rfl ?_
      refine zV_iconst dX2_load_35 ?_
      refine zV_bipush dX2_load_36 (by decide) ?_
      refine zV_copy (k0 := 38) (k1 := 35) (N0 := 1080) (N1 := 8) (show Cond.methodLink RX2 43 arraycopyName ∈ zTs from lk2_43) rfl rfl (by decide) (by omega) (show 1 ≤ d from hd) rfl dX2_load_38 ?_
      refine zV_aload_nr dX2_load_41 rfl rfl ?_
      refine zV_iload_n dX2_load_42 rfl rfl ?_
      refine zV_bipush dX2_load_43 (by decide) ?_
      refine zV_iadd dX2_load_45 ?_
      refine zV_bipush dX2_load_46 (by decide) ?_
      refine zV_iadd dX2_load_48 ?_
      refine zV_aload_nr dX2_load_49 rfl rfl ?_
      refine gf2_21 rfl (rfl) dX2_load_50 ?_
      refine zV_teq (w := zrv E 36) rfl ?_
      refine zV_iconst dX2_load_53 ?_
      refine zV_bipush dX2_load_54 (by decide) ?_
      refine zV_copy (k0 := 38) (k1 := 36) (N0 := 1080) (N1 := 8) (show Cond.methodLink RX2 43 arraycopyName ∈ zTs from lk2_43) rfl rfl (by decide) (by omega) (show 1 ≤ d from hd) rfl dX2_load_56 ?_
      refine zV_aload_nr dX2_load_59 rfl rfl ?_
      refine zV_aload_nr dX2_load_60 rfl rfl ?_
      refine zV_iload_n dX2_load_61 rfl rfl ?_
      refine zV_bipush dX2_load_62 (by decide) ?_
      refine zV_iadd dX2_load_64 ?_
      refine zV_iconst dX2_load_65 ?_
      refine zV_isub dX2_load_66 ?_
      refine zV_iaload (N := 1080) (rfl) (by omega) (by decide) dX2_load_67 ?_
      refine pf2_27 rfl (rfl) dX2_load_68 ?_
      refine zV_aload_nr dX2_load_71 rfl rfl ?_
      refine zV_aload_nr dX2_load_72 rfl rfl ?_
      refine zV_iload_n dX2_load_73 rfl rfl ?_
      refine zV_bipush dX2_load_74 (by decide) ?_
      refine zV_iadd dX2_load_76 ?_
      refine zV_iconst dX2_load_77 ?_
      refine zV_isub dX2_load_78 ?_
      refine zV_iaload (N := 1080) (rfl) (by omega) (by decide) dX2_load_79 ?_
      refine pf2_40 rfl (rfl) dX2_load_80 ?_
      refine zV_aload_nr dX2_load_83 rfl rfl ?_
      refine zV_aload_nr dX2_load_84 rfl rfl ?_
      refine zV_iload_n dX2_load_85 rfl rfl ?_
      refine zV_bipush dX2_load_86 (by decide) ?_
      refine zV_iadd dX2_load_88 ?_
      refine zV_iconst dX2_load_89 ?_
      refine zV_isub dX2_load_90 ?_
      refine zV_iaload (N := 1080) (rfl) (by omega) (by decide) dX2_load_91 ?_
      refine pf2_31 rfl (rfl) dX2_load_92 ?_
      exact zV_vreturn dX2_load_95 rfl (Nat.zero_le _) (by
          have t0 : ((f : Int)).toNat = f := Int.toNat_natCast f
          have t1 : ((f : Int) + 8).toNat = f + 8 := by omega
          have t2 : ((f : Int) + 8 + 8).toNat = f + 16 := by omega
          have t3 : ((f : Int) + 27 - 3).toNat = f + 24 := by omega
          have t4 : ((f : Int) + 27 - 2).toNat = f + 25 := by omega
          have t5 : ((f : Int) + 27 - 1).toNat = f + 26 := by omega
          have t8 : (8 : Int).toNat = 8 := rfl
          have t9 : (0 : Int).toNat = 0 := rfl
          rw [t0, t1, t2, t3, t4, t5, t8, t9]
          refine ⟨rfl, fun c2 a0 a1 a2 a3 => by rw [zup_fn a0, zup_fn a0, zup_fn a0, zcp_fn a3, zcp_fn a2, zcp_fn a1], fun i hi => ?_, fun i hi => ?_, fun i hi => ?_, ?_, ?_, ?_, ?_⟩
          · unfold zup zcp; (repeat (first | rw [if_pos (by omega)] | rw [if_neg (by omega)])); congr 1
          · unfold zup zcp; (repeat (first | rw [if_pos (by omega)] | rw [if_neg (by omega)])); congr 1
          · unfold zup zcp; (repeat (first | rw [if_pos (by omega)] | rw [if_neg (by omega)])); congr 1
          · unfold zup zcp; (repeat (first | rw [if_pos (by omega)] | rw [if_neg (by omega)]))
          · unfold zup zcp; (repeat (first | rw [if_pos (by omega)] | rw [if_neg (by omega)]))
          · unfold zup zcp; (repeat (first | rw [if_pos (by omega)] | rw [if_neg (by omega)]))
          · unfold zup zcp; (repeat (first | rw [if_pos (by omega)] | rw [if_neg (by omega)])))
    · exact absurd h10 (by omega)
