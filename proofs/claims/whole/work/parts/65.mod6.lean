/-! THE REFERENCE: rows that keep a cup, cases one behind the other, the case that comes -/
def rowF (h : zH) (i : Nat) : Int := if i = 0 then h 64 32 else if i = 1 then h 64 33 else if i = 2 then h 64 34 else if i < 11 then h 80 (i - 3) else if i < 19 then h 81 (i - 11) else h 82 (i - 19)
theorem rowF_l (h : zH) {k : Nat} (hk : k < 8) : rowF h (3 + k) = h 80 k := by
  unfold rowF; rw [if_neg (by omega), if_neg (by omega), if_neg (by omega), if_pos (by omega), show 3 + k - 3 = k by omega]
theorem rowF_s (h : zH) {k : Nat} (hk : k < 8) : rowF h (11 + k) = h 81 k := by
  unfold rowF; rw [if_neg (by omega), if_neg (by omega), if_neg (by omega), if_neg (by omega), if_pos (by omega), show 11 + k - 11 = k by omega]
theorem rowF_h (h : zH) (k : Nat) : rowF h (19 + k) = h 82 k := by
  unfold rowF; rw [if_neg (by omega), if_neg (by omega), if_neg (by omega), if_neg (by omega), if_neg (by omega), show 19 + k - 19 = k by omega]
def mpk (h : zH) (c f : Nat) (h' : zH) : Prop := (∀ c2 : Nat, c2 ≠ c → h' c2 = h c2) ∧ ∀ i, h' c i = if f ≤ i ∧ i < f + 27 then rowF h (i - f) else h c i
def munp (h : zH) (c f : Nat) (h' : zH) : Prop := (∀ c2 : Nat, c2 ≠ 64 → c2 ≠ 80 → c2 ≠ 81 → c2 ≠ 82 → h' c2 = h c2) ∧ (∀ j, j ≠ 32 → j ≠ 33 → j ≠ 34 → h' 64 j = h 64 j) ∧ (h' 64 32 = h c f ∧ h' 64 33 = h c (f + 1) ∧ h' 64 34 = h c (f + 2)) ∧ ∀ k, k < 8 → h' 80 k = h c (f + 3 + k) ∧ h' 81 k = h c (f + 11 + k) ∧ h' 82 k = h c (f + 19 + k)
def scr (c : Nat) : Prop := c ≠ 64 ∧ c ≠ 80 ∧ c ≠ 81 ∧ c ≠ 82

set_option maxRecDepth 100000 in
theorem c6_pack {E : zE} {h : zH} {c N f : Nat} (d k : Nat) (hcz : zsh[c]? = some (.inr (0, N))) (hN : N ≤ 2000) (hc : scr c) (hf : f + 27 ≤ N) : zCal E mX6_pack d k [zrv E 64, zrv E c, ziv (f : Int)] h (fun r h' => r = none ∧ mpk h c f h') (fun _ _ => False) := by
  refine zCal_of (by decide) (Nat.le_of_ble_eq_true rfl) (fun a => ?_)
  show zV _ 0 0 [zrv E 64, zrv E c, ziv (f : Int), .null] [] _
  obtain ⟨c1, c2, c3, c4⟩ := hc
  refine zV_aload_nr dX6_pack_0 rfl rfl ?_
  refine zV_iload_n dX6_pack_1 rfl rfl ?_
  refine zV_aload_nr dX6_pack_2 rfl rfl ?_
  refine gf6_313 rfl rfl dX6_pack_3 ?_
  refine zV_iastoreN (i := f) (N := N) (hcz) (by omega) (by omega) dX6_pack_6 ?_
  refine zV_aload_nr dX6_pack_7 rfl rfl ?_
  refine zV_iload_n dX6_pack_8 rfl rfl ?_
  refine zV_iconst dX6_pack_9 ?_
  refine zV_iadd dX6_pack_10 ?_
  refine zV_teq (w := ziv ((f + 1 : Nat) : Int)) (congrArg ziv (by omega)) ?_
  refine zV_aload_nr dX6_pack_11 rfl rfl ?_
  refine gf6_151 rfl rfl dX6_pack_12 ?_
  refine zV_iastoreN (i := f + 1) (N := N) (hcz) (by omega) (by omega) dX6_pack_15 ?_
  refine zV_aload_nr dX6_pack_16 rfl rfl ?_
  refine zV_iload_n dX6_pack_17 rfl rfl ?_
  refine zV_iconst dX6_pack_18 ?_
  refine zV_iadd dX6_pack_19 ?_
  refine zV_teq (w := ziv ((f + 2 : Nat) : Int)) (congrArg ziv (by omega)) ?_
  refine zV_aload_nr dX6_pack_20 rfl rfl ?_
  refine gf6_154 rfl rfl dX6_pack_21 ?_
  refine zV_iastoreN (i := f + 2) (N := N) (hcz) (by omega) (by omega) dX6_pack_24 ?_
  refine zV_iconst dX6_pack_25 ?_
  refine zV_istore_n dX6_pack_26 rfl (Nat.le_of_ble_eq_true rfl) rfl ?_
  have L27 : ∀ (m : Nat) (s : Nat) (h1 : zH), (9 ≤ s + m) → (s ≤ 8) → (∀ c2 : Nat, c2 ≠ c → h1 c2 = h c2) → (∀ i, h1 c i = if f ≤ i ∧ i < f + 3 + s then rowF h (i - f) else h c i) → zV (E, mX6_pack, d, k, (fun r h' => r = none ∧ mpk h c f h'), (fun _ _ => False), a) 0 27 [zrv E 64, zrv E c, ziv (f : Int), ziv (s : Int)] [] h1 := by
    intro m
    induction m with
    | zero => intro s h1 hm_ hs fr he; exfalso; omega
    | succ m ih =>
      intro s h1 hm_ hs fr he
      refine zV_iload_n dX6_pack_27 rfl rfl ?_
      refine zV_bipush dX6_pack_28 (by decide) ?_
      refine zR_icmp_ge (tgt := 52) dX6_pack_30 (by decide) (by omega) (by omega) (fun h30 => ?_) (fun h30 => ?_)
      · refine zV_iconst dX6_pack_52 ?_
        refine zV_istore_n dX6_pack_53 rfl (Nat.le_of_ble_eq_true rfl) rfl ?_
        have L54 : ∀ (m2 : Nat) (s : Nat) (h1 : zH), (9 ≤ s + m2) → (s ≤ 8) → (∀ c2 : Nat, c2 ≠ c → h1 c2 = h c2) → (∀ i, h1 c i = if (f ≤ i ∧ i < f + 11 + s) ∨ (f + 19 ≤ i ∧ i < f + 19 + s) then rowF h (i - f) else h c i) → zV (E, mX6_pack, d, k, (fun r h' => r = none ∧ mpk h c f h'), (fun _ _ => False), a) 0 54 [zrv E 64, zrv E c, ziv (f : Int), ziv (s : Int)] [] h1 := by
          intro m2
          induction m2 with
          | zero => intro s h1 hm_ hs fr he; exfalso; omega
          | succ m2 ih2 =>
            intro s h1 hm_ hs fr he
            refine zV_iload_n dX6_pack_54 rfl rfl ?_
            refine zV_bipush dX6_pack_55 (by decide) ?_
            refine zR_icmp_ge (tgt := 101) dX6_pack_57 (by decide) (by omega) (by omega) (fun h57 => ?_) (fun h57 => ?_)
            · exact zV_vreturn dX6_pack_101 rfl (Nat.zero_le _) ⟨rfl, fr, fun i => by
                rw [he i]
                by_cases e1 : f ≤ i ∧ i < f + 27
                · rw [if_pos e1, if_pos (by omega)]
                · rw [if_neg e1, if_neg (by omega)]⟩
            · refine zV_aload_nr dX6_pack_60 rfl rfl ?_
              refine zV_iload_n dX6_pack_61 rfl rfl ?_
              refine zV_iconst dX6_pack_62 ?_
              refine zV_iadd dX6_pack_63 ?_
              refine zV_bipush dX6_pack_64 (by decide) ?_
              refine zV_iadd dX6_pack_66 ?_
              refine zV_iload_n dX6_pack_67 rfl rfl ?_
              refine zV_iadd dX6_pack_68 ?_
              refine zV_teq (w := ziv ((f + 11 + s : Nat) : Int)) (congrArg ziv (by omega)) ?_
              refine zV_aload_nr dX6_pack_69 rfl rfl ?_
              refine gf6_85 rfl (rfl) dX6_pack_70 ?_
              refine zV_teq (w := zrv E 81) rfl ?_
              refine zV_iload_n dX6_pack_73 rfl rfl ?_
              refine zV_ialoadN (i := s) (N := 8) (rfl) (by omega) (by decide) dX6_pack_74 ?_
              rw [fr 81 (Ne.symm c3)]
              refine zV_iastoreN (i := f + 11 + s) (N := N) (hcz) (by omega) (by omega) dX6_pack_75 ?_
              refine zV_aload_nr dX6_pack_76 rfl rfl ?_
              refine zV_iload_n dX6_pack_77 rfl rfl ?_
              refine zV_iconst dX6_pack_78 ?_
              refine zV_iadd dX6_pack_79 ?_
              refine zV_bipush dX6_pack_80 (by decide) ?_
              refine zV_iadd dX6_pack_82 ?_
              refine zV_bipush dX6_pack_83 (by decide) ?_
              refine zV_iadd dX6_pack_85 ?_
              refine zV_iload_n dX6_pack_86 rfl rfl ?_
              refine zV_iadd dX6_pack_87 ?_
              refine zV_teq (w := ziv ((f + 19 + s : Nat) : Int)) (congrArg ziv (by omega)) ?_
              refine zV_aload_nr dX6_pack_88 rfl rfl ?_
              refine gf6_88 rfl (rfl) dX6_pack_89 ?_
              refine zV_teq (w := zrv E 82) rfl ?_
              refine zV_iload_n dX6_pack_92 rfl rfl ?_
              refine zV_ialoadN (i := s) (N := 8) (rfl) (by omega) (by decide) dX6_pack_93 ?_
              rw [zup_fn (Ne.symm c4), fr 82 (Ne.symm c4)]
              refine zV_iastoreN (i := f + 19 + s) (N := N) (hcz) (by omega) (by omega) dX6_pack_94 ?_
              refine zV_iinc dX6_pack_95 rfl (Nat.le_of_ble_eq_true rfl) rfl ?_
              refine zV_goto (tgt := 54) dX6_pack_98 (by decide) ?_
              exact ih2 (s + 1) _ (by omega) (by omega) (fun c9 e => by rw [zup_fn e, zup_fn e]; exact fr c9 e) (fun i => by
                rw [zup_at, zup_at, he i]
                by_cases e2 : i = f + 19 + s
                · subst e2; rw [if_pos rfl, if_pos (by omega), show f + 19 + s - f = 19 + s by omega, rowF_h h]
                · rw [if_neg e2]
                  by_cases e3 : i = f + 11 + s
                  · subst e3; rw [if_pos rfl, if_pos (by omega), show f + 11 + s - f = 11 + s by omega, rowF_s h (by omega)]
                  · rw [if_neg e3]
                    by_cases e1 : (f ≤ i ∧ i < f + 11 + s) ∨ (f + 19 ≤ i ∧ i < f + 19 + s)
                    · rw [if_pos e1, if_pos (by omega)]
                    · rw [if_neg e1, if_neg (by omega)])
        exact L54 9 0 h1 (by omega) (by omega) fr (fun i => by
          rw [he i]
          by_cases e1 : f ≤ i ∧ i < f + 3 + s
          · rw [if_pos e1, if_pos (by omega)]
          · rw [if_neg e1, if_neg (by omega)])
      · refine zV_aload_nr dX6_pack_33 rfl rfl ?_
        refine zV_iload_n dX6_pack_34 rfl rfl ?_
        refine zV_iconst dX6_pack_35 ?_
        refine zV_iadd dX6_pack_36 ?_
        refine zV_iload_n dX6_pack_37 rfl rfl ?_
        refine zV_iadd dX6_pack_38 ?_
        refine zV_teq (w := ziv ((f + 3 + s : Nat) : Int)) (congrArg ziv (by omega)) ?_
        refine zV_aload_nr dX6_pack_39 rfl rfl ?_
        refine gf6_82 rfl (rfl) dX6_pack_40 ?_
        refine zV_teq (w := zrv E 80) rfl ?_
        refine zV_iload_n dX6_pack_43 rfl rfl ?_
        refine zV_ialoadN (i := s) (N := 8) (rfl) (by omega) (by decide) dX6_pack_44 ?_
        rw [fr 80 (Ne.symm c2)]
        refine zV_iastoreN (i := f + 3 + s) (N := N) (hcz) (by omega) (by omega) dX6_pack_45 ?_
        refine zV_iinc dX6_pack_46 rfl (Nat.le_of_ble_eq_true rfl) rfl ?_
        refine zV_goto (tgt := 27) dX6_pack_49 (by decide) ?_
        exact ih (s + 1) _ (by omega) (by omega) (fun c9 e => by rw [zup_fn e]; exact fr c9 e) (fun i => by
          rw [zup_at, he i]
          by_cases e2 : i = f + 3 + s
          · subst e2; rw [if_pos rfl, if_pos (by omega), show f + 3 + s - f = 3 + s by omega, rowF_l h (by omega)]
          · rw [if_neg e2]
            by_cases e1 : f ≤ i ∧ i < f + 3 + s
            · rw [if_pos e1, if_pos (by omega)]
            · rw [if_neg e1, if_neg (by omega)])
  exact L27 9 0 _ (by omega) (by omega) (fun c9 e => by rw [zup_fn e, zup_fn e, zup_fn e]) (fun i => by
    rw [zup_at, zup_at, zup_at]
    by_cases e2 : i = f + 2
    · subst e2; rw [if_pos rfl, if_pos (by omega), show f + 2 - f = 2 by omega, zup_fn (Ne.symm c1), zup_fn (Ne.symm c1)]; rfl
    · rw [if_neg e2]
      by_cases e1 : i = f + 1
      · subst e1; rw [if_pos rfl, if_pos (by omega), show f + 1 - f = 1 by omega, zup_fn (Ne.symm c1)]; rfl
      · rw [if_neg e1]
        by_cases e0 : i = f
        · subst e0; rw [if_pos rfl, if_pos (by omega), Nat.sub_self]; rfl
        · rw [if_neg e0, if_neg (by omega)])
set_option maxRecDepth 100000 in
theorem c6_unpack {E : zE} {h : zH} {c N f : Nat} (d k : Nat) (hcz : zsh[c]? = some (.inr (0, N))) (hN : N ≤ 2000) (hc : scr c) (hf : f + 27 ≤ N) : zCal E mX6_unpack d k [zrv E 64, zrv E c, ziv (f : Int)] h (fun r h' => r = none ∧ munp h c f h') (fun _ _ => False) := by
  refine zCal_of (by decide) (Nat.le_of_ble_eq_true rfl) (fun a => ?_)
  show zV _ 0 0 [zrv E 64, zrv E c, ziv (f : Int), .null] [] _
  obtain ⟨c1, c2, c3, c4⟩ := hc
  refine zV_aload_nr dX6_unpack_0 rfl rfl ?_
  refine zV_aload_nr dX6_unpack_1 rfl rfl ?_
  refine zV_iload_n dX6_unpack_2 rfl rfl ?_
  refine zV_ialoadN (i := f) (N := N) (hcz) (by omega) (by omega) dX6_unpack_3 ?_
  refine pf6_313 rfl (rfl) dX6_unpack_4 ?_
  refine zV_aload_nr dX6_unpack_7 rfl rfl ?_
  refine zV_aload_nr dX6_unpack_8 rfl rfl ?_
  refine zV_iload_n dX6_unpack_9 rfl rfl ?_
  refine zV_iconst dX6_unpack_10 ?_
  refine zV_iadd dX6_unpack_11 ?_
  refine zV_teq (w := ziv ((f + 1 : Nat) : Int)) (congrArg ziv (by omega)) ?_
  refine zV_ialoadN (i := f + 1) (N := N) (hcz) (by omega) (by omega) dX6_unpack_12 ?_
  refine pf6_151 rfl (rfl) dX6_unpack_13 ?_
  refine zV_aload_nr dX6_unpack_16 rfl rfl ?_
  refine zV_aload_nr dX6_unpack_17 rfl rfl ?_
  refine zV_iload_n dX6_unpack_18 rfl rfl ?_
  refine zV_iconst dX6_unpack_19 ?_
  refine zV_iadd dX6_unpack_20 ?_
  refine zV_teq (w := ziv ((f + 2 : Nat) : Int)) (congrArg ziv (by omega)) ?_
  refine zV_ialoadN (i := f + 2) (N := N) (hcz) (by omega) (by omega) dX6_unpack_21 ?_
  refine pf6_154 rfl (rfl) dX6_unpack_22 ?_
  refine zV_iconst dX6_unpack_25 ?_
  refine zV_istore_n dX6_unpack_26 rfl (Nat.le_of_ble_eq_true rfl) rfl ?_
  have L27 : ∀ (m : Nat) (s : Nat) (h1 : zH), (9 ≤ s + m) → (s ≤ 8) → ((∀ c2 : Nat, c2 ≠ 64 → c2 ≠ 80 → c2 ≠ 81 → c2 ≠ 82 → h1 c2 = h c2) ∧ (∀ j, j ≠ 32 → j ≠ 33 → j ≠ 34 → h1 64 j = h 64 j) ∧ (h1 64 32 = h c f ∧ h1 64 33 = h c (f + 1) ∧ h1 64 34 = h c (f + 2))) → (∀ k, k < s → h1 80 k = h c (f + 3 + k)) → zV (E, mX6_unpack, d, k, (fun r h' => r = none ∧ munp h c f h'), (fun _ _ => False), a) 0 27 [zrv E 64, zrv E c, ziv (f : Int), ziv (s : Int)] [] h1 := by
    intro m
    induction m with
    | zero => intro s h1 hm_ hs fr he; exfalso; omega
    | succ m ih =>
      intro s h1 hm_ hs fr he
      refine zV_iload_n dX6_unpack_27 rfl rfl ?_
      refine zV_bipush dX6_unpack_28 (by decide) ?_
      refine zR_icmp_ge (tgt := 52) dX6_unpack_30 (by decide) (by omega) (by omega) (fun h30 => ?_) (fun h30 => ?_)
      · refine zV_iconst dX6_unpack_52 ?_
        refine zV_istore_n dX6_unpack_53 rfl (Nat.le_of_ble_eq_true rfl) rfl ?_
        have L54 : ∀ (m2 : Nat) (s : Nat) (h1 : zH), (9 ≤ s + m2) → (s ≤ 8) → ((∀ c2 : Nat, c2 ≠ 64 → c2 ≠ 80 → c2 ≠ 81 → c2 ≠ 82 → h1 c2 = h c2) ∧ (∀ j, j ≠ 32 → j ≠ 33 → j ≠ 34 → h1 64 j = h 64 j) ∧ (h1 64 32 = h c f ∧ h1 64 33 = h c (f + 1) ∧ h1 64 34 = h c (f + 2))) → (∀ k, k < 8 → h1 80 k = h c (f + 3 + k)) → (∀ k, k < s → h1 81 k = h c (f + 11 + k) ∧ h1 82 k = h c (f + 19 + k)) → zV (E, mX6_unpack, d, k, (fun r h' => r = none ∧ munp h c f h'), (fun _ _ => False), a) 0 54 [zrv E 64, zrv E c, ziv (f : Int), ziv (s : Int)] [] h1 := by
          intro m2
          induction m2 with
          | zero => intro s h1 hm_ hs fr he he2; exfalso; omega
          | succ m2 ih2 =>
            intro s h1 hm_ hs fr he he2
            refine zV_iload_n dX6_unpack_54 rfl rfl ?_
            refine zV_bipush dX6_unpack_55 (by decide) ?_
            refine zR_icmp_ge (tgt := 101) dX6_unpack_57 (by decide) (by omega) (by omega) (fun h57 => ?_) (fun h57 => ?_)
            · exact zV_vreturn dX6_unpack_101 rfl (Nat.zero_le _) ⟨rfl, fr.1, fr.2.1, fr.2.2, fun k hk => ⟨he k hk, he2 k (by omega)⟩⟩
            · refine zV_aload_nr dX6_unpack_60 rfl rfl ?_
              refine gf6_85 rfl (rfl) dX6_unpack_61 ?_
              refine zV_teq (w := zrv E 81) rfl ?_
              refine zV_iload_n dX6_unpack_64 rfl rfl ?_
              refine zV_aload_nr dX6_unpack_65 rfl rfl ?_
              refine zV_iload_n dX6_unpack_66 rfl rfl ?_
              refine zV_iconst dX6_unpack_67 ?_
              refine zV_iadd dX6_unpack_68 ?_
              refine zV_bipush dX6_unpack_69 (by decide) ?_
              refine zV_iadd dX6_unpack_71 ?_
              refine zV_iload_n dX6_unpack_72 rfl rfl ?_
              refine zV_iadd dX6_unpack_73 ?_
              refine zV_teq (w := ziv ((f + 11 + s : Nat) : Int)) (congrArg ziv (by omega)) ?_
              refine zV_ialoadN (i := f + 11 + s) (N := N) (hcz) (by omega) (by omega) dX6_unpack_74 ?_
              rw [fr.1 c c1 c2 c3 c4]
              refine zV_iastoreN (i := s) (N := 8) (rfl) (by omega) (by decide) dX6_unpack_75 ?_
              refine zV_aload_nr dX6_unpack_76 rfl rfl ?_
              refine gf6_88 rfl (rfl) dX6_unpack_77 ?_
              refine zV_teq (w := zrv E 82) rfl ?_
              refine zV_iload_n dX6_unpack_80 rfl rfl ?_
              refine zV_aload_nr dX6_unpack_81 rfl rfl ?_
              refine zV_iload_n dX6_unpack_82 rfl rfl ?_
              refine zV_iconst dX6_unpack_83 ?_
              refine zV_iadd dX6_unpack_84 ?_
              refine zV_bipush dX6_unpack_85 (by decide) ?_
              refine zV_iadd dX6_unpack_87 ?_
              refine zV_bipush dX6_unpack_88 (by decide) ?_
              refine zV_iadd dX6_unpack_90 ?_
              refine zV_iload_n dX6_unpack_91 rfl rfl ?_
              refine zV_iadd dX6_unpack_92 ?_
              refine zV_teq (w := ziv ((f + 19 + s : Nat) : Int)) (congrArg ziv (by omega)) ?_
              refine zV_ialoadN (i := f + 19 + s) (N := N) (hcz) (by omega) (by omega) dX6_unpack_93 ?_
              rw [zup_fn c3, fr.1 c c1 c2 c3 c4]
              refine zV_iastoreN (i := s) (N := 8) (rfl) (by omega) (by decide) dX6_unpack_94 ?_
              refine zV_iinc dX6_unpack_95 rfl (Nat.le_of_ble_eq_true rfl) rfl ?_
              refine zV_goto (tgt := 54) dX6_unpack_98 (by decide) ?_
              exact ih2 (s + 1) _ (by omega) (by omega) ⟨fun c9 e1 e2 e3 e4 => by rw [zup_fn e4, zup_fn e3]; exact fr.1 c9 e1 e2 e3 e4, by rw [zup_fn (by decide), zup_fn (by decide)]; exact fr.2.1, by rw [zup_fn (by decide), zup_fn (by decide)]; exact fr.2.2⟩ (by rw [zup_fn (by decide), zup_fn (by decide)]; exact he) (fun k hk => by
                rw [zup_fn (by decide), zup_at, zup_at, zup_fn (by decide)]
                by_cases e : k = s
                · rw [if_pos e, if_pos e, e]; exact ⟨rfl, rfl⟩
                · rw [if_neg e, if_neg e]; exact he2 k (by omega))
        exact L54 9 0 h1 (by omega) (by omega) fr (fun k hk => he k (by omega)) (fun k hk => absurd hk (Nat.not_lt_zero k))
      · refine zV_aload_nr dX6_unpack_33 rfl rfl ?_
        refine gf6_82 rfl (rfl) dX6_unpack_34 ?_
        refine zV_teq (w := zrv E 80) rfl ?_
        refine zV_iload_n dX6_unpack_37 rfl rfl ?_
        refine zV_aload_nr dX6_unpack_38 rfl rfl ?_
        refine zV_iload_n dX6_unpack_39 rfl rfl ?_
        refine zV_iconst dX6_unpack_40 ?_
        refine zV_iadd dX6_unpack_41 ?_
        refine zV_iload_n dX6_unpack_42 rfl rfl ?_
        refine zV_iadd dX6_unpack_43 ?_
        refine zV_teq (w := ziv ((f + 3 + s : Nat) : Int)) (congrArg ziv (by omega)) ?_
        refine zV_ialoadN (i := f + 3 + s) (N := N) (hcz) (by omega) (by omega) dX6_unpack_44 ?_
        rw [fr.1 c c1 c2 c3 c4]
        refine zV_iastoreN (i := s) (N := 8) (rfl) (by omega) (by decide) dX6_unpack_45 ?_
        refine zV_iinc dX6_unpack_46 rfl (Nat.le_of_ble_eq_true rfl) rfl ?_
        refine zV_goto (tgt := 27) dX6_unpack_49 (by decide) ?_
        exact ih (s + 1) _ (by omega) (by omega) ⟨fun c9 e1 e2 e3 e4 => by rw [zup_fn e2]; exact fr.1 c9 e1 e2 e3 e4, by rw [zup_fn (by decide)]; exact fr.2.1, by rw [zup_fn (by decide)]; exact fr.2.2⟩ (fun k hk => by
          rw [zup_at]
          by_cases e : k = s
          · rw [if_pos e, e]
          · rw [if_neg e]; exact he k (by omega))
  exact L27 9 0 _ (by omega) (by omega) ⟨fun c9 e1 e2 e3 e4 => by rw [zup_fn e1, zup_fn e1, zup_fn e1], fun j a b c => by rw [zup_at, if_neg c, zup_at, if_neg b, zup_at, if_neg a], by rw [zup_at, if_neg (by decide), zup_at, if_neg (by decide), zup_at, if_pos rfl], by rw [zup_at, if_neg (by decide), zup_at, if_pos rfl, zup_fn c1], by rw [zup_at, if_pos rfl, zup_fn c1, zup_fn c1]⟩ (fun k hk => absurd hk (Nat.not_lt_zero k))
/-- k cases on, as the reference has it -/
def RM (h : zH) (n jn k : Nat) : (Nat → Int) × Int × Int × (Nat → Int) := runG n jn (gM h) (h 64 32) (h 80, 0, 0, fun _ => 0) k
def permM (f : Nat → Int) (jn : Nat) : Prop := injM f jn ∧ ∀ j, j < jn → seated f jn j
def stf (j : Nat) : Prop := j = 3 ∨ (17 ≤ j ∧ j ≤ 27) ∨ (32 ≤ j ∧ j ≤ 36) ∨ (58 ≤ j ∧ j ≤ 60)
def kpc (c2 : Nat) : Prop := c2 < 64 ∨ (64 < c2 ∧ c2 < 80) ∨ (81 ≤ c2 ∧ c2 ≤ 83) ∨ c2 = 87 ∨ (92 ≤ c2 ∧ c2 ≤ 94) ∨ 98 ≤ c2
def mFw (h h1 : zH) : Prop := (∀ c2 : Nat, kpc c2 → h1 c2 = h c2) ∧ ∀ j, (j = 4 ∨ (stf j ∧ j ≠ 32 ∧ j ≠ 34)) → h1 64 j = h 64 j
theorem mFw_rfl (h : zH) : mFw h h := ⟨fun _ _ => rfl, fun _ _ => rfl⟩
theorem mFw_trans {h h1 h2 : zH} (a : mFw h h1) (b : mFw h1 h2) : mFw h h2 := ⟨fun c2 p => (b.1 c2 p).trans (a.1 c2 p), fun j p => (b.2 j p).trans (a.2 j p)⟩
theorem mFr_w {h h1 : zH} (a : mFr h h1) : mFw h h1 := ⟨fun c2 p => by unfold kpc at p; exact a.1 c2 (by omega) (by omega) (by omega) (by omega) (by omega), fun j p => by unfold stf at p; exact a.2 j (by omega) (by omega) (by omega)⟩
theorem mFw_ct {h h1 : zH} {n jn : Nat} (hct : mCt h n jn) (f : mFw h h1) : mCt h1 n jn ∧ gM h1 = gM h := by
  have e : ∀ c2 : Nat, kpc c2 → h1 c2 = h c2 := f.1
  have e68 := e 68 (by unfold kpc; omega)
  have e70 := e 70 (by unfold kpc; omega)
  have e71 := e 71 (by unfold kpc; omega)
  have e75 := e 75 (by unfold kpc; omega)
  have e76 := e 76 (by unfold kpc; omega)
  refine ⟨mCt_congr e68 e70 e71 (e 74 (by unfold kpc; omega)) e75 e76 hct, ?_⟩
  unfold gM
  rw [e 81 (by unfold kpc; omega), e 82 (by unfold kpc; omega), e 78 (by unfold kpc; omega), f.2 33 (by unfold stf; omega), e70, e71, ruM_congr (ru := 0) e68 e75, ruM_congr (ru := 1) e68 e76, e68]
def mrun (h : zH) (n jn k : Nat) (h' : zH) : Prop := mFw h h' ∧ agn n (h' 80) (RM h n jn k).1 ∧ (1 ≤ k → h' 64 34 = (RM h n jn k).2.1 ∧ h' 64 37 = (RM h n jn k).2.2.1 ∧ (permM (h 81) jn → agn jn (h' 86) (RM h n jn k).2.2.2)) ∧ h' 64 32 = h 64 32 + k ∧ mDy h' n jn ∧ mCt h' n jn
theorem mFr_rfl (h : zH) : mFr h h := ⟨fun _ _ _ _ _ _ => rfl, fun _ _ _ _ => rfl⟩
theorem mFr_trans {h h1 h2 : zH} (a : mFr h h1) (b : mFr h1 h2) : mFr h h2 := ⟨fun c2 p q r s t => (b.1 c2 p q r s t).trans (a.1 c2 p q r s t), fun j p q r => (b.2 j p q r).trans (a.2 j p q r)⟩
theorem mrun_0 {h : zH} {n jn : Nat} (hct : mCt h n jn) (hdy : mDy h n jn) : mrun h n jn 0 h := ⟨mFw_rfl h, agn_rfl _ _, fun z => absurd z (by omega), by simp, hdy, hct⟩
theorem mrun_s {h h1 h2 : zH} {n jn k : Nat} (hct : mCt h n jn) (hk : h 64 32 + k + 1 ≤ 100000) (h0 : mrun h n jn k h1) (h9 : mcase h1 n jn h2) : mrun h n jn (k + 1) h2 := by
  obtain ⟨a0, a1, a2, a3, a4, a5⟩ := h0
  obtain ⟨b0, b1, b2, b3, b4, b5⟩ := h9
  obtain ⟨-, gm⟩ := mFw_ct hct a0
  have e81 : h1 81 = h 81 := a0.1 81 (by unfold kpc; omega)
  have e33 : h1 64 33 = h 64 33 := a0.2 33 (by unfold stf; omega)
  have hX : XM h1 n jn jn = seatsG n jn (gM h) (h 64 32 + k) (h1 80, h 64 33, fun _ => 0) jn := by
    unfold XM; rw [gm, a3, e33]
  have hc := seatsG_congr (gag_rfl n jn (gM h)) (fun s hs => by have := a4.2.2.2.1 s hs; rw [e81] at this; exact this) (ca := h 64 32 + k) (lev := h 64 33) (s1 := fun _ => 0) (s2 := (RM h n jn k).2.2.2) a1 jn (Nat.le_refl _)
  rw [← hX] at hc
  have er : ruM h1 1 = ruM h 1 := congrArg (fun g : zG => g.2.2.2.2.2.2.2.2.2) gm
  have e68 : h1 68 = h 68 := a0.1 68 (by unfold kpc; omega)
  have fr2 := mFw_trans a0 (mFr_w b0)
  have hlo := XM_lo a4 jn
  refine ⟨fr2, by rw [b1]; exact hc.1, fun _ => ⟨?_, ?_, fun hp j hj => ?_⟩, by rw [b5, a3]; omega, ?_, (mFw_ct hct fr2).1⟩
  · rw [b4, er, e68, a3, hc.2.1, verdS_congr hc.1]; rfl
  · rw [b2]; exact hc.2.1
  · have h8 : jn ≤ 8 := hct.1.2.1
    rw [b3 (by rw [e81]; exact hp.1) j (by omega)]
    obtain ⟨s, s1, s2⟩ := hp.2 j hj
    exact hc.2.2 j (Or.inr ⟨s, s1, s2⟩)
  · exact mFr_dy a4 b0 (by rw [b1]; exact hlo.1) (by rw [b5, a3]; have := a4.2.2.2.2.2; omega)

set_option maxRecDepth 100000 in
theorem c6_goOn {E : zE} {h : zH} {n jn : Nat} {y : Int} (d k : Nat) (hd : 8 ≤ d) (hct : mCt h n jn) (hdy : mDy h n jn) (hy : 0 ≤ y ∧ y ≤ 60) (hc9 : h 64 32 ≤ 999) : zCal E mX6_goOn d k [zrv E 64, ziv y] h (fun r h' => r = none ∧ mrun h n jn y.toNat h') (fun _ _ => False) := by
  refine zCal_of (by decide) (Nat.le_of_ble_eq_true rfl) (fun a => ?_)
  show zV _ 0 0 [zrv E 64, ziv y, .null] [] _
  refine zV_iconst dX6_goOn_0 ?_
  refine zV_istore_n dX6_goOn_1 rfl (Nat.le_of_ble_eq_true rfl) rfl ?_
  have L2 : ∀ (m : Nat) (s : Nat) (h1 : zH), (61 ≤ s + m) → ((s : Int) ≤ y) → (mrun h n jn s h1) → zV (E, mX6_goOn, d, k, (fun r h' => r = none ∧ mrun h n jn y.toNat h'), (fun _ _ => False), a) 0 2 [zrv E 64, ziv y, ziv (s : Int)] [] h1 := by
    intro m
    induction m with
    | zero => intro s h1 hm_ hs hr; exfalso; omega
    | succ m ih =>
      intro s h1 hm_ hs hr
      refine zV_iload_n dX6_goOn_2 rfl rfl ?_
      refine zV_iload_n dX6_goOn_3 rfl rfl ?_
      refine zR_icmp_ge (tgt := 17) dX6_goOn_4 (by decide) (by omega) (by omega) (fun h4 => ?_) (fun h4 => ?_)
      · exact zV_vreturn dX6_goOn_17 rfl (Nat.zero_le _) ⟨rfl, by rw [show y.toNat = s by omega]; exact hr⟩
      · refine zV_aload_nr dX6_goOn_7 rfl rfl ?_
        refine zV_callV (As := []) lk6_369 (rfl) rfl rfl (c6_aCase (n := n) (jn := jn) (d - 1) 0 (by omega) hr.2.2.2.2.2 hr.2.2.2.2.1) ⟨by show _ + 1 ≤ d; omega, by show _ ≤ k; omega⟩ rfl (Nat.le_of_ble_eq_true rfl) dX6_goOn_8 (fun _ _ z => z.elim) (fun r h2 q => ?_)
        obtain ⟨rfl, q⟩ := q
        refine zV_iinc dX6_goOn_11 rfl (Nat.le_of_ble_eq_true rfl) rfl ?_
        refine zV_goto (tgt := 2) dX6_goOn_14 (by decide) ?_
        exact ih (s + 1) h2 (by omega) (by omega) (mrun_s hct (by omega) hr q)
  exact L2 61 0 h (by omega) (by omega) (mrun_0 hct hdy)
/-- what a question leaves: all that counts is as it was -/
def mq (h h' : zH) : Prop := (∀ c2 : Nat, (c2 < 64 ∨ (64 < c2 ∧ c2 < 78) ∨ c2 = 79 ∨ c2 = 83 ∨ c2 = 92 ∨ c2 = 93 ∨ 98 ≤ c2) → h' c2 = h c2) ∧ (∀ c2 : Nat, (c2 = 78 ∨ c2 = 80 ∨ c2 = 81 ∨ c2 = 82) → agn 8 (h' c2) (h c2)) ∧ ∀ j, stf j → h' 64 j = h 64 j
theorem mq_rfl (h : zH) : mq h h := ⟨fun _ _ => rfl, fun _ _ => agn_rfl _ _, fun _ _ => rfl⟩
theorem mq_trans {h h1 h2 : zH} (a : mq h h1) (b : mq h1 h2) : mq h h2 := ⟨fun c2 hc => (b.1 c2 hc).trans (a.1 c2 hc), fun c2 hc => agn_trans (b.2.1 c2 hc) (a.2.1 c2 hc), fun j hj => (b.2.2 j hj).trans (a.2.2 j hj)⟩
theorem mq_c (h : zH) (v : Int) : mq h (zup h 64 4 v) := ⟨fun c2 hc => zup_fn (by omega), fun c2 hc => by rw [zup_fn (by omega)]; exact agn_rfl _ _, fun j hj => by rw [zup_at, if_neg (by unfold stf at hj; omega)]⟩
theorem mq_inv {h h1 : zH} {n jn : Nat} (hq : mq h h1) (hct : mCt h n jn) (hdy : mDy h n jn) : mCt h1 n jn ∧ mDy h1 n jn ∧ gag n jn (gM h1) (gM h) ∧ h1 64 32 = h 64 32 ∧ agn n (h1 80) (h 80) := by
  obtain ⟨q1, q2, q3⟩ := hq
  have hn := hct.1.1
  have hjn := hct.1.2.1
  have e68 := q1 68 (by omega)
  have e70 := q1 70 (by omega)
  have e71 := q1 71 (by omega)
  have e75 := q1 75 (by omega)
  have e76 := q1 76 (by omega)
  have a78 := q2 78 (by omega)
  have a80 := q2 80 (by omega)
  have a81 := q2 81 (by omega)
  have a82 := q2 82 (by omega)
  have e32 := q3 32 (Or.inr (Or.inr (Or.inl (by omega))))
  have e33 := q3 33 (Or.inr (Or.inr (Or.inl (by omega))))
  obtain ⟨d1, d2, d3, d4, d5, d6⟩ := hdy
  refine ⟨mCt_congr e68 e70 e71 (q1 74 (by omega)) e75 e76 hct, ⟨fun l hl => by rw [a80 l (by omega)]; exact d1 l hl, fun j hj => by rw [a78 j (by omega)]; exact d2 j hj, fun j hj => by rw [a82 j (by omega)]; exact d3 j hj, fun j hj => by rw [a81 j (by omega)]; exact d4 j hj, by rw [e33]; exact d5, by rw [e32]; exact d6⟩, ?_, e32, agn_le hn a80⟩
  unfold gM
  rw [ruM_congr (ru := 0) e68 e75, ruM_congr (ru := 1) e68 e76, e68, e70, e71, e33]
  exact ⟨agn_le hjn a81, agn_le hjn a82, agn_le hjn a78, rfl, agn_rfl _ _, agn_rfl _ _, rfl⟩
/-- packed, some cases on, unpacked again -/
theorem mq_run {h h1 h2 h3 : zH} {c : Nat} (hc : c = 87 ∨ c = 94) (hp : mpk h c 0 h1) (hr : mFw h1 h2) (hu : munp h2 c 0 h3) : mq h h3 := by
  have r : ∀ i, h2 c i = if 0 ≤ i ∧ i < 0 + 27 then rowF h (i - 0) else h c i := fun i => by rw [hr.1 c (by unfold kpc; omega)]; exact hp.2 i
  have r2 : ∀ i, i < 27 → h2 c i = rowF h i := fun i hi => by rw [r i, if_pos (by omega)]; rfl
  refine ⟨fun c2 hh => ?_, fun c2 hh => ?_, fun j hj => ?_⟩
  · rw [hu.1 c2 (by omega) (by omega) (by omega) (by omega), hr.1 c2 (by unfold kpc; omega), hp.1 c2 (by omega)]
  · rcases hh with rfl | rfl | rfl | rfl
    · rw [hu.1 78 (by decide) (by decide) (by decide) (by decide), hr.1 78 (by unfold kpc; omega), hp.1 78 (by omega)]; exact agn_rfl _ _
    · exact fun k hk => by rw [(hu.2.2.2 k hk).1, Nat.zero_add, r2 _ (by omega)]; exact rowF_l h hk
    · exact fun k hk => by rw [(hu.2.2.2 k hk).2.1, Nat.zero_add, r2 _ (by omega)]; exact rowF_s h hk
    · exact fun k hk => by rw [(hu.2.2.2 k hk).2.2, Nat.zero_add, r2 _ (by omega)]; exact rowF_h h k
  · by_cases e1 : j = 32
    · subst e1; rw [hu.2.2.1.1, r2 0 (by decide)]; rfl
    · by_cases e2 : j = 33
      · subst e2; rw [hu.2.2.1.2.1, Nat.zero_add, r2 1 (by decide)]; rfl
      · by_cases e3 : j = 34
        · subst e3; rw [hu.2.2.1.2.2, Nat.zero_add, r2 2 (by decide)]; rfl
        · rw [hu.2.1 j e1 e2 e3, hr.2 j (Or.inr ⟨hj, e1, e3⟩), hp.1 64 (by omega)]
theorem mq_run4 {h h1 h2 h3 : zH} {c : Nat} (hc : c = 87 ∨ c = 94) (hp : mpk h c 0 h1) (hr : mFw h1 h2) (hu : munp h2 c 0 h3) : h3 64 4 = h 64 4 := by
  rw [hu.2.1 4 (by decide) (by decide) (by decide), hr.2 4 (Or.inl rfl), hp.1 64 (by omega)]
theorem mrun_w {h h1 h2 : zH} {n jn k : Nat} (hr : mrun h n jn k h1) (e1 : ∀ c2 : Nat, c2 ≠ 64 → c2 ≠ 88 → c2 ≠ 89 → c2 ≠ 96 → h2 c2 = h1 c2) (e2 : ∀ j, j ≠ 43 → j ≠ 44 → h2 64 j = h1 64 j) : mrun h n jn k h2 := by
  obtain ⟨a0, a1, a2, a3, a4, a5⟩ := hr
  have fw : mFw h1 h2 := ⟨fun c2 p => by unfold kpc at p; exact e1 c2 (by omega) (by omega) (by omega) (by omega), fun j p => by unfold stf at p; exact e2 j (by omega) (by omega)⟩
  have c80 := e1 80 (by decide) (by decide) (by decide) (by decide)
  obtain ⟨d1, d2, d3, d4, d5, d6⟩ := a4
  refine ⟨mFw_trans a0 fw, by rw [c80]; exact a1, fun hk => by rw [e2 34 (by decide) (by decide), e2 37 (by decide) (by decide), e1 86 (by decide) (by decide) (by decide) (by decide)]; exact a2 hk, by rw [e2 32 (by decide) (by decide)]; exact a3, ⟨by rw [c80]; exact d1, by rw [e1 78 (by decide) (by decide) (by decide) (by decide)]; exact d2, by rw [e1 82 (by decide) (by decide) (by decide) (by decide)]; exact d3, by rw [e1 81 (by decide) (by decide) (by decide) (by decide)]; exact d4, by rw [e2 33 (by decide) (by decide)]; exact d5, by rw [e2 32 (by decide) (by decide)]; exact d6⟩, (mFw_ct a5 fw).1⟩
/-- what the reference needs to be asked -/
def mInv (h : zH) (n jn : Nat) : Prop := mCt h n jn ∧ mDy h n jn ∧ h 64 32 ≤ 999
theorem mpk_inv {h h1 : zH} {n jn c : Nat} (hc : c = 87 ∨ c = 94) (hp : mpk h c 0 h1) (hct : mCt h n jn) (hdy : mDy h n jn) : mCt h1 n jn ∧ mDy h1 n jn ∧ (gM h1 = gM h ∧ h1 80 = h 80 ∧ h1 64 = h 64 ∧ h1 81 = h 81) ∧ ∀ k, RM h1 n jn k = RM h n jn k := by
  have e : ∀ c2 : Nat, c2 ≠ 87 → c2 ≠ 94 → h1 c2 = h c2 := fun c2 a b => hp.1 c2 (by omega)
  have gm : gM h1 = gM h := by
    unfold gM
    rw [ruM_congr (ru := 0) (e 68 (by decide) (by decide)) (e 75 (by decide) (by decide)), ruM_congr (ru := 1) (e 68 (by decide) (by decide)) (e 76 (by decide) (by decide)), e 81 (by decide) (by decide), e 82 (by decide) (by decide), e 78 (by decide) (by decide), e 64 (by decide) (by decide), e 70 (by decide) (by decide), e 71 (by decide) (by decide), e 68 (by decide) (by decide)]
  obtain ⟨d1, d2, d3, d4, d5, d6⟩ := hdy
  refine ⟨mCt_congr (e 68 (by decide) (by decide)) (e 70 (by decide) (by decide)) (e 71 (by decide) (by decide)) (e 74 (by decide) (by decide)) (e 75 (by decide) (by decide)) (e 76 (by decide) (by decide)) hct, ⟨by rw [e 80 (by decide) (by decide)]; exact d1, by rw [e 78 (by decide) (by decide)]; exact d2, by rw [e 82 (by decide) (by decide)]; exact d3, by rw [e 81 (by decide) (by decide)]; exact d4, by rw [e 64 (by decide) (by decide)]; exact d5, by rw [e 64 (by decide) (by decide)]; exact d6⟩, ⟨gm, e 80 (by decide) (by decide), e 64 (by decide) (by decide), e 81 (by decide) (by decide)⟩, fun k => ?_⟩
  unfold RM
  rw [gm, e 80 (by decide) (by decide), e 64 (by decide) (by decide)]
def oneM (h : zH) (n jn : Nat) : Int := oneV n jn (gM h) (h 64 32) (h 80)
theorem zsh87 : zsh[87]? = some (.inr (0, 27)) := rfl
theorem zsh94 : zsh[94]? = some (.inr (0, 27)) := rfl
theorem zsh83 : zsh[83]? = some (.inr (0, 1080)) := rfl
theorem scr87 : scr 87 := ⟨by decide, by decide, by decide, by decide⟩
theorem scr94 : scr 94 := ⟨by decide, by decide, by decide, by decide⟩
theorem scr83 : scr 83 := ⟨by decide, by decide, by decide, by decide⟩

set_option maxRecDepth 100000 in
theorem c6_nextVerdict {E : zE} {h : zH} {n jn : Nat} (d k : Nat) (hd : 8 ≤ d) (hct : mCt h n jn) (hdy : mDy h n jn) (hc9 : h 64 32 ≤ 999) : zCal E mX6_nextVerdict d k [zrv E 64] h (fun r h' => r = some (ziv (oneM h n jn)) ∧ mq h h' ∧ h' 64 4 = h 64 4 ∧ (∀ c2 : Nat, c2 ≠ 64 → c2 ≠ 80 → c2 ≠ 81 → c2 ≠ 82 → c2 ≠ 84 → c2 ≠ 85 → c2 ≠ 86 → c2 ≠ 87 → h' c2 = h c2) ∧ ∀ j, j ≠ 37 → h' 64 j = h 64 j) (fun _ _ => False) := by
  refine zCal_of (by decide) (Nat.le_of_ble_eq_true rfl) (fun a => ?_)
  show zV _ 0 0 [zrv E 64, .null] [] _
  refine zV_aload_nr dX6_nextVerdict_0 rfl rfl ?_
  refine zV_aload_nr dX6_nextVerdict_1 rfl rfl ?_
  refine gf6_103 rfl (rfl) dX6_nextVerdict_2 ?_
  refine zV_teq (w := zrv E 87) rfl ?_
  refine zV_iconst dX6_nextVerdict_5 ?_
  refine zV_callV (As := [zrv E 87, ziv ((0 : Nat) : Int)]) lk6_372 (rfl) rfl rfl (c6_pack (c := 87) (N := 27) (f := 0) (d - 1) 0 zsh87 (by decide) scr87 (by decide)) ⟨by show _ + 1 ≤ d; omega, by show _ ≤ k; omega⟩ rfl (Nat.le_of_ble_eq_true rfl) dX6_nextVerdict_6 (fun _ _ z => z.elim) (fun r h1 q => ?_)
  obtain ⟨rfl, pk⟩ := q
  obtain ⟨ct1, dy1, ⟨gm1, e80, e64, e81⟩, rr1⟩ := mpk_inv (Or.inl rfl) pk hct hdy
  refine zV_aload_nr dX6_nextVerdict_9 rfl rfl ?_
  refine zV_callV (As := []) lk6_369 (rfl) rfl rfl (c6_aCase (n := n) (jn := jn) (d - 1) 0 (by omega) ct1 dy1) ⟨by show _ + 1 ≤ d; omega, by show _ ≤ k; omega⟩ rfl (Nat.le_of_ble_eq_true rfl) dX6_nextVerdict_10 (fun _ _ z => z.elim) (fun r h2 q => ?_)
  obtain ⟨rfl, q⟩ := q
  have r1 := mrun_s ct1 (by rw [e64]; omega) (mrun_0 ct1 dy1) q
  refine zV_aload_nr dX6_nextVerdict_13 rfl rfl ?_
  refine gf6_154 rfl rfl dX6_nextVerdict_14 ?_
  refine zV_teq (w := ziv (oneM h n jn)) (congrArg ziv (by rw [(r1.2.2.1 (by omega)).1, rr1]; rfl)) ?_
  refine zV_istore_n dX6_nextVerdict_17 rfl (Nat.le_of_ble_eq_true rfl) rfl ?_
  refine zV_aload_nr dX6_nextVerdict_18 rfl rfl ?_
  refine zV_aload_nr dX6_nextVerdict_19 rfl rfl ?_
  refine gf6_103 rfl (rfl) dX6_nextVerdict_20 ?_
  refine zV_teq (w := zrv E 87) rfl ?_
  refine zV_iconst dX6_nextVerdict_23 ?_
  refine zV_callV (As := [zrv E 87, ziv ((0 : Nat) : Int)]) lk6_376 (rfl) rfl rfl (c6_unpack (c := 87) (N := 27) (f := 0) (d - 1) 0 zsh87 (by decide) scr87 (by decide)) ⟨by show _ + 1 ≤ d; omega, by show _ ≤ k; omega⟩ rfl (Nat.le_of_ble_eq_true rfl) dX6_nextVerdict_24 (fun _ _ z => z.elim) (fun r h4 q => ?_)
  obtain ⟨rfl, up⟩ := q
  refine zV_iload_n dX6_nextVerdict_27 rfl rfl ?_
  exact zV_ireturn dX6_nextVerdict_28 rfl (Nat.zero_le _) ⟨rfl, mq_run (Or.inl rfl) pk r1.1 up, mq_run4 (Or.inl rfl) pk r1.1 up, fun c2 a1 a2 a3 a4 a5 a6 a7 a8 => by rw [up.1 c2 a1 a2 a3 a4, q.1.1 c2 a1 a2 a5 a6 a7, pk.1 c2 a8], fun j hj => by
    by_cases e : stf j
    · exact (mq_run (Or.inl rfl) pk r1.1 up).2.2 j e
    · rw [up.2.1 j (fun z => e (by unfold stf; omega)) (fun z => e (by unfold stf; omega)) (fun z => e (by unfold stf; omega)), q.1.2 j (fun z => e (by unfold stf; omega)) (fun z => e (by unfold stf; omega)) hj, e64]⟩
