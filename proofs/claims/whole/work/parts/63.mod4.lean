set_option maxRecDepth 100000 in
theorem c6_valueNow {E : zE} {h : zH} {c : Nat} {l : List Int} {dr b : Bool} (d k : Nat) (hd : 1 ≤ d) (hc : c = 75 ∨ c = 76) (hl7 : l.length ≤ 700) (hne : l ≠ []) (hg : ∀ k, k + 31 ≤ 64 → hgL l k = some (k + 1)) (hx : ∀ x ∈ l, tkB dr b x) (hsg : ∀ i, i < l.length → h c i = enc (l.getD i 0)) (hen : ∀ j, j < 7 → (dr = false → j < 5) → -2147483648 ≤ h 84 j ∧ h 84 j ≤ 2147483647) : zCal E mX6_valueNow d k [zrv E 64, zrv E c, ziv (l.length : Int)] h (fun r h' => r = some (ziv ((evN (askE (h 84)) (fun i => l.getD i 0) 0 l.length).headD 0)) ∧ (-2147483648 ≤ (evN (askE (h 84)) (fun i => l.getD i 0) 0 l.length).headD 0 ∧ (evN (askE (h 84)) (fun i => l.getD i 0) 0 l.length).headD 0 ≤ 2147483647) ∧ ∀ c2 : Nat, c2 ≠ 85 → h' c2 = h c2) (fun _ _ => False) := by
  refine zCal_of (by decide) (Nat.le_of_ble_eq_true rfl) (fun a => ?_)
  show zV _ 0 0 [zrv E 64, zrv E c, ziv (l.length : Int), .null, .null, .null] [] _
  have hcz : zsh[c]? = some (.inr (0, 1400)) := by rcases hc with rfl | rfl <;> rfl
  have hc85 : c ≠ 85 := by omega
  have hwf := wf_of (tk := fun i => l.getD i 0) (fr := 0) (l := l) (fun i _ => by rw [Nat.zero_add]) hg hx (askE (h 84))
  have hlen := ev_one (tk := fun i => l.getD i 0) (fr := 0) (l := l) (fun i _ => by rw [Nat.zero_add]) (hg 0 (by decide)) (askE (h 84))
  have henv : ∀ i, i < l.length → l.getD i 0 < -9 → -2147483648 ≤ askE (h 84) (l.getD i 0) ∧ askE (h 84) (l.getD i 0) ≤ 2147483647 := fun i hi hz => by
    have := (hwf i hi).1
    rw [Nat.zero_add] at this
    dsimp only at this
    have hz2 := hx (l.getD i 0) (by rw [List.getD_eq_getElem?_getD, List.getElem?_eq_getElem hi]; exact List.getElem_mem hi)
    exact hen _ (by omega) (fun e => by have := hz2.2.2.1 e; omega)
  refine zV_iconst dX6_valueNow_0 ?_
  refine zV_istore_n dX6_valueNow_1 rfl (Nat.le_of_ble_eq_true rfl) rfl ?_
  refine zV_iconst dX6_valueNow_2 ?_
  refine zV_istore dX6_valueNow_3 (Nat.le_of_ble_eq_true rfl) rfl ?_
  have L5 : ∀ (m : Nat) (i : Nat) (st : List Int) (h1 : zH), (l.length + 1 ≤ i + m) → (i ≤ l.length) → (∀ c2 : Nat, c2 ≠ 85 → h1 c2 = h c2) → (evN (askE (h 84)) (fun i => l.getD i 0) 0 i = st) → (stk (h1 85) st) → (rngS st) → zV (E, mX6_valueNow, d, k, (fun r h' => r = some (ziv ((evN (askE (h 84)) (fun i => l.getD i 0) 0 l.length).headD 0)) ∧ (-2147483648 ≤ (evN (askE (h 84)) (fun i => l.getD i 0) 0 l.length).headD 0 ∧ (evN (askE (h 84)) (fun i => l.getD i 0) 0 l.length).headD 0 ≤ 2147483647) ∧ ∀ c2 : Nat, c2 ≠ 85 → h' c2 = h c2), (fun _ _ => False), a) 0 5 [zrv E 64, zrv E c, ziv (l.length : Int), ziv (st.length : Int), ziv (i : Int), .null] [] h1 := by
    intro m
    induction m with
    | zero => intro i st h1 hm_ hi hf hst hs hrs; exfalso; omega
    | succ m ih =>
      intro i st h1 hm_ hi hf hst hs hrs
      refine zV_iload dX6_valueNow_5 rfl ?_
      refine zV_iload_n dX6_valueNow_7 rfl rfl ?_
      refine zR_icmp_ge (tgt := 125) dX6_valueNow_8 (by decide) (by omega) (by omega) (fun h8 => ?_) (fun h8 => ?_)
      · refine zV_aload_nr dX6_valueNow_125 rfl rfl ?_
        refine gf6_97 rfl (rfl) dX6_valueNow_126 ?_
        refine zV_teq (w := zrv E 85) rfl ?_
        refine zV_iconst dX6_valueNow_129 ?_
        refine zV_ialoadN (i := 0) (N := 64) (rfl) (by decide) (by decide) dX6_valueNow_130 ?_
        exact zV_ireturn dX6_valueNow_131 rfl (Nat.zero_le _) ⟨by
          have e9 : i = l.length := by omega
          subst e9
          rw [hst] at hlen ⊢
          obtain ⟨y, rfl⟩ := List.length_eq_one_iff.mp hlen
          show some (ziv (h1 85 0)) = some (ziv y)
          rw [show h1 85 0 = y from hs.1], by
          have e9 : i = l.length := by omega
          subst e9
          rw [hst] at hlen ⊢
          obtain ⟨y, rfl⟩ := List.length_eq_one_iff.mp hlen
          exact hrs y List.mem_cons_self, hf⟩
      · refine zV_aload_nr dX6_valueNow_11 rfl rfl ?_
        refine zV_iload dX6_valueNow_12 rfl ?_
        refine zV_ialoadN (i := i) (N := 1400) (hcz) (by omega) (by decide) dX6_valueNow_14 ?_
        rw [hf c hc85, hsg i (by omega)]
        have hw := hwf i (by omega)
        rw [Nat.zero_add] at hw
        dsimp only at hw
        have hen2 := henv i (by omega)
        generalize hx9 : l.getD i 0 = x at *
        have he := enc_c x
        obtain ⟨w1, w2, w3, w4, w5⟩ := hw
        rw [hst] at w3 w4 w5
        have hnx : evN (askE (h 84)) (fun i => l.getD i 0) 0 (i + 1) = evT (askE (h 84)) x st := by
          show evT (askE (h 84)) (l.getD (0 + i) 0) (evN (askE (h 84)) (fun i => l.getD i 0) 0 i) = _
          rw [hst, Nat.zero_add, hx9]
        refine zV_istore dX6_valueNow_15 (Nat.le_of_ble_eq_true rfl) rfl ?_
        refine zV_iload dX6_valueNow_17 rfl ?_
        refine zV_bipush dX6_valueNow_19 (by decide) ?_
        refine zR_icmp_le (tgt := 55) dX6_valueNow_21 (by decide) (by omega) (by omega) (fun h21 => ?_) (fun h21 => ?_)
        · refine zV_iload dX6_valueNow_55 rfl ?_
          refine zV_bipush dX6_valueNow_57 (by decide) ?_
          refine zR_icmp_ne (tgt := 89) dX6_valueNow_59 (by decide) (by omega) (by omega) (fun h59 => ?_) (fun h59 => ?_)
          · have l1 := w5 (by omega) (by omega)
            obtain ⟨y, z, r, rfl⟩ : ∃ y z r, st = y :: z :: r := by
              match st, l1 with
              | [], l1 => simp at l1
              | [y], l1 => simp at l1
              | y :: z :: r, _ => exact ⟨y, z, r, rfl⟩
            have r64 : r.length + 1 < 64 := by
              have h9 := hgt_lo hst hwf (by omega)
              simp only [List.length_cons] at h9; omega
            have ry := hrs y List.mem_cons_self
            have rz := hrs z (List.mem_cons_of_mem _ List.mem_cons_self)
            refine zV_iinc dX6_valueNow_89 rfl (Nat.le_of_ble_eq_true rfl) rfl ?_
            refine zV_lveq (lv' := [zrv E 64, zrv E c, ziv (l.length : Int), ziv ((r.length + 1 : Nat) : Int), ziv (i : Int), ziv (enc x)]) (by show _ = [zrv E 64, zrv E c, ziv (l.length : Int), ziv (((r.length + 1 + 1 : Nat) : Int) + -1), ziv (i : Int), ziv (enc x)]; rw [show ((r.length + 1 + 1 : Nat) : Int) + -1 = ((r.length + 1 : Nat) : Int) by omega]) ?_
            refine zV_aload_nr dX6_valueNow_92 rfl rfl ?_
            refine gf6_97 rfl (rfl) dX6_valueNow_93 ?_
            refine zV_teq (w := zrv E 85) rfl ?_
            refine zV_iload_n dX6_valueNow_96 rfl rfl ?_
            refine zV_iconst dX6_valueNow_97 ?_
            refine zV_isub dX6_valueNow_98 ?_
            refine zV_teq (w := ziv (r.length : Int)) (by congr 1; show (r.length : Int) = ((r.length + 1 : Nat) : Int) - 1; omega) ?_
            refine zV_iload dX6_valueNow_99 rfl ?_
            refine zV_aload_nr dX6_valueNow_101 rfl rfl ?_
            refine gf6_97 rfl (rfl) dX6_valueNow_102 ?_
            refine zV_teq (w := zrv E 85) rfl ?_
            refine zV_iload_n dX6_valueNow_105 rfl rfl ?_
            refine zV_iconst dX6_valueNow_106 ?_
            refine zV_isub dX6_valueNow_107 ?_
            refine zV_teq (w := ziv (r.length : Int)) (by congr 1; show (r.length : Int) = ((r.length + 1 : Nat) : Int) - 1; omega) ?_
            refine zV_ialoadN (i := r.length) (N := 64) (rfl) (by omega) (by decide) dX6_valueNow_108 ?_
            refine zV_aload_nr dX6_valueNow_109 rfl rfl ?_
            refine gf6_97 rfl (rfl) dX6_valueNow_110 ?_
            refine zV_teq (w := zrv E 85) rfl ?_
            refine zV_iload_n dX6_valueNow_113 rfl rfl ?_
            refine zV_ialoadN (i := (r.length + 1)) (N := 64) (rfl) (by omega) (by decide) dX6_valueNow_114 ?_
            rw [show h1 85 (r.length + 1) = y from hs.1, show h1 85 r.length = z from hs.2.1]
            refine zV_callS (As := [ziv (enc x), ziv z, ziv y]) lk6_325 (c6_reckon (d - 1) 0 (by omega) rz ry) ⟨by show _ + 1 ≤ d; omega, by show _ ≤ k; omega⟩ rfl (Nat.le_of_ble_eq_true rfl) dX6_valueNow_115 (fun _ _ z => z.elim) (fun r h9 q => ?_)
            obtain ⟨rfl, hh⟩ := q
            rw [hh]
            clear hh
            refine zV_iastoreN (i := r.length) (N := 64) (rfl) (by omega) (by decide) dX6_valueNow_118 ?_
            refine zV_iinc dX6_valueNow_119 rfl (Nat.le_of_ble_eq_true rfl) rfl ?_
            refine zV_goto (tgt := 5) dX6_valueNow_122 (by decide) ?_
            refine zV_drop 5 ?_
            refine zV_lveq (lv' := [zrv E 64, zrv E c, ziv (l.length : Int), ziv ((joinS x z y :: r).length : Int), ziv ((i : Int) + 1), .null]) rfl ?_
            refine ih (i + 1) (joinS x z y :: r) _ (by omega) (by omega) (fun c2 e => by rw [zup_fn e]; exact hf c2 e) (by rw [hnx]; unfold evT; rw [if_neg (by omega), if_neg (by omega)]) ⟨by rw [zup_at, if_pos rfl], stk_up (Nat.le_refl _) hs.2.2⟩ (fun w hw9 => by
              rcases List.mem_cons.mp hw9 with rfl | hw9
              · exact joinS_r _ _ _
              · exact hrs w (List.mem_cons_of_mem _ (List.mem_cons_of_mem _ hw9)))
          · have x3 : x = -3 := by omega
            have l1 := w4 x3
            obtain ⟨y, r, rfl⟩ : ∃ y r, st = y :: r := by
              cases st with
              | nil => simp at l1
              | cons y r => exact ⟨y, r, rfl⟩
            have r64 : r.length < 64 := by
              have h9 := hgt_lo hst hwf (by omega)
              simp only [List.length_cons] at h9; omega
            refine zV_aload_nr dX6_valueNow_62 rfl rfl ?_
            refine gf6_97 rfl (rfl) dX6_valueNow_63 ?_
            refine zV_teq (w := zrv E 85) rfl ?_
            refine zV_iload_n dX6_valueNow_66 rfl rfl ?_
            refine zV_iconst dX6_valueNow_67 ?_
            refine zV_isub dX6_valueNow_68 ?_
            refine zV_teq (w := ziv (r.length : Int)) (by congr 1; show (r.length : Int) = ((r.length + 1 : Nat) : Int) - 1; omega) ?_
            refine zV_aload_nr dX6_valueNow_69 rfl rfl ?_
            refine gf6_97 rfl (rfl) dX6_valueNow_70 ?_
            refine zV_teq (w := zrv E 85) rfl ?_
            refine zV_iload_n dX6_valueNow_73 rfl rfl ?_
            refine zV_iconst dX6_valueNow_74 ?_
            refine zV_isub dX6_valueNow_75 ?_
            refine zV_teq (w := ziv (r.length : Int)) (by congr 1; show (r.length : Int) = ((r.length + 1 : Nat) : Int) - 1; omega) ?_
            refine zV_ialoadN (i := r.length) (N := 64) (rfl) (by omega) (by decide) dX6_valueNow_76 ?_
            rw [show h1 85 r.length = y from hs.1]
            have hr0 := hrs y List.mem_cons_self
            refine zR_if_eq (tgt := 84) dX6_valueNow_77 (by decide) (by omega) (fun h77 => ?_) (fun h77 => ?_)
            · refine zV_iconst dX6_valueNow_84 ?_
              refine zV_iastoreN (i := r.length) (N := 64) (rfl) (by omega) (by decide) dX6_valueNow_85 ?_
              refine zV_goto (tgt := 119) dX6_valueNow_86 (by decide) ?_
              refine zV_iinc dX6_valueNow_119 rfl (Nat.le_of_ble_eq_true rfl) rfl ?_
              refine zV_goto (tgt := 5) dX6_valueNow_122 (by decide) ?_
              refine zV_drop 5 ?_
              refine ih (i + 1) (1 :: r) _ (by omega) (by omega) (fun c2 e => by rw [zup_fn e]; exact hf c2 e) (by rw [hnx]; unfold evT; rw [if_neg (by omega), if_pos x3]; show (if y = 0 then (1 : Int) else 0) :: r = _; rw [if_pos h77]) ⟨by rw [zup_at, if_pos rfl], stk_up (Nat.le_refl _) hs.2⟩ (fun w hw9 => by
                rcases List.mem_cons.mp hw9 with rfl | hw9
                · decide
                · exact hrs w (List.mem_cons_of_mem _ hw9))
            · refine zV_iconst dX6_valueNow_80 ?_
              refine zV_goto (tgt := 85) dX6_valueNow_81 (by decide) ?_
              refine zV_iastoreN (i := r.length) (N := 64) (rfl) (by omega) (by decide) dX6_valueNow_85 ?_
              refine zV_goto (tgt := 119) dX6_valueNow_86 (by decide) ?_
              refine zV_iinc dX6_valueNow_119 rfl (Nat.le_of_ble_eq_true rfl) rfl ?_
              refine zV_goto (tgt := 5) dX6_valueNow_122 (by decide) ?_
              refine zV_drop 5 ?_
              refine ih (i + 1) (0 :: r) _ (by omega) (by omega) (fun c2 e => by rw [zup_fn e]; exact hf c2 e) (by rw [hnx]; unfold evT; rw [if_neg (by omega), if_pos x3]; show (if y = 0 then (1 : Int) else 0) :: r = _; rw [if_neg h77]) ⟨by rw [zup_at, if_pos rfl], stk_up (Nat.le_refl _) hs.2⟩ (fun w hw9 => by
                rcases List.mem_cons.mp hw9 with rfl | hw9
                · decide
                · exact hrs w (List.mem_cons_of_mem _ hw9))
        · refine zV_aload_nr dX6_valueNow_24 rfl rfl ?_
          refine gf6_97 rfl (rfl) dX6_valueNow_25 ?_
          refine zV_teq (w := zrv E 85) rfl ?_
          refine zV_iload_n dX6_valueNow_28 rfl rfl ?_
          refine zV_iload dX6_valueNow_29 rfl ?_
          refine zR_if_lt (tgt := 39) dX6_valueNow_31 (by decide) (by omega) (fun h31 => ?_) (fun h31 => ?_)
          · refine zV_aload_nr dX6_valueNow_39 rfl rfl ?_
            refine gf6_94 rfl (rfl) dX6_valueNow_40 ?_
            refine zV_teq (w := zrv E 84) rfl ?_
            refine zV_iconst dX6_valueNow_43 ?_
            refine zV_iload dX6_valueNow_44 rfl ?_
            refine zV_isub dX6_valueNow_46 ?_
            refine zV_iaload (N := 7) (rfl) (by omega) (by decide) dX6_valueNow_47 ?_
            try (rw [hf 84 (by decide), show (-1 - enc x).toNat = (-10 - x).toNat by omega]; refine zV_teq (w := ziv (askE (h 84) x)) rfl ?_)
            have hp64 : st.length < 64 := w3 (by omega)
            refine zV_iastoreN (i := st.length) (N := 64) (rfl) hp64 (by decide) dX6_valueNow_48 ?_
            refine zV_iinc dX6_valueNow_49 rfl (Nat.le_of_ble_eq_true rfl) rfl ?_
            refine zV_goto (tgt := 119) dX6_valueNow_52 (by decide) ?_
            refine zV_iinc dX6_valueNow_119 rfl (Nat.le_of_ble_eq_true rfl) rfl ?_
            refine zV_goto (tgt := 5) dX6_valueNow_122 (by decide) ?_
            refine zV_drop 5 ?_
            refine ih (i + 1) (askE (h 84) x :: st) _ (by omega) (by omega) (fun c2 e => by rw [zup_fn e]; exact hf c2 e) (by rw [hnx]; unfold evT; rw [if_pos (by omega), if_neg (by omega)]) ⟨by rw [zup_at, if_pos rfl], stk_up (Nat.le_refl _) hs⟩ (fun w hw9 => by
              rcases List.mem_cons.mp hw9 with rfl | hw9
              · exact hen2 (by omega)
              · exact hrs w hw9)
          · refine zV_iload dX6_valueNow_34 rfl ?_
            refine zV_goto (tgt := 48) dX6_valueNow_36 (by decide) ?_
            try (rw [hf 84 (by decide), show (-1 - enc x).toNat = (-10 - x).toNat by omega]; refine zV_teq (w := ziv (askE (h 84) x)) rfl ?_)
            have hp64 : st.length < 64 := w3 (by omega)
            refine zV_iastoreN (i := st.length) (N := 64) (rfl) hp64 (by decide) dX6_valueNow_48 ?_
            refine zV_iinc dX6_valueNow_49 rfl (Nat.le_of_ble_eq_true rfl) rfl ?_
            refine zV_goto (tgt := 119) dX6_valueNow_52 (by decide) ?_
            refine zV_iinc dX6_valueNow_119 rfl (Nat.le_of_ble_eq_true rfl) rfl ?_
            refine zV_goto (tgt := 5) dX6_valueNow_122 (by decide) ?_
            refine zV_drop 5 ?_
            refine ih (i + 1) (x :: st) _ (by omega) (by omega) (fun c2 e => by rw [zup_fn e]; exact hf c2 e) (by rw [hnx]; unfold evT; rw [if_pos (by omega), if_pos (by omega)]) ⟨by rw [zup_at, if_pos rfl]; omega, stk_up (Nat.le_refl _) hs⟩ (fun w hw9 => by
              rcases List.mem_cons.mp hw9 with rfl | hw9
              · omega
              · exact hrs w hw9)
  exact L5 (l.length + 1) 0 [] h (by omega) (by omega) (fun _ _ => rfl) rfl trivial (fun x hx => (List.not_mem_nil hx).elim)
