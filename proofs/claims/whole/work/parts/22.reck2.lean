theorem len_evN {env : Int → Int} {tk : Nat → Int} {fr m : Nat} (hw : wfN env tk fr m) : ∀ i, i ≤ m → (evN env tk fr i).length ≤ 64 := by
  intro i
  induction i with
  | zero => intro _; simp [evN]
  | succ i ih =>
    intro hi
    have h1 := ih (by omega)
    have h2 := hw i (by omega)
    show (evT env (tk (fr + i)) (evN env tk fr i)).length ≤ 64
    unfold evT
    split
    · rename_i hp; have := h2.2.2.1 hp; simp only [List.length_cons]; omega
    · split
      · split
        · rename_i e; rw [e] at h1; simpa using h1
        · simp
      · split
        · rename_i e; rw [e] at h1; simp only [List.length_cons] at h1 ⊢; omega
        · exact h1
set_option maxRecDepth 100000 in
theorem c4_valueOf {E : zE} {h : zH} {c t n ru fr mm : Nat} {th se mo wh od : Int} (d k : Nat) (hd : 1 ≤ d) (hc : isCup c) (ht : isCourt t) (hn : n ≤ 8) (hl : h t 0 = (n : Int)) (hp : ∀ l, l < n → 0 ≤ h (c + 1) l ∧ h (c + 1) l < 12) (hru : ru < 2) (hfr : h (t + 8) ru = (fr : Int)) (hto : h (t + 9) ru = ((fr + mm : Nat) : Int)) (h700 : fr + mm ≤ 700) (hlk : h (t + 11) ru = 0 ∨ h (t + 11) ru = 1) (hmo : mo = if h (t + 11) ru = 0 then h 28 2 else mostS (h (c + 1)) n) (hwh : wh = if h (t + 11) ru = 0 then h 28 3 else whereS (h (c + 1)) n) (hod : od = if h (t + 11) ru = 0 then h 28 4 else oddS (h (c + 1)) n) (hrk : ∀ j, 2 ≤ j → j ≤ 4 → 0 ≤ h 28 j ∧ h 28 j ≤ 12) (hth : -2147483648 ≤ th ∧ th ≤ 2147483647) (hse : -2147483648 ≤ se ∧ se ≤ 2147483647) (hle : -2147483648 ≤ (h c 8) ∧ (h c 8) ≤ 2147483647) (hca : -2147483648 ≤ (h c 6) ∧ (h c 6) ≤ 2147483647) (hwf : wfN (envS (h c 8) mo wh od (h c 6) th se) (h (t + 7)) fr mm) : zCal E mX4_valueOf d k [zrv E 28, zrv E t, ziv (ru : Int), zrv E c, ziv th, ziv se] h (fun r h' => r = some (ziv ((evN (envS (h c 8) mo wh od (h c 6) th se) (h (t + 7)) fr mm).headD 0)) ∧ (∀ c2 : Nat, c2 ≠ 28 → c2 ≠ 29 → c2 ≠ 30 → h' c2 = h c2) ∧ ∀ j, 2 ≤ j → j ≤ 4 → 0 ≤ h' 28 j ∧ h' 28 j ≤ 12) (fun _ _ => False) := by
  refine zCal_of (by decide) (Nat.le_of_ble_eq_true rfl) (fun a => ?_)
  show zV _ 0 0 [zrv E 28, zrv E t, ziv (ru : Int), zrv E c, ziv th, ziv se, .null, .null, .null, .null] [] _
  have hc9 : c = 32 ∨ c = 43 ∨ c = 53 := hc
  have ht9 : t = 2 ∨ t = 16 := ht
  have henv : ∀ v, -2147483648 ≤ (envS (h c 8) mo wh od (h c 6) th se) v ∧ (envS (h c 8) mo wh od (h c 6) th se) v ≤ 2147483647 := by
    intro v
    have g1 := mwS_lo (h (c + 1)) n 12
    have g2 := oddS_lo (h (c + 1)) n
    have k2 := hrk 2 (by omega) (by omega)
    have k3 := hrk 3 (by omega) (by omega)
    have k4 := hrk 4 (by omega) (by omega)
    have q1 : 0 ≤ mo ∧ mo ≤ 12 := by rw [hmo]; unfold mostS; split <;> omega
    have q2 : 0 ≤ wh ∧ wh ≤ 12 := by rw [hwh]; unfold whereS; split <;> omega
    have q3 : 0 ≤ od ∧ od ≤ 12 := by rw [hod]; split <;> omega
    unfold envS
    repeat' split
    all_goals omega
  have J15 : ∀ (h2 : zH), (∀ c2 : Nat, c2 ≠ 28 → c2 ≠ 30 → h2 c2 = h c2) → (h2 28 2 = mo) → (h2 28 3 = wh) → (h2 28 4 = od) → (∀ j, 2 ≤ j → j ≤ 4 → 0 ≤ h2 28 j ∧ h2 28 j ≤ 12) → zV (E, mX4_valueOf, d, k, (fun r h' => r = some (ziv ((evN (envS (h c 8) mo wh od (h c 6) th se) (h (t + 7)) fr mm).headD 0)) ∧ (∀ c2 : Nat, c2 ≠ 28 → c2 ≠ 29 → c2 ≠ 30 → h' c2 = h c2) ∧ ∀ j, 2 ≤ j → j ≤ 4 → 0 ≤ h' 28 j ∧ h' 28 j ≤ 12), (fun _ _ => False), a) 0 15 [zrv E 28, zrv E t, ziv (ru : Int), zrv E c, ziv th, ziv se, .null, .null, .null, .null] [] h2 := by
    intro h2 hag e2 e3 e4 hr2
    refine zV_iconst dX4_valueOf_15 ?_
    refine zV_istore dX4_valueOf_16 (Nat.le_of_ble_eq_true rfl) rfl ?_
    refine zV_aload_nr dX4_valueOf_18 rfl rfl ?_
    refine gf4_62 rfl (court_0 ht) dX4_valueOf_19 ?_
    refine zV_iload_n dX4_valueOf_22 rfl rfl ?_
    refine zV_ialoadN (i := ru) (N := 2) (court_9 ht) (by omega) (by decide) dX4_valueOf_23 ?_
    rw [hag (t + 9) (by omega) (by omega), hto]
    refine zV_aload_nr dX4_valueOf_24 rfl rfl ?_
    refine gf4_65 rfl (court_0 ht) dX4_valueOf_25 ?_
    refine zV_alen (t := 0) (N := 700) (court_7 ht) dX4_valueOf_28 ?_
    refine zV_callS (As := [ziv ((fr + mm : Nat) : Int), ziv ((700 : Nat) : Int)]) lk4_44 (cJ_min (d - 1) 0 (by omega) (by omega)) ⟨by show _ + 1 ≤ d; omega, by show _ ≤ k; omega⟩ rfl (Nat.le_of_ble_eq_true rfl) dX4_valueOf_29 (fun _ _ z => z.elim) (fun r h' q => ?_)
    obtain ⟨rfl, hh⟩ := q
    rw [hh]
    refine zV_teq (w := ziv ((fr + mm : Nat) : Int)) (by rw [Int.min_eq_left (by omega)]) ?_
    refine zV_istore dX4_valueOf_32 (Nat.le_of_ble_eq_true rfl) rfl ?_
    refine zV_iconst dX4_valueOf_34 ?_
    refine zV_aload_nr dX4_valueOf_35 rfl rfl ?_
    refine gf4_68 rfl (court_0 ht) dX4_valueOf_36 ?_
    refine zV_iload_n dX4_valueOf_39 rfl rfl ?_
    refine zV_ialoadN (i := ru) (N := 2) (court_8 ht) (by omega) (by decide) dX4_valueOf_40 ?_
    rw [hag (t + 8) (by omega) (by omega), hfr]
    refine zV_callS (As := [ziv 0, ziv (fr : Int)]) lk4_38 (cJ_max (d - 1) 0 (by omega) (by omega)) ⟨by show _ + 1 ≤ d; omega, by show _ ≤ k; omega⟩ rfl (Nat.le_of_ble_eq_true rfl) dX4_valueOf_41 (fun _ _ z => z.elim) (fun r h' q => ?_)
    obtain ⟨rfl, hh⟩ := q
    rw [hh]
    refine zV_teq (w := ziv (fr : Int)) (by rw [Int.max_eq_right (by omega)]) ?_
    refine zV_istore dX4_valueOf_44 (Nat.le_of_ble_eq_true rfl) rfl ?_
    have L46 : ∀ (m : Nat) (i : Nat) (h1 : zH), (mm + 1 ≤ i + m) → (i ≤ mm) → (∀ c2 : Nat, c2 ≠ 29 → h1 c2 = h2 c2) → (stk (h1 29) (evN (envS (h c 8) mo wh od (h c 6) th se) (h (t + 7)) fr i)) → zV (E, mX4_valueOf, d, k, (fun r h' => r = some (ziv ((evN (envS (h c 8) mo wh od (h c 6) th se) (h (t + 7)) fr mm).headD 0)) ∧ (∀ c2 : Nat, c2 ≠ 28 → c2 ≠ 29 → c2 ≠ 30 → h' c2 = h c2) ∧ ∀ j, 2 ≤ j → j ≤ 4 → 0 ≤ h' 28 j ∧ h' 28 j ≤ 12), (fun _ _ => False), a) 0 46 [zrv E 28, zrv E t, ziv (ru : Int), zrv E c, ziv th, ziv se, ziv ((evN (envS (h c 8) mo wh od (h c 6) th se) (h (t + 7)) fr i).length : Int), ziv ((fr + mm : Nat) : Int), ziv ((fr + i : Nat) : Int), .null] [] h1 := by
      intro m
      induction m with
      | zero => intro i h1 hm_ hi ha1 hsk; exfalso; omega
      | succ m ih =>
        intro i h1 hm_ hi ha1 hsk
        have hrg := rng_evN henv hwf i hi
        have h64 := len_evN hwf i hi
        obtain ⟨st, hst⟩ : ∃ z, z = evN (envS (h c 8) mo wh od (h c 6) th se) (h (t + 7)) fr i := ⟨_, rfl⟩
        rw [← hst] at hsk hrg h64 ⊢
        refine zV_iload dX4_valueOf_46 rfl ?_
        refine zV_iload dX4_valueOf_48 rfl ?_
        refine zR_icmp_ge (tgt := 205) dX4_valueOf_50 (by decide) (by omega) (by omega) (fun h50 => ?_) (fun h50 => ?_)
        · have e : mm = i := by omega
          subst e
          refine zV_iload dX4_valueOf_205 rfl ?_
          refine zV_iconst dX4_valueOf_207 ?_
          refine zR_icmp_lt (tgt := 223) dX4_valueOf_208 (by decide) (by omega) (by omega) (fun h208 => ?_) (fun h208 => ?_)
          · refine zV_iconst dX4_valueOf_223 ?_
            exact zV_ireturn dX4_valueOf_224 rfl (Nat.zero_le _) ⟨by rw [← hst]; cases st with
                | nil => rfl
                | cons x r => simp only [List.length_cons] at h208; omega, fun c2 a1 a2 a3 => by rw [ha1 c2 a2]; exact hag c2 a1 a3, fun j j1 j2 => by rw [ha1 28 (by decide)]; exact hr2 j j1 j2⟩
          · refine zV_aload_nr dX4_valueOf_211 rfl rfl ?_
            refine gf4_9 rfl (rfl) dX4_valueOf_212 ?_
            refine zV_teq (w := zrv E 29) rfl ?_
            refine zV_iload dX4_valueOf_215 rfl ?_
            refine zV_iconst dX4_valueOf_217 ?_
            refine zV_isub dX4_valueOf_218 ?_
            refine zV_iaload (N := 64) (rfl) (by omega) (by decide) dX4_valueOf_219 ?_
            refine zV_goto (tgt := 224) dX4_valueOf_220 (by decide) ?_
            exact zV_ireturn dX4_valueOf_224 rfl (Nat.zero_le _) ⟨by rw [← hst]; cases st with
                | nil => simp at h208
                | cons x r => rw [show (((x :: r).length : Int) - 1).toNat = r.length by simp only [List.length_cons]; omega, hsk.1]; rfl, fun c2 a1 a2 a3 => by rw [ha1 c2 a2]; exact hag c2 a1 a3, fun j j1 j2 => by rw [ha1 28 (by decide)]; exact hr2 j j1 j2⟩
        · refine zV_aload_nr dX4_valueOf_53 rfl rfl ?_
          refine gf4_65 rfl (court_0 ht) dX4_valueOf_54 ?_
          refine zV_iload dX4_valueOf_57 rfl ?_
          refine zV_ialoadN (i := (fr + i)) (N := 700) (court_7 ht) (by omega) (by decide) dX4_valueOf_59 ?_
          rw [ha1 (t + 7) (by omega), hag (t + 7) (by omega) (by omega)]
          have hw := hwf i (by omega)
          have hE : evN (envS (h c 8) mo wh od (h c 6) th se) (h (t + 7)) fr (i + 1) = evT (envS (h c 8) mo wh od (h c 6) th se) (h (t + 7) (fr + i)) st := by rw [hst]; rfl
          obtain ⟨tok, htok⟩ : ∃ z, z = h (t + 7) (fr + i) := ⟨_, rfl⟩
          rw [← htok] at hw hE ⊢
          rw [← hst] at hw
          refine zV_istore dX4_valueOf_60 (Nat.le_of_ble_eq_true rfl) rfl ?_
          have J74 : (0 ≤ tok ∨ tok < -9) → zV (E, mX4_valueOf, d, k, (fun r h' => r = some (ziv ((evN (envS (h c 8) mo wh od (h c 6) th se) (h (t + 7)) fr mm).headD 0)) ∧ (∀ c2 : Nat, c2 ≠ 28 → c2 ≠ 29 → c2 ≠ 30 → h' c2 = h c2) ∧ ∀ j, 2 ≤ j → j ≤ 4 → 0 ≤ h' 28 j ∧ h' 28 j ≤ 12), (fun _ _ => False), a) 0 74 [zrv E 28, zrv E t, ziv (ru : Int), zrv E c, ziv th, ziv se, ziv (st.length : Int), ziv ((fr + mm : Nat) : Int), ziv ((fr + i : Nat) : Int), ziv tok] [] h1 := by
            intro  hpu
            refine zV_iload dX4_valueOf_74 rfl ?_
            refine zV_aload_nr dX4_valueOf_76 rfl rfl ?_
            refine gf4_9 rfl (rfl) dX4_valueOf_77 ?_
            refine zV_teq (w := zrv E 29) rfl ?_
            refine zV_alen (t := 0) (N := 64) (rfl) dX4_valueOf_80 ?_
            refine zR_icmp_ge (tgt := 199) dX4_valueOf_81 (by decide) (by omega) (by omega) (fun h81 => ?_) (fun h81 => ?_)
            · exact absurd h81 (by have := hw.2.2.1 hpu; omega)
            · refine zV_aload_nr dX4_valueOf_84 rfl rfl ?_
              refine gf4_9 rfl (rfl) dX4_valueOf_85 ?_
              refine zV_teq (w := zrv E 29) rfl ?_
              refine zV_iload dX4_valueOf_88 rfl ?_
              refine zV_iload dX4_valueOf_90 rfl ?_
              refine zR_if_lt (tgt := 100) dX4_valueOf_92 (by decide) (by omega) (fun h92 => ?_) (fun h92 => ?_)
              · refine zV_aload_nr dX4_valueOf_100 rfl rfl ?_
                refine zV_iload dX4_valueOf_101 rfl ?_
                refine zV_aload_nr dX4_valueOf_103 rfl rfl ?_
                refine zV_iload dX4_valueOf_104 rfl ?_
                refine zV_iload dX4_valueOf_106 rfl ?_
                refine zV_callV (As := [ziv tok, zrv E c, ziv th, ziv se]) lk4_71 (rfl) rfl rfl (c4_named (d - 1) 0 hc (by omega)) ⟨by show _ + 1 ≤ d; omega, by show _ ≤ k; omega⟩ rfl (Nat.le_of_ble_eq_true rfl) dX4_valueOf_108 (fun _ _ z => z.elim) (fun r h' q => ?_)
                obtain ⟨rfl, hh⟩ := q
                rw [hh]
                rw [ha1 c (by omega), hag c (by omega) (by omega), ha1 28 (by decide), e2, e3, e4]
                refine zV_iastoreN (i := st.length) (N := 64) (rfl) (hw.2.2.1 hpu) (by decide) dX4_valueOf_111 ?_
                refine zV_iinc dX4_valueOf_112 rfl (Nat.le_of_ble_eq_true rfl) rfl ?_
                refine zV_goto (tgt := 199) dX4_valueOf_115 (by decide) ?_
                refine zV_iinc dX4_valueOf_199 rfl (Nat.le_of_ble_eq_true rfl) rfl ?_
                refine zV_goto (tgt := 46) dX4_valueOf_202 (by decide) ?_
                have hE2 : evN (envS (h c 8) mo wh od (h c 6) th se) (h (t + 7)) fr (i + 1) = (envS (h c 8) mo wh od (h c 6) th se) tok :: st := by rw [hE]; unfold evT; rw [if_pos hpu, if_neg (by omega)]
                refine zV_drop 9 ?_
                refine zV_lveq (lv' := [zrv E 28, zrv E t, ziv (ru : Int), zrv E c, ziv th, ziv se, ziv ((evN (envS (h c 8) mo wh od (h c 6) th se) (h (t + 7)) fr (i + 1)).length : Int), ziv ((fr + mm : Nat) : Int), ziv ((fr + (i + 1) : Nat) : Int), .null]) (by rw [hE2]; simp [Int.add_assoc]) ?_
                exact ih (i + 1) _ (by omega) (by omega) (fun c2 hc2 => by rw [zup_fn hc2]; exact ha1 c2 hc2) (by rw [hE2]; exact ⟨by rw [zup_at, if_pos rfl], stk_up (Nat.le_refl _) hsk⟩)
              · refine zV_iload dX4_valueOf_95 rfl ?_
                refine zV_goto (tgt := 111) dX4_valueOf_97 (by decide) ?_
                refine zV_iastoreN (i := st.length) (N := 64) (rfl) (hw.2.2.1 hpu) (by decide) dX4_valueOf_111 ?_
                refine zV_iinc dX4_valueOf_112 rfl (Nat.le_of_ble_eq_true rfl) rfl ?_
                refine zV_goto (tgt := 199) dX4_valueOf_115 (by decide) ?_
                refine zV_iinc dX4_valueOf_199 rfl (Nat.le_of_ble_eq_true rfl) rfl ?_
                refine zV_goto (tgt := 46) dX4_valueOf_202 (by decide) ?_
                have hE2 : evN (envS (h c 8) mo wh od (h c 6) th se) (h (t + 7)) fr (i + 1) = tok :: st := by rw [hE]; unfold evT; rw [if_pos hpu, if_pos (by omega)]
                refine zV_drop 9 ?_
                refine zV_lveq (lv' := [zrv E 28, zrv E t, ziv (ru : Int), zrv E c, ziv th, ziv se, ziv ((evN (envS (h c 8) mo wh od (h c 6) th se) (h (t + 7)) fr (i + 1)).length : Int), ziv ((fr + mm : Nat) : Int), ziv ((fr + (i + 1) : Nat) : Int), .null]) (by rw [hE2]; simp [Int.add_assoc]) ?_
                exact ih (i + 1) _ (by omega) (by omega) (fun c2 hc2 => by rw [zup_fn hc2]; exact ha1 c2 hc2) (by rw [hE2]; exact ⟨by rw [zup_at, if_pos rfl], stk_up (Nat.le_refl _) hsk⟩)
          refine zV_iload dX4_valueOf_62 rfl ?_
          refine zR_if_ge (tgt := 74) dX4_valueOf_64 (by decide) (by omega) (fun h64 => ?_) (fun h64 => ?_)
          · exact J74 (by omega)
          · refine zV_iload dX4_valueOf_67 rfl ?_
            refine zV_bipush dX4_valueOf_69 (by decide) ?_
            refine zR_icmp_ge (tgt := 118) dX4_valueOf_71 (by decide) (by omega) (by omega) (fun h71 => ?_) (fun h71 => ?_)
            · refine zV_iload dX4_valueOf_118 rfl ?_
              refine zV_bipush dX4_valueOf_120 (by decide) ?_
              refine zR_icmp_ne (tgt := 160) dX4_valueOf_122 (by decide) (by omega) (by omega) (fun h122 => ?_) (fun h122 => ?_)
              · obtain ⟨y, x, r, rfl⟩ : ∃ y x r, st = y :: x :: r := by
                  have := hw.2.2.2.2 (by omega) h122
                  match st, this with
                  | y :: x :: r, _ => exact ⟨y, x, r, rfl⟩
                have hE1 : evN (envS (h c 8) mo wh od (h c 6) th se) (h (t + 7)) fr (i + 1) = joinS tok x y :: r := by rw [hE]; unfold evT; rw [if_neg (by omega), if_neg h122]
                simp only [List.length_cons] at h64 ⊢
                have hx := hrg x (List.mem_cons_of_mem _ List.mem_cons_self)
                have hy := hrg y List.mem_cons_self
                refine zV_iload dX4_valueOf_160 rfl ?_
                refine zV_iconst dX4_valueOf_162 ?_
                refine zR_icmp_lt (tgt := 199) dX4_valueOf_163 (by decide) (by omega) (by omega) (fun h163 => ?_) (fun h163 => ?_)
                · exact absurd h163 (by omega)
                · refine zV_iinc dX4_valueOf_166 rfl (Nat.le_of_ble_eq_true rfl) rfl ?_
                  refine zV_aload_nr dX4_valueOf_169 rfl rfl ?_
                  refine gf4_9 rfl (rfl) dX4_valueOf_170 ?_
                  refine zV_teq (w := zrv E 29) rfl ?_
                  refine zV_iload dX4_valueOf_173 rfl ?_
                  refine zV_iconst dX4_valueOf_175 ?_
                  refine zV_isub dX4_valueOf_176 ?_
                  refine zV_iload dX4_valueOf_177 rfl ?_
                  refine zV_aload_nr dX4_valueOf_179 rfl rfl ?_
                  refine gf4_9 rfl (rfl) dX4_valueOf_180 ?_
                  refine zV_teq (w := zrv E 29) rfl ?_
                  refine zV_iload dX4_valueOf_183 rfl ?_
                  refine zV_iconst dX4_valueOf_185 ?_
                  refine zV_isub dX4_valueOf_186 ?_
                  refine zV_iaload (N := 64) (rfl) (by omega) (by decide) dX4_valueOf_187 ?_
                  rw [show (((r.length + 1 + 1 : Nat) : Int) + -1 - 1).toNat = r.length by omega, hsk.2.1]
                  refine zV_aload_nr dX4_valueOf_188 rfl rfl ?_
                  refine gf4_9 rfl (rfl) dX4_valueOf_189 ?_
                  refine zV_teq (w := zrv E 29) rfl ?_
                  refine zV_iload dX4_valueOf_192 rfl ?_
                  refine zV_iaload (N := 64) (rfl) (by omega) (by decide) dX4_valueOf_194 ?_
                  rw [show (((r.length + 1 + 1 : Nat) : Int) + -1).toNat = r.length + 1 by omega, show h1 29 (r.length + 1) = y from hsk.1]
                  refine zV_callS (As := [ziv tok, ziv x, ziv y]) lk4_75 (c4_joined (d - 1) 0 (by omega) hx hy) ⟨by show _ + 1 ≤ d; omega, by show _ ≤ k; omega⟩ rfl (Nat.le_of_ble_eq_true rfl) dX4_valueOf_195 (fun _ _ z => z.elim) (fun r h' q => ?_)
                  obtain ⟨rfl, hh⟩ := q
                  rw [hh]
                  refine zV_iastore (N := 64) (rfl) (by omega) (by decide) dX4_valueOf_198 ?_
                  refine zV_iinc dX4_valueOf_199 rfl (Nat.le_of_ble_eq_true rfl) rfl ?_
                  refine zV_goto (tgt := 46) dX4_valueOf_202 (by decide) ?_
                  refine zV_heq (h' := zup h1 29 r.length (joinS tok x y)) (by rw [show (((r.length + 1 + 1 : Nat) : Int) + -1 - 1).toNat = r.length by omega]) ?_
                  refine zV_drop 9 ?_
                  refine zV_lveq (lv' := [zrv E 28, zrv E t, ziv (ru : Int), zrv E c, ziv th, ziv se, ziv ((evN (envS (h c 8) mo wh od (h c 6) th se) (h (t + 7)) fr (i + 1)).length : Int), ziv ((fr + mm : Nat) : Int), ziv ((fr + (i + 1) : Nat) : Int), .null]) (by rw [hE1]; simp [Int.add_assoc]) ?_
                  exact ih (i + 1) _ (by omega) (by omega) (fun c2 hc2 => by rw [zup_fn hc2]; exact ha1 c2 hc2) (by rw [hE1]; exact ⟨by rw [zup_at, if_pos rfl], stk_up (Nat.le_refl _) hsk.2.2⟩)
              · have htk : tok = -3 := by omega
                obtain ⟨x, r, rfl⟩ : ∃ x r, st = x :: r := by
                  cases st with
                  | nil => have := hw.2.2.2.1 htk; simp at this
                  | cons x r => exact ⟨x, r, rfl⟩
                have hE1 : evN (envS (h c 8) mo wh od (h c 6) th se) (h (t + 7)) fr (i + 1) = (if x = 0 then 1 else 0) :: r := by rw [hE, htk]; rfl
                simp only [List.length_cons] at h64 ⊢
                have hx := hrg x List.mem_cons_self
                refine zV_iload dX4_valueOf_125 rfl ?_
                refine zV_iconst dX4_valueOf_127 ?_
                refine zR_icmp_lt (tgt := 199) dX4_valueOf_128 (by decide) (by omega) (by omega) (fun h128 => ?_) (fun h128 => ?_)
                · exact absurd h128 (by omega)
                · refine zV_aload_nr dX4_valueOf_131 rfl rfl ?_
                  refine gf4_9 rfl (rfl) dX4_valueOf_132 ?_
                  refine zV_teq (w := zrv E 29) rfl ?_
                  refine zV_iload dX4_valueOf_135 rfl ?_
                  refine zV_iconst dX4_valueOf_137 ?_
                  refine zV_isub dX4_valueOf_138 ?_
                  refine zV_aload_nr dX4_valueOf_139 rfl rfl ?_
                  refine gf4_9 rfl (rfl) dX4_valueOf_140 ?_
                  refine zV_teq (w := zrv E 29) rfl ?_
                  refine zV_iload dX4_valueOf_143 rfl ?_
                  refine zV_iconst dX4_valueOf_145 ?_
                  refine zV_isub dX4_valueOf_146 ?_
                  refine zV_iaload (N := 64) (rfl) (by omega) (by decide) dX4_valueOf_147 ?_
                  rw [show (((r.length + 1 : Nat) : Int) - 1).toNat = r.length by omega, hsk.1]
                  refine zR_if_ne (tgt := 155) dX4_valueOf_148 (by decide) hx (fun h148 => ?_) (fun h148 => ?_)
                  · refine zV_iconst dX4_valueOf_155 ?_
                    refine zV_iastore (N := 64) (rfl) (by omega) (by decide) dX4_valueOf_156 ?_
                    refine zV_goto (tgt := 199) dX4_valueOf_157 (by decide) ?_
                    refine zV_iinc dX4_valueOf_199 rfl (Nat.le_of_ble_eq_true rfl) rfl ?_
                    refine zV_goto (tgt := 46) dX4_valueOf_202 (by decide) ?_
                    have hE2 : evN (envS (h c 8) mo wh od (h c 6) th se) (h (t + 7)) fr (i + 1) = 0 :: r := by rw [hE1]; rw [if_neg (by omega)]
                    refine zV_heq (h' := zup h1 29 r.length 0) (by rw [show (((r.length + 1 : Nat) : Int) - 1).toNat = r.length by omega]) ?_
                    refine zV_drop 9 ?_
                    refine zV_lveq (lv' := [zrv E 28, zrv E t, ziv (ru : Int), zrv E c, ziv th, ziv se, ziv ((evN (envS (h c 8) mo wh od (h c 6) th se) (h (t + 7)) fr (i + 1)).length : Int), ziv ((fr + mm : Nat) : Int), ziv ((fr + (i + 1) : Nat) : Int), .null]) (by rw [hE2]; simp [Int.add_assoc]) ?_
                    exact ih (i + 1) _ (by omega) (by omega) (fun c2 hc2 => by rw [zup_fn hc2]; exact ha1 c2 hc2) (by rw [hE2]; exact ⟨by rw [zup_at, if_pos rfl], stk_up (Nat.le_refl _) hsk.2⟩)
                  · refine zV_iconst dX4_valueOf_151 ?_
                    refine zV_goto (tgt := 156) dX4_valueOf_152 (by decide) ?_
                    refine zV_iastore (N := 64) (rfl) (by omega) (by decide) dX4_valueOf_156 ?_
                    refine zV_goto (tgt := 199) dX4_valueOf_157 (by decide) ?_
                    refine zV_iinc dX4_valueOf_199 rfl (Nat.le_of_ble_eq_true rfl) rfl ?_
                    refine zV_goto (tgt := 46) dX4_valueOf_202 (by decide) ?_
                    have hE2 : evN (envS (h c 8) mo wh od (h c 6) th se) (h (t + 7)) fr (i + 1) = 1 :: r := by rw [hE1]; rw [if_pos (by omega)]
                    refine zV_heq (h' := zup h1 29 r.length 1) (by rw [show (((r.length + 1 : Nat) : Int) - 1).toNat = r.length by omega]) ?_
                    refine zV_drop 9 ?_
                    refine zV_lveq (lv' := [zrv E 28, zrv E t, ziv (ru : Int), zrv E c, ziv th, ziv se, ziv ((evN (envS (h c 8) mo wh od (h c 6) th se) (h (t + 7)) fr (i + 1)).length : Int), ziv ((fr + mm : Nat) : Int), ziv ((fr + (i + 1) : Nat) : Int), .null]) (by rw [hE2]; simp [Int.add_assoc]) ?_
                    exact ih (i + 1) _ (by omega) (by omega) (fun c2 hc2 => by rw [zup_fn hc2]; exact ha1 c2 hc2) (by rw [hE2]; exact ⟨by rw [zup_at, if_pos rfl], stk_up (Nat.le_refl _) hsk.2⟩)
            · exact J74 (by omega)
    exact L46 (mm + 1) 0 h2 (by omega) (by omega) (fun _ _ => rfl) trivial
  refine zV_aload_nr dX4_valueOf_0 rfl rfl ?_
  refine gf4_59 rfl (court_0 ht) dX4_valueOf_1 ?_
  refine zV_iload_n dX4_valueOf_4 rfl rfl ?_
  refine zV_zaloadN (i := ru) (N := 2) (court_11 ht) (by omega) (by decide) dX4_valueOf_5 ?_
  refine zR_if_eq (tgt := 15) dX4_valueOf_6 (by decide) (by omega) (fun h6 => ?_) (fun h6 => ?_)
  · exact J15 h (fun _ _ _ => rfl) (by rw [hmo, if_pos h6]) (by rw [hwh, if_pos h6]) (by rw [hod, if_pos h6]) hrk
  · refine zV_aload_nr dX4_valueOf_9 rfl rfl ?_
    refine zV_aload_nr dX4_valueOf_10 rfl rfl ?_
    refine zV_aload_nr dX4_valueOf_11 rfl rfl ?_
    refine zV_callV (As := [zrv E t, zrv E c]) lk4_55 (rfl) rfl rfl (c4_survey (d - 1) 0 hc ht hn hl hp) ⟨by show _ + 1 ≤ d; omega, by show _ ≤ k; omega⟩ rfl (Nat.le_of_ble_eq_true rfl) dX4_valueOf_12 (fun _ _ z => z.elim) (fun r h' q => ?_)
    obtain ⟨rfl, q⟩ := q
    have g1 := mwS_lo (h (c + 1)) n 12
    have g2 := oddS_lo (h (c + 1)) n
    have hr3 : ∀ j, 2 ≤ j → j ≤ 4 → 0 ≤ h' 28 j ∧ h' 28 j ≤ 12 := by
      intro j j1 j2
      rcases (show j = 2 ∨ j = 3 ∨ j = 4 by omega) with rfl | rfl | rfl
      · rw [q.2.1]; unfold mostS; omega
      · rw [q.2.2.1]; unfold whereS; omega
      · rw [q.2.2.2.1]; omega
    exact J15 _ q.1 (by rw [hmo, if_neg h6]; exact q.2.1) (by rw [hwh, if_neg h6]; exact q.2.2.1) (by rw [hod, if_neg h6]; exact q.2.2.2.1) hr3
