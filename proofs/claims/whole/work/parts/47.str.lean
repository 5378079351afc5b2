/-! STRINGS -/
abbrev mJ0_length_8abf5 : zM := (yJ0_length_8abf5, cJ0_length_8abf5, 1, (some .int))
theorem lc_J0_length_8abf5 : Cond.code mJ0_length_8abf5.1 mJ0_length_8abf5.2.1 mJ0_length_8abf5.2.2.1 mJ0_length_8abf5.2.2.2 ∈ zTs := zTb3 100 (by decide +kernel) rfl
theorem ld_J0_length_8abf5 : mJ0_length_8abf5.1.cls ≠ "java/lang/invoke/MethodHandle" ∧ mJ0_length_8abf5.1.cls ≠ "java/lang/invoke/VarHandle" ∧ (parseMethodDescriptor mJ0_length_8abf5.1.desc).map (fun d => d.parameters.length) = some 0 ∧ mJ0_length_8abf5.2.2.1 ≤ 45 := ⟨by decide, by decide, by decide +kernel, by decide⟩
theorem le_J0_length_8abf5 : Cond.instanceMethod mJ0_length_8abf5.1 ∈ zTs ∧ Cond.selects mJ0_length_8abf5.1.cls mJ0_length_8abf5.1 mJ0_length_8abf5.1 ∈ zTs := ⟨zTb3 98 (by decide +kernel) rfl, zTb3 99 (by decide +kernel) rfl⟩
theorem li_J0_length_8abf5 : Cond.initialized mJ0_length_8abf5.1.cls ∈ zTs := zTb1 13 (by decide +kernel) rfl
abbrev mJ0_charAt_5068e : zM := (yJ0_charAt_5068e, cJ0_charAt_5068e, 2, (some .char))
theorem lc_J0_charAt_5068e : Cond.code mJ0_charAt_5068e.1 mJ0_charAt_5068e.2.1 mJ0_charAt_5068e.2.2.1 mJ0_charAt_5068e.2.2.2 ∈ zTs := zTb3 110 (by decide +kernel) rfl
theorem ld_J0_charAt_5068e : mJ0_charAt_5068e.1.cls ≠ "java/lang/invoke/MethodHandle" ∧ mJ0_charAt_5068e.1.cls ≠ "java/lang/invoke/VarHandle" ∧ (parseMethodDescriptor mJ0_charAt_5068e.1.desc).map (fun d => d.parameters.length) = some 1 ∧ mJ0_charAt_5068e.2.2.1 ≤ 45 := ⟨by decide, by decide, by decide +kernel, by decide⟩
theorem le_J0_charAt_5068e : Cond.instanceMethod mJ0_charAt_5068e.1 ∈ zTs ∧ Cond.selects mJ0_charAt_5068e.1.cls mJ0_charAt_5068e.1 mJ0_charAt_5068e.1 ∈ zTs := ⟨zTb3 108 (by decide +kernel) rfl, zTb3 109 (by decide +kernel) rfl⟩
theorem li_J0_charAt_5068e : Cond.initialized mJ0_charAt_5068e.1.cls ∈ zTs := zTb1 13 (by decide +kernel) rfl
abbrev mJ0_coder_7d493 : zM := (yJ0_coder_7d493, cJ0_coder_7d493, 1, (some .byte))
theorem lc_J0_coder_7d493 : Cond.code mJ0_coder_7d493.1 mJ0_coder_7d493.2.1 mJ0_coder_7d493.2.2.1 mJ0_coder_7d493.2.2.2 ∈ zTs := zTb3 104 (by decide +kernel) rfl
theorem ld_J0_coder_7d493 : mJ0_coder_7d493.1.cls ≠ "java/lang/invoke/MethodHandle" ∧ mJ0_coder_7d493.1.cls ≠ "java/lang/invoke/VarHandle" ∧ (parseMethodDescriptor mJ0_coder_7d493.1.desc).map (fun d => d.parameters.length) = some 0 ∧ mJ0_coder_7d493.2.2.1 ≤ 45 := ⟨by decide, by decide, by decide +kernel, by decide⟩
theorem le_J0_coder_7d493 : Cond.instanceMethod mJ0_coder_7d493.1 ∈ zTs ∧ Cond.selects mJ0_coder_7d493.1.cls mJ0_coder_7d493.1 mJ0_coder_7d493.1 ∈ zTs := ⟨zTb3 102 (by decide +kernel) rfl, zTb3 103 (by decide +kernel) rfl⟩
theorem li_J0_coder_7d493 : Cond.initialized mJ0_coder_7d493.1.cls ∈ zTs := zTb1 13 (by decide +kernel) rfl
abbrev mJ0_isLatin1_aae02 : zM := (yJ0_isLatin1_aae02, cJ0_isLatin1_aae02, 1, (some .boolean))
theorem lc_J0_isLatin1_aae02 : Cond.code mJ0_isLatin1_aae02.1 mJ0_isLatin1_aae02.2.1 mJ0_isLatin1_aae02.2.2.1 mJ0_isLatin1_aae02.2.2.2 ∈ zTs := zTb3 114 (by decide +kernel) rfl
theorem ld_J0_isLatin1_aae02 : mJ0_isLatin1_aae02.1.cls ≠ "java/lang/invoke/MethodHandle" ∧ mJ0_isLatin1_aae02.1.cls ≠ "java/lang/invoke/VarHandle" ∧ (parseMethodDescriptor mJ0_isLatin1_aae02.1.desc).map (fun d => d.parameters.length) = some 0 ∧ mJ0_isLatin1_aae02.2.2.1 ≤ 45 := ⟨by decide, by decide, by decide +kernel, by decide⟩
theorem le_J0_isLatin1_aae02 : Cond.instanceMethod mJ0_isLatin1_aae02.1 ∈ zTs ∧ Cond.selects mJ0_isLatin1_aae02.1.cls mJ0_isLatin1_aae02.1 mJ0_isLatin1_aae02.1 ∈ zTs := ⟨zTb3 112 (by decide +kernel) rfl, zTb3 113 (by decide +kernel) rfl⟩
theorem li_J0_isLatin1_aae02 : Cond.initialized mJ0_isLatin1_aae02.1.cls ∈ zTs := zTb1 13 (by decide +kernel) rfl
abbrev mJ0_checkIndex_df160 : zM := (yJ0_checkIndex_df160, cJ0_checkIndex_df160, 2, none)
theorem lc_J0_checkIndex_df160 : Cond.code mJ0_checkIndex_df160.1 mJ0_checkIndex_df160.2.1 mJ0_checkIndex_df160.2.2.1 mJ0_checkIndex_df160.2.2.2 ∈ zTs := zTb3 120 (by decide +kernel) rfl
theorem ld_J0_checkIndex_df160 : mJ0_checkIndex_df160.1.cls ≠ "java/lang/invoke/MethodHandle" ∧ mJ0_checkIndex_df160.1.cls ≠ "java/lang/invoke/VarHandle" ∧ (parseMethodDescriptor mJ0_checkIndex_df160.1.desc).map (fun d => d.parameters.length) = some 2 ∧ mJ0_checkIndex_df160.2.2.1 ≤ 45 := ⟨by decide, by decide, by decide +kernel, by decide⟩
theorem le_J0_checkIndex_df160 : Cond.static mJ0_checkIndex_df160.1 ∈ zTs := zTb3 119 (by decide +kernel) rfl
theorem li_J0_checkIndex_df160 : Cond.initialized mJ0_checkIndex_df160.1.cls ∈ zTs := zTb1 13 (by decide +kernel) rfl
abbrev mJ1_charAt_3b067 : zM := (yJ1_charAt_3b067, cJ1_charAt_3b067, 2, (some .char))
theorem lc_J1_charAt_3b067 : Cond.code mJ1_charAt_3b067.1 mJ1_charAt_3b067.2.1 mJ1_charAt_3b067.2.2.1 mJ1_charAt_3b067.2.2.2 ∈ zTs := zTb3 117 (by decide +kernel) rfl
theorem ld_J1_charAt_3b067 : mJ1_charAt_3b067.1.cls ≠ "java/lang/invoke/MethodHandle" ∧ mJ1_charAt_3b067.1.cls ≠ "java/lang/invoke/VarHandle" ∧ (parseMethodDescriptor mJ1_charAt_3b067.1.desc).map (fun d => d.parameters.length) = some 2 ∧ mJ1_charAt_3b067.2.2.1 ≤ 45 := ⟨by decide, by decide, by decide +kernel, by decide⟩
theorem le_J1_charAt_3b067 : Cond.static mJ1_charAt_3b067.1 ∈ zTs := zTb3 116 (by decide +kernel) rfl
theorem li_J1_charAt_3b067 : Cond.initialized mJ1_charAt_3b067.1.cls ∈ zTs := zTb1 14 (by decide +kernel) rfl
abbrev mJ3_checkIndex_8e157 : zM := (yJ3_checkIndex_8e157, cJ3_checkIndex_8e157, 3, (some .int))
theorem lc_J3_checkIndex_8e157 : Cond.code mJ3_checkIndex_8e157.1 mJ3_checkIndex_8e157.2.1 mJ3_checkIndex_8e157.2.2.1 mJ3_checkIndex_8e157.2.2.2 ∈ zTs := zTb3 125 (by decide +kernel) rfl
theorem ld_J3_checkIndex_8e157 : mJ3_checkIndex_8e157.1.cls ≠ "java/lang/invoke/MethodHandle" ∧ mJ3_checkIndex_8e157.1.cls ≠ "java/lang/invoke/VarHandle" ∧ (parseMethodDescriptor mJ3_checkIndex_8e157.1.desc).map (fun d => d.parameters.length) = some 3 ∧ mJ3_checkIndex_8e157.2.2.1 ≤ 45 := ⟨by decide, by decide, by decide +kernel, by decide⟩
theorem le_J3_checkIndex_8e157 : Cond.static mJ3_checkIndex_8e157.1 ∈ zTs := zTb3 124 (by decide +kernel) rfl
theorem li_J3_checkIndex_8e157 : Cond.initialized mJ3_checkIndex_8e157.1.cls ∈ zTs := zTb1 15 (by decide +kernel) rfl
theorem lk0_80 : zLV RX0 80 0 mJ0_length_8abf5 := ⟨⟨lc_J0_length_8abf5, li_J0_length_8abf5, zTb3 97 (by decide +kernel) rfl⟩, ld_J0_length_8abf5, le_J0_length_8abf5⟩
theorem lk0_85 : zLV RX0 85 1 mJ0_charAt_5068e := ⟨⟨lc_J0_charAt_5068e, li_J0_charAt_5068e, zTb3 107 (by decide +kernel) rfl⟩, ld_J0_charAt_5068e, le_J0_charAt_5068e⟩
theorem lk6_216 : zLV RX6 216 0 mJ0_length_8abf5 := ⟨⟨lc_J0_length_8abf5, li_J0_length_8abf5, zTb6 159 (by decide +kernel) rfl⟩, ld_J0_length_8abf5, le_J0_length_8abf5⟩
theorem lk6_220 : zLV RX6 220 1 mJ0_charAt_5068e := ⟨⟨lc_J0_charAt_5068e, li_J0_charAt_5068e, zTb6 160 (by decide +kernel) rfl⟩, ld_J0_charAt_5068e, le_J0_charAt_5068e⟩
theorem lkJ0_335 : zLV RJ0 335 0 mJ0_coder_7d493 := ⟨⟨lc_J0_coder_7d493, li_J0_coder_7d493, zTb3 101 (by decide +kernel) rfl⟩, ld_J0_coder_7d493, le_J0_coder_7d493⟩
theorem lkJ0_492 : zLV RJ0 492 0 mJ0_isLatin1_aae02 := ⟨⟨lc_J0_isLatin1_aae02, li_J0_isLatin1_aae02, zTb3 111 (by decide +kernel) rfl⟩, ld_J0_isLatin1_aae02, le_J0_isLatin1_aae02⟩
theorem lkJ0_495 : zLS RJ0 495 2 mJ1_charAt_3b067 := ⟨⟨lc_J1_charAt_3b067, li_J1_charAt_3b067, zTb3 115 (by decide +kernel) rfl⟩, ld_J1_charAt_3b067, le_J1_charAt_3b067⟩
theorem lkJ1_9 : zLS RJ1 9 2 mJ0_checkIndex_df160 := ⟨⟨lc_J0_checkIndex_df160, li_J0_checkIndex_df160, zTb3 118 (by decide +kernel) rfl⟩, ld_J0_checkIndex_df160, le_J0_checkIndex_df160⟩
theorem lkJ0_1059 : zLS RJ0 1059 3 mJ3_checkIndex_8e157 := ⟨⟨lc_J3_checkIndex_8e157, li_J3_checkIndex_8e157, zTb3 123 (by decide +kernel) rfl⟩, ld_J3_checkIndex_8e157, le_J3_checkIndex_8e157⟩

def zi2c (x : Int) : Int := ((Int32.ofInt x).toUInt32 % 65536).toInt32.toInt
theorem zchr : ∀ b : Nat, b < 128 → zand b 255 = b ∧ zi2c b = b ∧ narrow .char (.int (Int32.ofInt b)) = .int (Int32.ofInt b) := by decide +kernel
theorem zstb_lo : ∀ b ∈ zstb, b.length ≤ 40 ∧ ∀ x ∈ b, 0 ≤ x ∧ x < 128 := by decide +kernel
theorem zstb_at {i j : Nat} {b : List Int} (hb : zstb[i]? = some b) (hj : j < b.length) : ∃ c : Nat, c < 128 ∧ b.getD j 0 = (c : Int) := by
  have h1 := (zstb_lo b (List.mem_of_getElem? hb)).2 (b.getD j 0) (by rw [List.getD_eq_getElem?_getD, List.getElem?_eq_getElem hj]; exact List.getElem_mem hj)
  exact ⟨(b.getD j 0).toNat, by omega, by omega⟩
section ZY
variable {C : zC} {n pc : Nat} {lv st : List Value} {h : zH}
theorem zV_lds {is i : Nat} {own text : String} (ho : cown C = own) (hs : zstr[i]? = some (own, is, text)) (hd : decode (ccc C) pc = .ok (.ldc is, 2)) (kk : zV C n (pc + 2) lv (.ref (eK (cE C) i) :: st) h) : zV C n pc lv st h := fun ok H locs ls hP hS hl =>
  va_ldcS ok.1 ok.2.1 (by rw [← ho]; exact ok.2.2.2.2.1) (ok.2.2.2.2.2.2.2.1.2.2.2.1 i _ hs) hd (kk ok H locs ls hP hS hl)
theorem zV_ldsw {is i : Nat} {own text : String} (ho : cown C = own) (hs : zstr[i]? = some (own, is, text)) (hd : decode (ccc C) pc = .ok (.ldc_w is, 3)) (kk : zV C n (pc + 3) lv (.ref (eK (cE C) i) :: st) h) : zV C n pc lv st h := fun ok H locs ls hP hS hl => by
  intro T hT X
  obtain ⟨t, a1, b1⟩ := kk ok H locs ls hP hS hl T hT X
  have hZ := ok.2.2.2.2.2.2.2.1.2.2.2.1 i _ hs
  exact ⟨t, X.ldcStringW ok.1 (by rw [← ho]; exact ok.2.2.2.2.1) (text := text) (a := eK (cE C) i) hZ.1 hZ.2 (g := F0 (am C) pc ls st) rfl (by rw [ok.2.1]; exact hd) t a1, b1⟩
theorem zV_gstZ {idx : Nat} (hl : Cond.fieldLink (cown C) idx "java/lang/String" "COMPACT_STRINGS" "Z" ∈ zTs) (hd : decode (ccc C) pc = .ok (.getstatic idx, 3)) (kk : zV C n (pc + 3) lv (ziv 1 :: st) h) : zV C n pc lv st h := fun ok H locs ls hP hS hl0 =>
  va_gets ok.1 ok.2.1 ok.2.2.2.2.2.2.2.1.2.2.2.2.2.1.1 hS ok.2.2.2.2.1 (ok.2.2.2.2.2.1 _ hl) (fun _ hx => hx) hd (kk ok H locs ls hP hS hl0)
theorem zV_gstQ {idx : Nat} (hl : Cond.fieldLink (cown C) idx "jdk/internal/util/Preconditions" "SIOOBE_FORMATTER" "Ljava/util/function/BiFunction;" ∈ zTs) (hd : decode (ccc C) pc = .ok (.getstatic idx, 3)) (kk : ∀ v : Value, v.category = 1 → zV C n (pc + 3) lv (v :: st) h) : zV C n pc lv st h := fun ok H locs ls hP hS hl0 => by
  rcases ok.2.2.2.2.2.2.2.1.2.2.2.2.2.1.2 with hz | ⟨t, hz⟩
  · exact va_gets ok.1 ok.2.1 hz hS ok.2.2.2.2.1 (ok.2.2.2.2.2.1 _ hl) (fun _ hx => hx) hd (kk .null rfl ok H locs ls hP hS hl0)
  · exact va_gets ok.1 ok.2.1 hz hS ok.2.2.2.2.1 (ok.2.2.2.2.2.1 _ hl) (fun _ hx => hx) hd (kk (.ref t) rfl ok H locs ls hP hS hl0)
theorem zV_sgetC {idx i : Nat} {b : List Int} (hb : zstb[i]? = some b) (hl : Cond.fieldLink (cown C) idx "java/lang/String" "coder" "B" ∈ zTs) (hd : decode (ccc C) pc = .ok (.getfield idx, 3)) (kk : zV C n (pc + 3) lv (ziv 0 :: st) h) : zV C n pc lv (.ref (eK (cE C) i) :: st) h := fun ok H locs ls hP hS hl0 =>
  vk_getf ok.1 ok.2.1 (ok.2.2.2.2.2.2.2.1.2.2.2.2.1 i b hb).2.1 hS ok.2.2.2.2.1 (ok.2.2.2.2.2.1 _ hl) (fun _ hx => hx) hd (kk ok H locs ls hP hS hl0)
theorem zV_sgetV {idx i : Nat} {b : List Int} (hb : zstb[i]? = some b) (hl : Cond.fieldLink (cown C) idx "java/lang/String" "value" "[B" ∈ zTs) (hd : decode (ccc C) pc = .ok (.getfield idx, 3)) (kk : zV C n (pc + 3) lv (.ref (eV (cE C) i) :: st) h) : zV C n pc lv (.ref (eK (cE C) i) :: st) h := fun ok H locs ls hP hS hl0 =>
  vk_getf ok.1 ok.2.1 (ok.2.2.2.2.2.2.2.1.2.2.2.2.1 i b hb).2.2.1 hS ok.2.2.2.2.1 (ok.2.2.2.2.2.1 _ hl) (fun _ hx => hx) hd (kk ok H locs ls hP hS hl0)
theorem zV_slen {i : Nat} {b : List Int} (hb : zstb[i]? = some b) (hd : decode (ccc C) pc = .ok (.arraylength, 1)) (kk : zV C n (pc + 1) lv (ziv (b.length : Int) :: st) h) : zV C n pc lv (.ref (eV (cE C) i) :: st) h := fun ok H locs ls hP hS hl0 =>
  va_tlen ok.1 ok.2.1 (ok.2.2.2.2.2.2.2.1.2.2.2.2.1 i b hb).2.2.2 hS (v := Int32.ofInt (b.length : Int)) (Int32.ofInt_eq_ofNat).symm hd (kk ok H locs ls hP hS hl0)
theorem zV_sbald {i j : Nat} {b : List Int} (hb : zstb[i]? = some b) (hj : j < b.length) (hd : decode (ccc C) pc = .ok (.baload, 1)) (kk : zV C n (pc + 1) lv (ziv (b.getD j 0) :: st) h) : zV C n pc lv (ziv (j : Int) :: .ref (eV (cE C) i) :: st) h := fun ok H locs ls hP hS hl0 => by
  obtain ⟨h1, h2⟩ := zin (i := (j : Int)) (N := b.length) (by omega) (by omega) (by have := (zstb_lo b (List.mem_of_getElem? hb)).1; omega)
  exact va_tb ok.1 ok.2.1 (ok.2.2.2.2.2.2.2.1.2.2.2.2.1 i b hb).2.2.2 hS h1 (v := ziv (b.getD j 0)) (by rw [h2]; rfl) hd (kk ok H locs ls hP hS hl0)
theorem zV_i2c {x : Int} (hd : decode (ccc C) pc = .ok (.i2c, 1)) (kk : zV C n (pc + 1) lv (ziv (zi2c x) :: st) h) : zV C n pc lv (ziv x :: st) h := fun ok H locs ls hP hS hl =>
  lv_i2c ok.1 ok.2.1 hd rfl (by have := kk ok H locs ls hP hS hl; unfold ziv zi2c at this; rw [Int32.ofInt_toInt] at this; exact this)
theorem zV_nreturn {v : Int} {ty : FieldType} (hd : decode (ccc C) pc = .ok (.ireturn, 1)) (hr : (cM C).2.2.2 = some ty) (hv : narrow ty (.int (Int32.ofInt v)) = .int (Int32.ofInt v)) (hn : n ≤ ck C) (hQ : cQ C (some (ziv v)) h) : zV C n pc lv [ziv v] h := fun ok H locs ls hP hS hl =>
  W.widen hn (Nat.mul_le_mul_left 6 hn) (vx_ret (W.zret (v := Int32.ofInt v) ok.1 ok.2.1 (ok.2.2.1.trans hr) hv (fun t ht hW => ⟨⟨some (ziv v), h, rfl, hQ, by rw [ht]; exact hP⟩, hS.F ht⟩) hS.2.2 hd ok.2.2.2.2.2.2.1))
/-- a virtual call on a String constant -/
theorem zV_callT {M : zM} {d' k' idx na i : Nat} {b : List Int} {As : List Value} {Q : Option Value → zH → Prop} {X : String → zH → Prop} (hL : zLV (cown C) idx na M) (hb : zstb[i]? = some b) (hcn : "java/lang/String" = M.1.cls)
    (hM : zCal (cE C) M d' k' (.ref (eK (cE C) i) :: As) h Q X) (hdk : d' + 1 ≤ cd C ∧ n + k' ≤ ck C) (hn : As.length = na) (hst : (st.map fun v => v.category).sum ≤ 8) (hd : decode (ccc C) pc = .ok (.invokevirtual idx, 3))
    (hX : ∀ Ex h', X Ex h' → cX C Ex h') (kk : ∀ r h', Q r h' → zV C (n + k') (pc + 3) lv (r.toList ++ st) h') : zV C n pc lv (As.reverse ++ .ref (eK (cE C) i) :: st) h := fun ok H locs ls hP hS hl => by
  have hrun := vx_runV (R := zRm (cd C) (ck C)) (H := H) (locs := locs) (cells := n) (slots := 6 * n) (e := ae C) (below := abl C) (meth := ame C) (As := As) (rest := st) (g := F0 (am C) pc ls (As.reverse ++ .ref (eK (cE C) i) :: st)) (Ts := zTs) (C := "java/lang/String") (b := eK (cE C) i) (n := na)
    ⟨ok.1, ok.2.1, ok.2.2.2.1, ok.2.2.2.2.1, ok.2.2.2.2.2.1⟩ hM ⟨zCB ⟨rfl, rfl⟩ ok.2.2.2.2.2.1 hL.1 hL.2.1 hdk.1, ok.2.2.2.2.2.1 _ hL.2.2.1, by rw [hcn]; exact ok.2.2.2.2.2.1 _ hL.2.2.2⟩
    ⟨zblind _ _ _, va_Orecv (ok.2.2.2.2.2.2.2.1.2.2.2.2.1 i b hb).1 hS, fun U hU hW => ⟨rfl, by rw [hU]; exact hP, by rw [hU]; exact zSt_to ok.2.2.2.2.2.2.2.1 hW hS.2.1⟩⟩
    rfl hn hl.1 rfl (lv_room hst) hd ⟨hdk.2, by show 6 * n + 6 * k' ≤ 6 * ck C; have := hdk.2; omega⟩
  refine zcall hrun hS (fun Ex ce q9 h' H1 locs1 hx hP1 hS1 hce hcv hcl => ?_) (fun r h' H1 locs1 hq hP1 hS1 => ?_)
  · exact vx_out (fun x hx' => (ok.2.2.2.2.2.2.2.2 x hx').elim) ok.2.2.2.2.2.2.1 hce hcv hcl (fun t ht hW => ⟨h', hX Ex h' hx, by rw [ht]; exact hP1, hS1.F ht⟩) hS1.2.2 hdk.2 (by have := hdk.2; omega)
  · have := kk r h' hq ok H1 locs1 ls hP1 hS1 hl
    rw [Nat.mul_add] at this
    exact this
end ZY
theorem fJ_cs : Cond.fieldLink RJ0 38 "java/lang/String" "COMPACT_STRINGS" "Z" ∈ zTs := zTb3 105 (by decide +kernel) rfl
theorem fJ_co : Cond.fieldLink RJ0 15 "java/lang/String" "coder" "B" ∈ zTs := zTb8 96 (by decide +kernel) rfl
theorem fJ_va : Cond.fieldLink RJ0 9 "java/lang/String" "value" "[B" ∈ zTs := zTb8 95 (by decide +kernel) rfl
theorem fJ_fo : Cond.fieldLink RJ0 1053 "jdk/internal/util/Preconditions" "SIOOBE_FORMATTER" "Ljava/util/function/BiFunction;" ∈ zTs := zTb3 121 (by decide +kernel) rfl
theorem cJ_coder {E : zE} {h : zH} {i : Nat} {b : List Int} (d k : Nat) (hb : zstb[i]? = some b) : zCal E mJ0_coder_7d493 d k [.ref (eK E i)] h (fun r h' => r = some (ziv 0) ∧ h' = h) (fun _ _ => False) := by
  refine zCal_ofF (by decide +kernel) (Nat.le_of_ble_eq_true rfl) (fun a => ?_)
  show zV _ 0 0 [.ref (eK E i)] [] _
  refine zV_gstZ fJ_cs dJ0_coder_7d493_0 ?_
  refine zR_if_eq (tgt := 13) dJ0_coder_7d493_3 (by decide) (by decide) (fun z => absurd z (by decide)) (fun _ => ?_)
  refine zV_aload_n dJ0_coder_7d493_6 rfl rfl ?_
  refine zV_sgetC hb fJ_co dJ0_coder_7d493_7 ?_
  refine zV_goto (tgt := 14) dJ0_coder_7d493_10 (by decide) ?_
  exact zV_nreturn dJ0_coder_7d493_14 rfl (by decide) (Nat.zero_le _) ⟨rfl, rfl⟩
theorem cJ_isLatin1 {E : zE} {h : zH} {i : Nat} {b : List Int} (d k : Nat) (hb : zstb[i]? = some b) : zCal E mJ0_isLatin1_aae02 d k [.ref (eK E i)] h (fun r h' => r = some (ziv 1) ∧ h' = h) (fun _ _ => False) := by
  refine zCal_ofF (by decide +kernel) (Nat.le_of_ble_eq_true rfl) (fun a => ?_)
  show zV _ 0 0 [.ref (eK E i)] [] _
  refine zV_gstZ fJ_cs dJ0_isLatin1_aae02_0 ?_
  refine zR_if_eq (tgt := 17) dJ0_isLatin1_aae02_3 (by decide) (by decide) (fun z => absurd z (by decide)) (fun _ => ?_)
  refine zV_aload_n dJ0_isLatin1_aae02_6 rfl rfl ?_
  refine zV_sgetC hb fJ_co dJ0_isLatin1_aae02_7 ?_
  refine zR_if_ne (tgt := 17) dJ0_isLatin1_aae02_10 (by decide) (by decide) (fun z => absurd rfl z) (fun _ => ?_)
  refine zV_iconst dJ0_isLatin1_aae02_13 ?_
  refine zV_goto (tgt := 18) dJ0_isLatin1_aae02_14 (by decide) ?_
  exact zV_zreturn dJ0_isLatin1_aae02_18 rfl (Or.inr rfl) (Nat.zero_le _) ⟨rfl, rfl⟩
theorem zshr0 : ∀ b : Nat, b ≤ 40 → zshr b 0 = b := by decide
theorem cJ_length {E : zE} {h : zH} {i : Nat} {b : List Int} (d k : Nat) (hd : 1 ≤ d) (hb : zstb[i]? = some b) : zCal E mJ0_length_8abf5 d k [.ref (eK E i)] h (fun r h' => r = some (ziv (b.length : Int)) ∧ h' = h) (fun _ _ => False) := by
  refine zCal_ofF (by decide +kernel) (Nat.le_of_ble_eq_true rfl) (fun a => ?_)
  show zV _ 0 0 [.ref (eK E i)] [] _
  refine zV_aload_n dJ0_length_8abf5_0 rfl rfl ?_
  refine zV_sgetV hb fJ_va dJ0_length_8abf5_1 ?_
  refine zV_slen hb dJ0_length_8abf5_4 ?_
  refine zV_aload_n dJ0_length_8abf5_5 rfl rfl ?_
  refine zV_callT (As := []) lkJ0_335 hb rfl (cJ_coder (d - 1) 0 hb) ⟨by show _ + 1 ≤ d; omega, by show _ ≤ k; omega⟩ rfl (Nat.le_of_ble_eq_true rfl) dJ0_length_8abf5_6 (fun _ _ z => z.elim) (fun r h' q => ?_)
  obtain ⟨rfl, hh⟩ := q
  rw [hh]
  refine zV_ishr dJ0_length_8abf5_9 ?_
  rw [zshr0 b.length (zstb_lo b (List.mem_of_getElem? hb)).1]
  exact zV_ireturn dJ0_length_8abf5_10 rfl (Nat.zero_le _) ⟨rfl, rfl⟩
theorem cJ_preIndex {E : zE} {h : zH} {x y : Nat} {v : Value} (d k : Nat) (hv : v.category = 1) (hx : x < y) (hy : y ≤ 1000) : zCal E mJ3_checkIndex_8e157 d k [ziv (x : Int), ziv (y : Int), v] h (fun r h' => r = some (ziv (x : Int)) ∧ h' = h) (fun _ _ => False) := by
  refine zCal_ofF (by decide +kernel) (by cases v <;> first | exact Nat.le_of_ble_eq_true rfl | (simp [Value.category] at hv)) (fun a => ?_)
  have e : zla [ziv (x : Int), ziv (y : Int), v] ++ List.replicate (mJ3_checkIndex_8e157.2.2.1 - (zla [ziv (x : Int), ziv (y : Int), v]).length) .null = [ziv (x : Int), ziv (y : Int), v] := by
    cases v <;> first | rfl | (simp [Value.category] at hv)
  rw [e]
  refine zV_iload_n dJ3_checkIndex_8e157_0 rfl rfl ?_
  refine zR_if_lt (tgt := 9) dJ3_checkIndex_8e157_1 (by decide) (by omega) (fun z => absurd z (by omega)) (fun _ => ?_)
  refine zV_iload_n dJ3_checkIndex_8e157_4 rfl rfl ?_
  refine zV_iload_n dJ3_checkIndex_8e157_5 rfl rfl ?_
  refine zR_icmp_lt (tgt := 16) dJ3_checkIndex_8e157_6 (by decide) (by omega) (by omega) (fun _ => ?_) (fun z => absurd z (by omega))
  refine zV_iload_n dJ3_checkIndex_8e157_16 rfl rfl ?_
  exact zV_ireturn dJ3_checkIndex_8e157_17 rfl (Nat.zero_le _) ⟨rfl, rfl⟩
theorem cJ_strIndex {E : zE} {h : zH} {x y : Nat} (d k : Nat) (hd : 1 ≤ d) (hx : x < y) (hy : y ≤ 1000) : zCal E mJ0_checkIndex_df160 d k [ziv (x : Int), ziv (y : Int)] h (fun r h' => r = none ∧ h' = h) (fun _ _ => False) := by
  refine zCal_ofF (by decide +kernel) (Nat.le_of_ble_eq_true rfl) (fun a => ?_)
  show zV _ 0 0 [ziv (x : Int), ziv (y : Int)] [] _
  refine zV_iload_n dJ0_checkIndex_df160_0 rfl rfl ?_
  refine zV_iload_n dJ0_checkIndex_df160_1 rfl rfl ?_
  refine zV_gstQ fJ_fo dJ0_checkIndex_df160_2 (fun v hv => ?_)
  refine zV_callS (As := [ziv (x : Int), ziv (y : Int), v]) lkJ0_1059 (cJ_preIndex (d - 1) 0 hv hx hy) ⟨by show _ + 1 ≤ d; omega, by show _ ≤ k; omega⟩ rfl (Nat.le_of_ble_eq_true rfl) dJ0_checkIndex_df160_5 (fun _ _ z => z.elim) (fun r h' q => ?_)
  obtain ⟨rfl, hh⟩ := q
  rw [hh]
  refine zV_pop dJ0_checkIndex_df160_8 rfl ?_
  exact zV_vreturn dJ0_checkIndex_df160_9 rfl (Nat.zero_le _) ⟨rfl, rfl⟩
theorem cJ_latAt {E : zE} {h : zH} {i j : Nat} {b : List Int} (d k : Nat) (hd : 2 ≤ d) (hb : zstb[i]? = some b) (hj : j < b.length) : zCal E mJ1_charAt_3b067 d k [.ref (eV E i), ziv (j : Int)] h (fun r h' => r = some (ziv (b.getD j 0)) ∧ h' = h) (fun _ _ => False) := by
  refine zCal_ofF (by decide +kernel) (Nat.le_of_ble_eq_true rfl) (fun a => ?_)
  show zV _ 0 0 [.ref (eV E i), ziv (j : Int)] [] _
  obtain ⟨c, hc, ec⟩ := zstb_at hb hj
  have z := zchr c hc
  refine zV_iload_n dJ1_charAt_3b067_0 rfl rfl ?_
  refine zV_aload_n dJ1_charAt_3b067_1 rfl rfl ?_
  refine zV_slen hb dJ1_charAt_3b067_2 ?_
  refine zV_callS (As := [ziv (j : Int), ziv (b.length : Int)]) lkJ1_9 (cJ_strIndex (d - 1) 0 (by omega) hj (by have := (zstb_lo b (List.mem_of_getElem? hb)).1; omega)) ⟨by show _ + 1 ≤ d; omega, by show _ ≤ k; omega⟩ rfl (Nat.le_of_ble_eq_true rfl) dJ1_charAt_3b067_3 (fun _ _ z => z.elim) (fun r h' q => ?_)
  obtain ⟨rfl, hh⟩ := q
  rw [hh]
  refine zV_aload_n dJ1_charAt_3b067_6 rfl rfl ?_
  refine zV_iload_n dJ1_charAt_3b067_7 rfl rfl ?_
  refine zV_sbald hb hj dJ1_charAt_3b067_8 ?_
  refine zV_sipush dJ1_charAt_3b067_9 (by decide) ?_
  refine zV_iand dJ1_charAt_3b067_12 ?_
  refine zV_i2c dJ1_charAt_3b067_13 ?_
  rw [ec, z.1, z.2.1]
  exact zV_nreturn dJ1_charAt_3b067_14 rfl z.2.2 (Nat.zero_le _) ⟨rfl, rfl⟩
theorem cJ_charAt {E : zE} {h : zH} {i j : Nat} {b : List Int} (d k : Nat) (hd : 3 ≤ d) (hb : zstb[i]? = some b) (hj : j < b.length) : zCal E mJ0_charAt_5068e d k [.ref (eK E i), ziv (j : Int)] h (fun r h' => r = some (ziv (b.getD j 0)) ∧ h' = h) (fun _ _ => False) := by
  refine zCal_ofF (by decide +kernel) (Nat.le_of_ble_eq_true rfl) (fun a => ?_)
  show zV _ 0 0 [.ref (eK E i), ziv (j : Int)] [] _
  obtain ⟨c, hc, ec⟩ := zstb_at hb hj
  have z := zchr c hc
  refine zV_aload_n dJ0_charAt_5068e_0 rfl rfl ?_
  refine zV_callT (As := []) lkJ0_492 hb rfl (cJ_isLatin1 (d - 1) 0 hb) ⟨by show _ + 1 ≤ d; omega, by show _ ≤ k; omega⟩ rfl (Nat.le_of_ble_eq_true rfl) dJ0_charAt_5068e_1 (fun _ _ z => z.elim) (fun r h' q => ?_)
  obtain ⟨rfl, hh⟩ := q
  rw [hh]
  refine zR_if_eq (tgt := 16) dJ0_charAt_5068e_4 (by decide) (by decide) (fun z => absurd z (by decide)) (fun _ => ?_)
  refine zV_aload_n dJ0_charAt_5068e_7 rfl rfl ?_
  refine zV_sgetV hb fJ_va dJ0_charAt_5068e_8 ?_
  refine zV_iload_n dJ0_charAt_5068e_11 rfl rfl ?_
  refine zV_callS (As := [.ref (eV E i), ziv (j : Int)]) lkJ0_495 (cJ_latAt (d - 1) 0 (by omega) hb hj) ⟨by show _ + 1 ≤ d; omega, by show _ ≤ k; omega⟩ rfl (Nat.le_of_ble_eq_true rfl) dJ0_charAt_5068e_12 (fun _ _ z => z.elim) (fun r h' q => ?_)
  obtain ⟨rfl, hh⟩ := q
  rw [hh, ec]
  exact zV_nreturn dJ0_charAt_5068e_15 rfl z.2.2 (Nat.zero_le _) ⟨rfl, rfl⟩

