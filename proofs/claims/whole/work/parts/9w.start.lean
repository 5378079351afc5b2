/-! THE LAW: from its entry to its end -/
section ZVW
variable {E : zE} {b L : Nat} {xs : Nat → Int32} {p : Program} {e : Env} {s : State} {m : MethodId} {below : List Frame} {meth : Method} {c : Code}
theorem zSt_ad {U : State} {H : Heap} {ad : Nat → Nat} (h : zSt E U H) (h2 : ∀ i j, i < 104 → j < 104 → ad i = ad j → i = j) (h3 : ∀ i, i < 104 → eb E ≤ ad i) : zSt (zE2 E ad) U H := by
  obtain ⟨a1, -, -, a4, a5, a6, a7, a8, a9, a10, a11⟩ := h
  exact ⟨a1, h2, h3, a4, a5, a6, a7, a8, a9, a10, a11⟩
/-- the head of the loop, first time -/
theorem lw_begin {x y o : Nat} {f g : Nat → Nat} (hL : L ≤ 384) (hX : va_X b L xs s s.heap) (hbl : b < s.heap.size) (hnc : va_Nc IAE NSE s) (heb : eb E = s.heap.size) (hnx : ∀ x ∈ c.exceptionTable.toList, False) :
    zB (E, mLaw, room_1, lw_Z below #[Value.ref b] s, zA E, (p, e, s, m, #[Value.ref b], below, meth, c)) 104 13066 23 [.ref b, .ref x, .ref y, .ref o, ziv 0, .null, .null] [] ((poX5 E x f ++ poX6 E y g) ++ [(o, zJ E 1)]) := by
  intro ok H locs ls hP hD hS hl
  obtain ⟨o1, o2, o3, o4, o5, o6, o7, o8, o9, o10, o11⟩ := ok
  rw [zws_0] at hP hD
  have at' : ∀ i, i < 104 → ∃ q : va_E, (zws (zE2 E (adz x f y g o)) hz0)[i]? = some (adz x f y g o i, q) := fun i hi => ⟨_, zws_at (List.getElem?_eq_getElem (show i < zsh.length from hi))⟩
  have hst : zSt (zE2 E (adz x f y g o)) s s.heap := zSt_ad o6 (fun i j hi hj e9 => by
    obtain ⟨q1, h1⟩ := at' i hi
    obtain ⟨q2, h2⟩ := at' j hj
    exact hD.1 i j _ _ h1 h2 e9) (fun i hi => by
    obtain ⟨q1, h1⟩ := at' i hi
    exact hD.2 i _ h1)
  have hxs : (fun j => Int32.ofInt ((fun j => (xs j).toInt) j)) = xs := funext fun j => Int32.ofInt_toInt (xs j)
  have hscr : zScr (lwC (zE2 E (adz x f y g o)) b p e s m below meth c) b L (fun j => (xs j).toInt) := ⟨by rw [hxs]; exact hX, hbl, by show b < eb E; rw [heb]; exact hbl⟩
  have hl9 := lw_loop (E := zE2 E (adz x f y g o)) (b := b) (p := p) (e := e) (s := s) (m := m) (below := below) (meth := meth) (c := c) (n0 := 104) (s0 := 13066) hscr hL hnc (fun j => ⟨Int32.le_toInt _, by have := Int32.toInt_lt (xs j); omega⟩) (by show s.heap.size ≤ eb E; rw [heb]; exact Nat.le_refl _) (by decide) (by decide) 64 0 hz0 (by omega) (by decide) ⟨2, 0, 0, 0, 0, 0, rel0⟩
  exact hl9 ⟨o1, o2, o10, o3, o4, o5, o9, hst, hnx⟩ H locs ls hP hS hl
set_option maxRecDepth 100000 in
theorem lw_head (hL : L ≤ 384) (hX : va_X b L xs s s.heap) (hbl : b < s.heap.size) (hnc : va_Nc IAE NSE s) (heb : eb E = s.heap.size) (hnx : ∀ x ∈ c.exceptionTable.toList, False) :
    zB (E, mLaw, room_1, lw_Z below #[Value.ref b] s, zA E, (p, e, s, m, #[Value.ref b], below, meth, c)) 0 0 0 [.ref b, .null, .null, .null, .null, .null, .null] [] [] := by
  refine zB_new (ci := 5) (ws' := fun x => [(x, .inr (5, [.null, ziv 0, ziv 0, .null, .null, .null, .null, .null, ziv 0, .null, .null, .null, .null, .null, .null, ziv 0]))]) rfl zin5 tyX5_ok ⟨clL_8, cn_5, ci_5⟩ fsX5 ⟨Nat.le_of_ble_eq_true rfl, Nat.le_of_ble_eq_true rfl⟩ dL_law_0 (fun _ => rfl) (fun x => ?_)
  refine zB_dup dL_law_3 rfl ?_
  refine zB_callI (ci := 5) (h0 := x) (wr := []) (ws' := fun f => poX5 E x f) (nwX5 (E := E)) ilL_116 ⟨Nat.le_of_ble_eq_true rfl, Nat.le_of_ble_eq_true rfl⟩ ⟨Nat.le_of_ble_eq_true rfl, Nat.le_of_ble_eq_true rfl⟩ (Nat.le_of_ble_eq_true rfl) dL_law_4 (fun _ => rfl) (fun f => ?_)
  refine zB_astore_n dL_law_7 rfl (show 1 < 7 by decide) rfl ?_
  refine zB_new (ci := 6) (ws' := fun y => poX5 E x f ++ [(y, .inr (6, [.null, .null, .null, .null, ziv 0, .null, .null, .null, .null, .null, .null, .null, .null, .null, .null, .null, .null, ziv 0, ziv 0, ziv 0, ziv 0, ziv 0, ziv 0, ziv 0, ziv 0, ziv 0, ziv 0, ziv 0, .null, .null, .null, .null, ziv 0, ziv 0, ziv 0, ziv 0, ziv 0, ziv 0, .null, .null, .null, .null, .null, ziv 0, ziv 0, .null, .null, .null, ziv 0, ziv 0, .null, .null, .null, .null, .null, ziv 0, .null, ziv 0, ziv 0, ziv 0, ziv 0, .null, .null, .null, .null, .null]))]) rfl zin6 tyX6_ok ⟨clL_117, cn_6, ci_6⟩ fsX6 ⟨Nat.le_of_ble_eq_true rfl, Nat.le_of_ble_eq_true rfl⟩ dL_law_8 (fun _ => rfl) (fun y => ?_)
  refine zB_dup dL_law_11 rfl ?_
  refine zB_callI (ci := 6) (h0 := y) (wr := poX5 E x f) (ws' := fun g => poX5 E x f ++ poX6 E y g) (nwX6 (E := E)) ilL_119 ⟨Nat.le_of_ble_eq_true rfl, Nat.le_of_ble_eq_true rfl⟩ ⟨Nat.le_of_ble_eq_true rfl, Nat.le_of_ble_eq_true rfl⟩ (Nat.le_of_ble_eq_true rfl) dL_law_12 (fun _ => rfl) (fun g => ?_)
  refine zB_astore_n dL_law_15 rfl (show 2 < 7 by decide) rfl ?_
  refine zB_iconst dL_law_16 ?_
  refine zB_newa (aty := .long) (ty := .long) (t0 := 2) (N := 1) (ws' := fun o => (poX5 E x f ++ poX6 E y g) ++ [(o, zJ E 1)]) rfl zw_al rfl (ha_l 1) (by decide) ⟨Nat.le_of_ble_eq_true rfl, Nat.le_of_ble_eq_true rfl⟩ dL_law_17 (fun _ => rfl) (fun o => ?_)
  refine zB_astore_n dL_law_19 rfl (show 3 < 7 by decide) rfl ?_
  refine zB_iconst dL_law_20 ?_
  refine zB_istore dL_law_21 (show 4 < 7 by decide) rfl ?_
  exact lw_begin hL hX hbl hnc heb hnx
theorem whole_start (l : Launch) (hlt : l.stackTraces = false) (hnx : ∀ x ∈ c.exceptionTable.toList, False) (hL : L ≤ 384) (C0 : lw_At p s m meth c b L xs) : W p l e room_1 s m #[Value.ref b] below meth c s.heap [] 0 0 (lw_Z below #[Value.ref b] s) (entryFrame m ([Value.ref b] : List Value).toArray 7) := by
  obtain ⟨hx, hb, hr, hml, hown, hts, hX, hbl, hlk, hgv⟩ := C0
  obtain ⟨E, hst, heb, eel, hkx, hnc⟩ := zst_start (l := l) hlt hts hgv
  subst eel
  have htz : ∀ w ∈ zTs, w.before #[Value.ref b] s = true := fun w hw => hts w (List.mem_filter.mp hw).1
  have hl := lv_entry ([.ref b] : List Value) (n := 7) (Nat.le_of_ble_eq_true rfl)
  rw [lg_entry_eq]
  exact lw_head (E := E) hL hX hbl hnc heb hnx ⟨hx, hb, hml, hown, htz, hst, fun q h => by show eb E ≤ q; rw [heb]; exact h, fun q h => h, hlk, hr, hkx⟩ s.heap [] _ (fun k q hq => (by cases hq)) ⟨fun i j p q hi => (by cases hi), fun k q hq => (by cases hq)⟩ va_S.rf ⟨hl.1, hl.2.1, fun q hq => hl.2.2 q (zla_sub 6 [.ref b] 0 q hq)⟩
end ZVW
