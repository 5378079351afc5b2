/-! THE LAW'S START: what the Statement gives of it -/
def zkW (own : String) (k : Nat) (b : List Int) : List Cond :=
  [Cond.exactly (.string own k) "java/lang/String", Cond.eq (.field (.string own k) "java/lang/String" "coder" "B") (.int 0), Cond.arrayOf (.field (.string own k) "java/lang/String" "value" "[B") .byte, Cond.eq (.length (.field (.string own k) "java/lang/String" "value" "[B")) (.int (Int32.ofNat b.length))] ++
  (List.range b.length).map (fun j => Cond.eq (.elem (.field (.string own k) "java/lang/String" "value" "[B") (.int (Int32.ofNat j))) (.int (Int32.ofInt (b.getD j 0))))
/-- where a constant's words stand among the premises -/
def zkP : List Nat := [27, 196, 229, 273, 301, 213, 256, 317, 384, 334, 352, 403, 61, 69, 78, 91, 98, 187, 181, 174, 108, 115, 124, 132, 141, 148, 156, 166, 419, 429, 443, 453, 462, 472, 480, 489, 500, 538, 546, 554, 509, 517, 528, 561]
def zkT (FL : List Cond) (i : Nat) : Bool := decide (((FL.drop (zkP.getD i 0)).take (4 + (zstb.getD i []).length)) = zkW (zstr.getD i ("", 0, "")).1 (zstr.getD i ("", 0, "")).2.1 (zstb.getD i []) ∧ (zstb.getD i []).length < 1000)
set_option maxRecDepth 100000 in
theorem zkT_a : ∀ i, i < 44 → zkT (flatC (Jvm.Cond.and given_1 narrow_1)) i = true := by decide +kernel
theorem zkW_in {i : Nat} {r : String × Nat × String} {b : List Int} (h1 : zstr[i]? = some r) (h2 : zstb[i]? = some b) : b.length < 1000 ∧ ∀ w ∈ zkW r.1 r.2.1 b, w ∈ flatC (Jvm.Cond.and given_1 narrow_1) := by
  have hi : i < 44 := (List.getElem?_eq_some_iff.mp h1).1
  have h := zkT_a i hi
  unfold zkT at h
  rw [decide_eq_true_eq, List.getD_eq_getElem?_getD (l := zstb), List.getD_eq_getElem?_getD (l := zstr), h1, h2] at h
  obtain ⟨e, hl⟩ := h
  refine ⟨hl, fun w hw => ?_⟩
  have hw2 : w ∈ zkW ((some r).getD ("", 0, "")).1 ((some r).getD ("", 0, "")).2.1 ((some b).getD []) := hw
  rw [← e] at hw2
  exact List.mem_of_mem_drop (List.mem_of_mem_take hw2)
set_option maxRecDepth 100000 in
theorem zsW_in : ∀ r ∈ zstr, Cond.stringRef r.1 r.2.1 r.2.2 ∈ lw_tbl := by decide +kernel
theorem zK_of {args : Array Value} {s : State} {own : String} {k : Nat} {b : List Int} {A : Nat → Prop} (hN : b.length < 1000) (hw : ∀ w ∈ zkW own k b, w.before args s = true) (hA : ∀ a : Nat, a < s.heap.size → ¬ A a) :
    ∃ q : Nat × Nat, (Term.string own k).eval args s none [] s = some (.ref q.1) ∧ va_O "java/lang/String" q.1 A s s.heap ∧ va_OF "java/lang/String" "coder" "B" (.int 0) q.1 A s s.heap ∧ va_OF "java/lang/String" "value" "[B" (.ref q.2) q.1 A s s.heap ∧ va_T .byte q.2 b.length (fun j => .int (Int32.ofInt (b.getD j 0))) A s s.heap := by
  have hex := hw (Cond.exactly (.string own k) "java/lang/String") (List.mem_append_left _ (List.mem_of_getElem? (i := 0) rfl))
  have hco := hw (Cond.eq (.field (.string own k) "java/lang/String" "coder" "B") (.int 0)) (List.mem_append_left _ (List.mem_of_getElem? (i := 1) rfl))
  have har := hw (Cond.arrayOf (.field (.string own k) "java/lang/String" "value" "[B") .byte) (List.mem_append_left _ (List.mem_of_getElem? (i := 2) rfl))
  have hle := hw (Cond.eq (.length (.field (.string own k) "java/lang/String" "value" "[B")) (.int (Int32.ofNat b.length))) (List.mem_append_left _ (List.mem_of_getElem? (i := 3) rfl))
  have hel : ∀ j : Nat, j < b.length → (Cond.eq (.elem (.field (.string own k) "java/lang/String" "value" "[B") (.int (Int32.ofNat j))) (.int (Int32.ofInt (b.getD j 0)))).before args s = true := fun j hj =>
    hw _ (List.mem_append_right _ (List.mem_map.mpr ⟨j, List.mem_range.mpr hj, rfl⟩))
  obtain ⟨a, c, cA, kA, q1, q2, q3, q4, q5, q6, -⟩ := Cond.exactly_spec (args := args) (first := s) (o := none) (s := s) (idx := []) (t := .string own k) (cls := "java/lang/String") hex
  obtain ⟨t, ht, hT⟩ := va_Tof (f := fun j => .int (Int32.ofInt (b.getD j 0))) (A := A) (by omega) har (va_eqt hle) (fun j hj => va_eqt (hel j hj)) hA
  exact ⟨(a, t), q1, ⟨cA, q3, q5, by rw [q6]; exact q2, hA a (Array.getElem?_eq_some_iff.mp q3).1⟩, vk_OFof q1 (va_eqt hco) hA, vk_OFof q1 ht hA, hT⟩
set_option maxRecDepth 100000 in
theorem zw_sta : Cond.laysStatic "java/lang/String" "COMPACT_STRINGS" "Z" ∈ lw_tbl ∧ Cond.initialized "java/lang/String" ∈ lw_tbl ∧ Cond.laysStatic "jdk/internal/util/Preconditions" "SIOOBE_FORMATTER" "Ljava/util/function/BiFunction;" ∈ lw_tbl ∧ Cond.initialized "jdk/internal/util/Preconditions" ∈ lw_tbl ∧ Cond.laysStatic Bundle.tN "UNASSIGNED_STACK" Bundle.steD ∈ lw_tbl ∧ Cond.laysStatic Bundle.tN "SUPPRESSED_SENTINEL" Bundle.listD ∈ lw_tbl ∧ Cond.initialized Bundle.tN ∈ lw_tbl := by decide +kernel
set_option maxRecDepth 100000 in
theorem zw_stn : Cond.eq (.static "java/lang/String" "COMPACT_STRINGS" "Z") (.int 1) ∈ flatC (Jvm.Cond.and given_1 narrow_1) ∧ Cond.isRef (.static "jdk/internal/util/Preconditions" "SIOOBE_FORMATTER" "Ljava/util/function/BiFunction;") ∈ flatC (Jvm.Cond.and given_1 narrow_1) ∧ Cond.isRef (.static Bundle.tN "UNASSIGNED_STACK" Bundle.steD) ∈ flatC (Jvm.Cond.and given_1 narrow_1) ∧ Cond.isRef (.static Bundle.tN "SUPPRESSED_SENTINEL" Bundle.listD) ∈ flatC (Jvm.Cond.and given_1 narrow_1) ∧ Cond.not (.castable IAE NSE) ∈ flatC (Jvm.Cond.and given_1 narrow_1) := by decide +kernel
set_option maxRecDepth 100000 in
theorem zw_wds : (∀ x ∈ zBd, Cond.declares x ∈ lw_tbl) ∧ (∀ c ∈ zBc, Cond.castable c c ∈ lw_tbl) ∧ Cond.arrayOver (.object "java/lang/String") ∈ lw_tbl ∧ ∀ w ∈ zNl, Cond.methodLinkNest RX5 w.1 w.2 RX5 ∈ lw_tbl := by decide +kernel
set_option maxRecDepth 100000 in
theorem zst_start {s : State} {args : Array Value} {l : Launch} (hl : l.stackTraces = false) (hts : ∀ w ∈ lw_tbl, w.before args s = true) (hg : (Jvm.Cond.and given_1 narrow_1).before args s = true) :
    ∃ E : zE, zSt E s s.heap ∧ eb E = s.heap.size ∧ el E = l ∧ zKx s ∧ va_Nc IAE NSE s := by
  have hs := flat_of_before _ hg
  have htz : ∀ w ∈ zTs, w.before args s = true := fun w hw => hts w (List.mem_filter.mp hw).1
  have hA : ∀ a : Nat, a < s.heap.size → ¬ (fun q : Nat => s.heap.size ≤ q) a := fun a h z => absurd z (Nat.not_le.mpr h)
  have hK : ∀ i : Nat, ∃ q : Nat × Nat, ∀ (r : String × Nat × String) (b : List Int), zstr[i]? = some r → zstb[i]? = some b → (Term.string r.1 r.2.1).eval args s none [] s = some (.ref q.1) ∧ va_O "java/lang/String" q.1 (fun q : Nat => s.heap.size ≤ q) s s.heap ∧ va_OF "java/lang/String" "coder" "B" (.int 0) q.1 (fun q : Nat => s.heap.size ≤ q) s s.heap ∧ va_OF "java/lang/String" "value" "[B" (.ref q.2) q.1 (fun q : Nat => s.heap.size ≤ q) s s.heap ∧ va_T .byte q.2 b.length (fun j => .int (Int32.ofInt (b.getD j 0))) (fun q : Nat => s.heap.size ≤ q) s s.heap := by
    intro i
    cases h1 : zstr[i]? with
    | none => exact ⟨(0, 0), fun r b h2 => by cases h2⟩
    | some r =>
      cases h2 : zstb[i]? with
      | none => exact ⟨(0, 0), fun r b _ h3 => by cases h3⟩
      | some b =>
        obtain ⟨z1, z2⟩ := zkW_in h1 h2
        obtain ⟨q, hq⟩ := zK_of (A := fun q : Nat => s.heap.size ≤ q) z1 (fun w hw => hs w (z2 w hw)) hA
        exact ⟨q, fun r' b' e1 e2 => by cases e1; cases e2; exact hq⟩
  obtain ⟨ad, had⟩ := Classical.axiomOfChoice hK
  obtain ⟨c0, i0, k0⟩ := u_known (C := RX0) (T := TX0) (N := 10) (n := 10) htz zin0 (htz _ cn_0)
  obtain ⟨c1, i1, k1⟩ := u_known (C := RX1) (T := TX1) (N := 16) (n := 16) htz zin1 (htz _ cn_1)
  obtain ⟨c2, i2, k2⟩ := u_known (C := RX2) (T := TX2) (N := 9) (n := 9) htz zin2 (htz _ cn_2)
  obtain ⟨c3, i3, k3⟩ := u_known (C := RX3) (T := TX3) (N := 8) (n := 8) htz zin3 (htz _ cn_3)
  obtain ⟨c4, i4, k4⟩ := u_known (C := RX4) (T := TX4) (N := 5) (n := 5) htz zin4 (htz _ cn_4)
  obtain ⟨c5, i5, k5⟩ := u_known (C := RX5) (T := TX5) (N := 16) (n := 16) htz zin5 (htz _ cn_5)
  obtain ⟨c6, i6, k6⟩ := u_known (C := RX6) (T := TX6) (N := 66) (n := 66) htz zin6 (htz _ cn_6)
  obtain ⟨a0, b0, d0, e0, f0, g0⟩ := Cond.arrayClass_spec (htz _ zw_ai)
  obtain ⟨a1, b1, d1, e1, f1, g1⟩ := Cond.arrayClass_spec (htz _ zw_az)
  obtain ⟨a2, b2, d2, e2, f2, g2⟩ := Cond.arrayClass_spec (htz _ zw_al)
  obtain ⟨d3, a3, b3, e3, x3, f3, g3, y3⟩ := Cond.arrayOver_spec (hts _ zw_wds.2.2.1)
  have hao : va_AO "java/lang/String" s := va_AO.of (hts _ zw_wds.2.2.1)
  refine ⟨((fun c => [c0, c1, c2, c3, c4, c5, c6].getD c 0), (fun c => [i0, i1, i2, i3, i4, i5, i6].getD c (fun _ => 0)), (fun t => [a0, a1, a2, a3].getD t 0), (fun i => s.heap.size + i), (fun i => (ad i).1), (fun i => (ad i).2), s.heap.size, l), ?_, rfl, rfl, ⟨hao, fun w hw => va_Nw.of rfl (hts _ (zw_wds.2.2.2 w hw))⟩, va_Nc.of (hs _ zw_stn.2.2.2.2)⟩
  refine ⟨⟨fun c q hq => ?_, fun t q hq => ?_⟩, fun i j _ _ e => by have e' : s.heap.size + i = s.heap.size + j := e; omega, fun i _ => by show s.heap.size ≤ s.heap.size + i; omega, fun i r hr => ?_, fun i b hb => ?_, ⟨?_, ?_⟩, ?_, ?_, hl, fun x hx => va_Nw.of rfl (hts _ (zw_wds.1 x hx)), fun c hc => va_Nw.of rfl (hts _ (zw_wds.2.1 c hc))⟩
  · have hc : c < 7 := (List.getElem?_eq_some_iff.mp hq).1
    rcases (show c = 0 ∨ c = 1 ∨ c = 2 ∨ c = 3 ∨ c = 4 ∨ c = 5 ∨ c = 6 by omega) with rfl | rfl | rfl | rfl | rfl | rfl | rfl <;> cases hq
    · exact k0
    · exact k1
    · exact k2
    · exact k3
    · exact k4
    · exact k5
    · exact k6
  · have hc : t < 4 := (List.getElem?_eq_some_iff.mp hq).1
    rcases (show t = 0 ∨ t = 1 ∨ t = 2 ∨ t = 3 by omega) with rfl | rfl | rfl | rfl <;> cases hq
    · exact ⟨fun n z => ⟨fun k h => (by cases h), b0, f0, d0, g0⟩, e0⟩
    · exact ⟨fun n z => ⟨fun k h => (by cases h), b1, f1, d1, g1⟩, e1⟩
    · exact ⟨fun n z => ⟨fun k h => (by cases h), b2, f2, d2, g2⟩, e2⟩
    · exact ⟨fun n z => ⟨fun k h => (by cases h), b3, f3, d3, g3⟩, b3, d3, f3, g3, e3, y3⟩
  · have hi : i < 44 := (List.getElem?_eq_some_iff.mp hr).1
    obtain ⟨b, hb⟩ : ∃ b, zstb[i]? = some b := ⟨_, List.getElem?_eq_getElem (show i < zstb.length from hi)⟩
    exact vk_R.of (hts _ (zsW_in r (List.mem_of_getElem? hr))) (had i r b hr hb).1
  · have hi : i < 44 := (List.getElem?_eq_some_iff.mp hb).1
    obtain ⟨r, hr⟩ : ∃ r, zstr[i]? = some r := ⟨_, List.getElem?_eq_getElem (show i < zstr.length from hi)⟩
    exact (had i r b hr hb).2
  · exact va_Zof (hts _ zw_sta.1) (hts _ zw_sta.2.1) (va_eqt (hs _ zw_stn.1)) hA
  · exact va_Zqof (hts _ zw_sta.2.2.1) (hts _ zw_sta.2.2.2.1) (hs _ zw_stn.2.1) hA
  · exact vx_Zqof (hts _ zw_sta.2.2.2.2.1) (hts _ zw_sta.2.2.2.2.2.2) (hs _ zw_stn.2.2.1) hA
  · exact vx_Zqof (hts _ zw_sta.2.2.2.2.2.1) (hts _ zw_sta.2.2.2.2.2.2) (hs _ zw_stn.2.2.2.1) hA
