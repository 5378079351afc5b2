/-! CALLS, and throws, over a state h -/
section ZK
/-- what links a virtual call, and a static one -/
def zLV (own : String) (idx na : Nat) (M : zM) : Prop :=
  (Cond.code M.1 M.2.1 M.2.2.1 M.2.2.2 ∈ zTs ∧ Cond.initialized M.1.cls ∈ zTs ∧ Cond.methodLink own idx M.1 ∈ zTs) ∧ (M.1.cls ≠ "java/lang/invoke/MethodHandle" ∧ M.1.cls ≠ "java/lang/invoke/VarHandle" ∧ (parseMethodDescriptor M.1.desc).map (fun d => d.parameters.length) = some na ∧ M.2.2.1 ≤ 45) ∧ Cond.instanceMethod M.1 ∈ zTs ∧ Cond.selects M.1.cls M.1 M.1 ∈ zTs
def zLS (own : String) (idx na : Nat) (M : zM) : Prop :=
  (Cond.code M.1 M.2.1 M.2.2.1 M.2.2.2 ∈ zTs ∧ Cond.initialized M.1.cls ∈ zTs ∧ Cond.methodLink own idx M.1 ∈ zTs) ∧ (M.1.cls ≠ "java/lang/invoke/MethodHandle" ∧ M.1.cls ≠ "java/lang/invoke/VarHandle" ∧ (parseMethodDescriptor M.1.desc).map (fun d => d.parameters.length) = some na ∧ M.2.2.1 ≤ 45) ∧ Cond.static M.1 ∈ zTs
variable {C : zC} {n pc : Nat} {lv st : List Value} {h : zH}
theorem zCB {M : zM} {own : String} {idx na d d' k' : Nat} {s : State} {args : Array Value} {R : Room} (hR : R.frames = d ∧ R.locals = 64 * d) (hts : ∀ w ∈ zTs, w.before args s = true)
    (h1 : Cond.code M.1 M.2.1 M.2.2.1 M.2.2.2 ∈ zTs ∧ Cond.initialized M.1.cls ∈ zTs ∧ Cond.methodLink own idx M.1 ∈ zTs) (h2 : M.1.cls ≠ "java/lang/invoke/MethodHandle" ∧ M.1.cls ≠ "java/lang/invoke/VarHandle" ∧ (parseMethodDescriptor M.1.desc).map (fun d => d.parameters.length) = some na ∧ M.2.2.1 ≤ 45) (hd : d' + 1 ≤ d) :
    CallB R s args own idx M.1 M.2.1 M.2.2.1 M.2.2.2 (zwM M) (zRm d' k') k' (6 * k') na := by
  have hin : GoodIn zTs (zwM M) := fun w hw => by
    rcases List.mem_cons.mp hw with e | hw
    · rw [e]; exact zTs_good _ h1.1
    · exact zTs_good _ hw
  exact callB_of na hts hin rfl rfl rfl (hts _ h1.2.1) (hts _ h1.2.2) ⟨h2.1, h2.2.1, h2.2.2.1⟩ ⟨by rw [hR.1]; exact hd, by
    rw [hR.2]
    show 8 + (M.2.2.1 + 11) + 64 * d' ≤ 64 * d
    have := h2.2.2.2
    omega⟩
theorem zSt_call {E : zE} {U : State} (g : JFrame) (mk : MethodId) (a : Array Value) (hs : zSt E U U.heap) : zSt E (U.calling g mk a) (U.calling g mk a).heap :=
  zSt_to hs (State.WarmedH.refl U) (fun q _ _ => rfl)
theorem zblind (E : zE) (av : List Value) (h : zH) : FrameBlind (zPc E av h) := fun a U g mk q => ⟨q.1, q.2.1, zSt_call g mk a q.2.2⟩
section
variable {p : Program} {l : Launch} {e : Env} {R : Room} {s : State} {m : MethodId} {args : Array Value} {below : List Frame} {meth : Method} {c : Code} {H : Heap} {locs : List Loc} {cells slots : Nat} {Qw : State → Prop} {E : zE} {Q : Option Value → zH → Prop} {X : String → zH → Prop} {mc ms : Nat} {a : Array Value} {ls : Array Slot} {st0 rest : List Value}
theorem zcall (hr : vx_Run p l e R s m args below meth c H locs cells slots mc ms (F0 m pc ls st0) rest (zQc E Q a) (zXC E X) (zA E)) (hS : va_S (zA E) s.heap H locs)
    (kx : ∀ (Ex : String) (ce : Cell) (q9 : Addr) (h' : zH) (H1 : Heap) (locs1 : List Loc), X Ex h' → va_P (eD E) vwCl (zws E h') H1 → va_S (zA E) s.heap H1 locs1 → H1[q9]? = some ce → ce.vm = .none → s.vm.findClass Ex = some ce.cls → vx_W p l e R s m args below meth c H1 locs1 (cells + mc) (slots + ms) Qw (F0 m pc ls rest) q9)
    (kk : ∀ (r : Option Value) (h' : zH) (H1 : Heap) (locs1 : List Loc), Q r h' → va_P (eD E) vwCl (zws E h') H1 → va_S (zA E) s.heap H1 locs1 → W p l e R s m args below meth c H1 locs1 (cells + mc) (slots + ms) Qw (F0 m (pc + 3) ls (r.toList ++ rest))) : W p l e R s m args below meth c H locs cells slots Qw (F0 m pc ls st0) := by
  intro T hT Xs
  rcases hr T hT Xs with ⟨v, st₀, t, T', L, h0, X', hL, e1, e2, ⟨⟨r, h', hv, hq, hP⟩, hF⟩, st⟩ | ⟨q, st₀, t, T', L, Ex, ce, h0, X', hL, e1, e2, ⟨h', hx, hP, hF⟩, hce, hcv, hcl, st⟩
  · cases hv
    obtain ⟨k1, k2, k3⟩ := vx_keep h0 e1 hS (fun _ _ z => z) (fun _ z => z) hL hF
    obtain ⟨t2, a1, b1⟩ := kk v h' T'.heap (locs ++ L) hq (by rw [e1]; exact hP) k3 T' rfl X'
    exact ⟨t2, st t2 a1, b1⟩
  · obtain ⟨k1, k2, k3⟩ := vx_keep h0 e1 hS (fun _ _ z => z) (fun _ z => z) hL hF
    obtain ⟨t2, a1, b1⟩ := kx Ex ce q h' T'.heap (locs ++ L) hx (by rw [e1]; exact hP) k3 (by rw [e1]; exact hce) hcv hcl T' rfl X'
    exact ⟨t2, st.trans a1, b1⟩
end
/-- a virtual call on the cell k -/
theorem zV_callV {M : zM} {d' k' idx na k ci N : Nat} {Cn : String} {T : u_T} {As : List Value} {Q : Option Value → zH → Prop} {X : String → zH → Prop} (hL : zLV (cown C) idx na M) (hk : zsh[k]? = some (.inl ci)) (hc : vwCl[ci]? = some (Cn, T, N)) (hcn : Cn = M.1.cls)
    (hM : zCal (cE C) M d' k' (zrv (cE C) k :: As) h Q X) (hdk : d' + 1 ≤ cd C ∧ n + k' ≤ ck C) (hn : As.length = na) (hst : (st.map fun v => v.category).sum ≤ 8) (hd : decode (ccc C) pc = .ok (.invokevirtual idx, 3))
    (hX : ∀ Ex h', X Ex h' → cX C Ex h') (kk : ∀ r h', Q r h' → zV C (n + k') (pc + 3) lv (r.toList ++ st) h') : zV C n pc lv (As.reverse ++ zrv (cE C) k :: st) h := fun ok H locs ls hP hS hl => by
  have hrun := vx_runV (R := zRm (cd C) (ck C)) (H := H) (locs := locs) (cells := n) (slots := 6 * n) (e := ae C) (below := abl C) (meth := ame C) (As := As) (rest := st) (g := F0 (am C) pc ls (As.reverse ++ zrv (cE C) k :: st)) (Ts := zTs) (C := Cn) (b := ead (cE C) k) (n := na)
    ⟨ok.1, ok.2.1, ok.2.2.2.1, ok.2.2.2.2.1, ok.2.2.2.2.2.1⟩ hM ⟨zCB ⟨rfl, rfl⟩ ok.2.2.2.2.2.1 hL.1 hL.2.1 hdk.1, ok.2.2.2.2.2.1 _ hL.2.2.1, by rw [hcn]; exact ok.2.2.2.2.2.1 _ hL.2.2.2⟩
    ⟨zblind _ _ _, va_recv ok.2.2.2.2.2.2.2.1.1 hP hc (zws_at hk), fun U hU hW => ⟨rfl, by rw [hU]; exact hP, by rw [hU]; exact zSt_to ok.2.2.2.2.2.2.2.1 hW hS.2.1⟩⟩
    rfl hn hl.1 rfl (lv_room hst) hd ⟨hdk.2, by show 6 * n + 6 * k' ≤ 6 * ck C; have := hdk.2; omega⟩
  refine zcall hrun hS (fun Ex ce q9 h' H1 locs1 hx hP1 hS1 hce hcv hcl => ?_) (fun r h' H1 locs1 hq hP1 hS1 => ?_)
  · exact vx_out (fun x hx' => (ok.2.2.2.2.2.2.2.2 x hx').elim) ok.2.2.2.2.2.2.1 hce hcv hcl (fun t ht hW => ⟨h', hX Ex h' hx, by rw [ht]; exact hP1, hS1.F ht⟩) hS1.2.2 hdk.2 (by have := hdk.2; omega)
  · have := kk r h' hq ok H1 locs1 ls hP1 hS1 hl
    rw [Nat.mul_add] at this
    exact this
/-- a static call -/
theorem zV_callS {M : zM} {d' k' idx na : Nat} {As : List Value} {Q : Option Value → zH → Prop} {X : String → zH → Prop} (hL : zLS (cown C) idx na M)
    (hM : zCal (cE C) M d' k' As h Q X) (hdk : d' + 1 ≤ cd C ∧ n + k' ≤ ck C) (hn : As.length = na) (hst : (st.map fun v => v.category).sum ≤ 8) (hd : decode (ccc C) pc = .ok (.invokestatic idx, 3))
    (hX : ∀ Ex h', X Ex h' → cX C Ex h') (kk : ∀ r h', Q r h' → zV C (n + k') (pc + 3) lv (r.toList ++ st) h') : zV C n pc lv (As.reverse ++ st) h := fun ok H locs ls hP hS hl => by
  have hrun := vx_runS (R := zRm (cd C) (ck C)) (H := H) (locs := locs) (cells := n) (slots := 6 * n) (e := ae C) (below := abl C) (meth := ame C) (As := As) (rest := st) (g := F0 (am C) pc ls (As.reverse ++ st)) (Ts := zTs) (n := na)
    ⟨ok.1, ok.2.1, ok.2.2.2.1, ok.2.2.2.2.1, ok.2.2.2.2.2.1⟩ hM ⟨zCB ⟨rfl, rfl⟩ ok.2.2.2.2.2.1 hL.1 hL.2.1 hdk.1, ok.2.2.2.2.2.1 _ hL.2.2⟩
    ⟨zblind _ _ _, fun U hU hW => ⟨rfl, by rw [hU]; exact hP, by rw [hU]; exact zSt_to ok.2.2.2.2.2.2.2.1 hW hS.2.1⟩⟩
    rfl hn hl.1 rfl (lv_room hst) hd ⟨hdk.2, by show 6 * n + 6 * k' ≤ 6 * ck C; have := hdk.2; omega⟩
  refine zcall hrun hS (fun Ex ce q9 h' H1 locs1 hx hP1 hS1 hce hcv hcl => ?_) (fun r h' H1 locs1 hq hP1 hS1 => ?_)
  · exact vx_out (fun x hx' => (ok.2.2.2.2.2.2.2.2 x hx').elim) ok.2.2.2.2.2.2.1 hce hcv hcl (fun t ht hW => ⟨h', hX Ex h' hx, by rw [ht]; exact hP1, hS1.F ht⟩) hS1.2.2 hdk.2 (by have := hdk.2; omega)
  · have := kk r h' hq ok H1 locs1 ls hP1 hS1 hl
    rw [Nat.mul_add] at this
    exact this
/-- throw new cls("text") in a method of the class DregsVerdict -/
theorem zV_throw {cls text : String} {ik is ic i : Nat} (hown : cown C = RX5) (hcls : Bundle.fit cls = true) (hk : Cond.classLink RX5 ik cls ∈ zTs) (hini : Cond.initialized cls ∈ zTs)
    (hat : ∀ w ∈ (vx_atS RX5 ic cls ["java/lang/RuntimeException", "java/lang/Exception"]).filter goodWord, w ∈ zTs) (hB : (vx_atS RX5 ic cls ["java/lang/RuntimeException", "java/lang/Exception"]).filter (fun w => !goodWord w) = zBd.map Cond.declares ++ [.castable cls cls]) (hcb : cls ∈ zBc)
    (hgood : ∀ w ∈ Cond.classLink RX5 ik cls :: Cond.initialized cls :: vx_atS RX5 ic cls ["java/lang/RuntimeException", "java/lang/Exception"], vx_ot w = true)
    (hs : zstr[i]? = some (RX5, is, text)) (hdk : 6 ≤ cd C ∧ n + 1 ≤ ck C)
    (d0 : decode (ccc C) pc = .ok (.new ik, 3)) (d3 : decode (ccc C) (pc + 3) = .ok (.dup, 1)) (d4 : decode (ccc C) (pc + 4) = .ok (.ldc is, 2)) (d6 : decode (ccc C) (pc + 6) = .ok (.invokespecial ic, 3)) (d9 : decode (ccc C) (pc + 9) = .ok (.athrow, 1))
    (hX : cX C cls h) : zV C n pc lv [] h := fun ok H locs ls hP hS hl => by
  obtain ⟨hx, hb, hr, hml, hfc, hts, hlk, hst, hnx⟩ := ok
  rw [hown] at hfc
  have hst' := hst
  obtain ⟨-, -, -, h4, -, -, h7, h8, h9, h10, h11⟩ := hst'
  have hall : ∀ w ∈ vx_atS RX5 ic cls ["java/lang/RuntimeException", "java/lang/Exception"], w.before (aar C) (as' C) = true := by
    refine vx_hat (B := zBd.map Cond.declares ++ [.castable cls cls]) (fun w hw => hts w (hat w hw)) (fun w hw => by rw [hB] at hw; exact hw) (fun w hw => ?_)
    rcases List.mem_append.mp hw with hw | hw
    · obtain ⟨x, hx', rfl⟩ := List.mem_map.mp hw
      exact va_Nw.use rfl (h10 x hx')
    · rw [List.mem_singleton.mp hw]
      exact va_Nw.use rfl (h11 cls hcb)
  refine vx_throwS (A := zA (cE C)) (own := RX5) (cls := cls) (text := text) (names := ["java/lang/RuntimeException", "java/lang/Exception"]) (ik := ik) (is := is) (ic := ic) (sa := eK (cE C) i) hx hb h9 hfc hcls (by decide) (hts _ hk) (hts _ hini) (h4 i _ hs) hall hgood h7 h8 hS (by rw [hml]; exact hl.1) d0 d3 d4 d6 d9
    (fun x hx' => (hnx x hx').elim) (by show 2 + 3 < cd C; have := hdk.1; omega) (by show 0 + (13 * (2 + 1) + 43) ≤ 64 * cd C; have := hdk.1; omega) (by show n + 1 ≤ ck C; exact hdk.2) (by show 6 * n + 6 ≤ 6 * ck C; have := hdk.2; omega) hlk (fun t hW hz hq => ?_) hS.2.2 hdk.2 (by have := hdk.2; omega)
  refine ⟨h, hX, ?_, Nat.le_trans hS.1 hz, fun q h1 h2 => ?_⟩
  · intro k q hk'
    have hq' := hP k q hk'
    exact va_at.kept hq' (hq q.1 (va_at.lt hq'))
  · rw [hq q (Nat.lt_of_lt_of_le h1 hS.1)]
    exact hS.2.1 q h1 h2
theorem zAt_iae : ∀ w ∈ (vx_atS RX5 81 "java/lang/IllegalArgumentException" ["java/lang/RuntimeException", "java/lang/Exception"]).filter goodWord, w ∈ zTs := fun w hw =>
  zTs_of ((by decide +kernel : ∀ w ∈ (vx_atS RX5 81 "java/lang/IllegalArgumentException" ["java/lang/RuntimeException", "java/lang/Exception"]).filter goodWord, w ∈ lw_tbl) w hw) (List.mem_filter.mp hw).2
theorem zV_iae {text : String} {is i : Nat} (hown : cown C = RX5) (hs : zstr[i]? = some (RX5, is, text)) (hdk : 6 ≤ cd C ∧ n + 1 ≤ ck C)
    (d0 : decode (ccc C) pc = .ok (.new 77, 3)) (d3 : decode (ccc C) (pc + 3) = .ok (.dup, 1)) (d4 : decode (ccc C) (pc + 4) = .ok (.ldc is, 2)) (d6 : decode (ccc C) (pc + 6) = .ok (.invokespecial 81, 3)) (d9 : decode (ccc C) (pc + 9) = .ok (.athrow, 1))
    (hX : cX C "java/lang/IllegalArgumentException" h) : zV C n pc lv [] h :=
  zV_throw hown (by decide) (zTs_of (by decide +kernel) (by decide +kernel)) (zTs_of (by decide +kernel) (by decide +kernel)) zAt_iae (by decide +kernel) (by decide) (by decide +kernel) hs hdk d0 d3 d4 d6 d9 hX
end ZK
