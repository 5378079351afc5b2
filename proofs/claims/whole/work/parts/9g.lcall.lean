/-! THE LAW'S OWN BODY: a call of a wrapper -/
section ZVM
variable {C : zC} {n sl pc : Nat} {lv st : List Value} {h : zH}
/-- what links a static call of a body with a table -/
def zLSH (own : String) (idx na : Nat) (M : zM) (hh : List (Nat × Nat × Nat × Nat)) : Prop :=
  (Cond.codeWith M.1 M.2.1 M.2.2.1 M.2.2.2 hh ∈ zTs ∧ Cond.initialized M.1.cls ∈ zTs ∧ Cond.methodLink own idx M.1 ∈ zTs ∧ Cond.static M.1 ∈ zTs) ∧ (M.1.cls ≠ "java/lang/invoke/MethodHandle" ∧ M.1.cls ≠ "java/lang/invoke/VarHandle" ∧ (parseMethodDescriptor M.1.desc).map (fun d => d.parameters.length) = some na ∧ M.2.2.1 ≤ 45)
theorem zCSWl {M : zM} {hh : List (Nat × Nat × Nat × Nat)} {own : String} {idx na d' k' : Nat} {s : State} {args : Array Value} (hts : ∀ w ∈ zTs, w.before args s = true) (hL : zLSH own idx na M hh) (hd : d' ≤ 1000) :
    vx_CSW room_1 s args own idx M.1 M.2.1 M.2.2.1 M.2.2.2 hh (zwMH M hh) (zRm d' k') k' (6 * k') na := by
  obtain ⟨⟨l1, l2, l3, l4⟩, l5⟩ := hL
  have hin : GoodIn zTs (va_wsS own idx M.1 (zwMH M hh)) := fun w hw => by
    rcases List.mem_append.mp hw with e | e
    · simp only [List.mem_cons, List.not_mem_nil, or_false] at e
      rcases e with e | e | e
      · rw [e]; exact zTs_good _ l3
      · rw [e]; exact zTs_good _ l4
      · rw [e]; exact zTs_good _ l2
    · rcases List.mem_cons.mp e with e | e
      · rw [e]; exact zTs_good _ l1
      · exact zTs_good _ e
  exact vx_cwSW na hts hin rfl rfl rfl ⟨l5.1, l5.2.1, l5.2.2.1⟩ ⟨by show d' + 1 ≤ 2048; omega, by
    show 8 + (M.2.2.1 + 11) + 64 * d' ≤ 84000
    have := l5.2.2.2
    omega⟩
theorem va_Nc_to {A Bn : String} {s U : State} (hW : s.WarmedH U.vm) (hn : va_Nc A Bn s) : va_Nc A Bn U := va_Nc.moved hW.alike hn
theorem zblindH (E : zE) (av : List Value) (h : zH) : FrameBlind (zPcH E av h) := fun a U g mk q => ⟨zblind E av h a U g mk q.1, va_Nc.moved (u := U) (U := U.calling g mk a) (State.WarmedH.refl U).alike q.2⟩
theorem zL_callSH {M : zM} {hh : List (Nat × Nat × Nat × Nat)} {d' k' idx na : Nat} {As : List Value} {Q : Option Value → zH → Prop} (hL : zLSH (cown C) idx na M hh) (hnc : va_Nc IAE NSE (as' C))
    (hM : zCalH (cE C) M hh d' k' As h Q (fun _ _ => False)) (hdk : d' ≤ 1000 ∧ n + k' ≤ 600128 ∧ sl + 6 * k' ≤ 7301098) (hn : As.length = na) (hst : (st.map fun v => v.category).sum ≤ 8) (hd : decode (ccc C) pc = .ok (.invokestatic idx, 3))
    (kk : ∀ r h', Q r h' → zVl C (n + k') (sl + 6 * k') (pc + 3) lv (r.toList ++ st) h') : zVl C n sl pc lv (As.reverse ++ st) h := fun ok H locs ls hP hS hl => by
  have hrun := vx_runSX (hh := hh) (R := room_1) (H := H) (locs := locs) (cells := n) (slots := sl) (e := ae C) (below := abl C) (meth := ame C) (As := As) (rest := st) (g := F0 (am C) pc ls (As.reverse ++ st)) (Ts := zTs) (n := na)
    ⟨ok.1, ok.2.1, ok.2.2.2.1, ok.2.2.2.2.1, ok.2.2.2.2.2.1⟩ hM (zCSWl ok.2.2.2.2.2.1 hL hdk.1)
    ⟨zblindH _ _ _, fun U hU hW => ⟨⟨rfl, by rw [hU]; exact hP, by rw [hU]; exact zSt_to ok.2.2.2.2.2.2.2.1 hW hS.2.1⟩, va_Nc_to hW hnc⟩⟩
    rfl hn hl.1 rfl (lv_room hst) hd ⟨hdk.2.1, hdk.2.2⟩
  refine zcall hrun hS (fun Ex ce q9 h' H1 locs1 hx hP1 hS1 hce hcv hcl => hx.elim) (fun r h' H1 locs1 hq hP1 hS1 => ?_)
  exact kk r h' hq ok H1 locs1 ls hP1 hS1 hl
end ZVM
