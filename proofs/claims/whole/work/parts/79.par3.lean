/-! THE REFERENCE: rules -/
def strI (h : zH) : Prop := (∀ j, j < 2 → h 65 j = ((28 + j : Nat) : Int)) ∧ (∀ j, j < 7 → h 66 j = ((30 + j : Nat) : Int)) ∧ ∀ j, j < 5 → h 67 j = ((30 + j : Nat) : Int)
def preM (h : zH) (T : Nat → Int) (n ru c p : Nat) : Prop := mclk h T n ∧ mtok h T n p ∧ p ≤ n ∧ h 64 24 = 0 ∧ (ru = 0 ∨ ru = 1) ∧ h 64 27 = (ru : Int) ∧ h 68 (8 + ru) = (c : Int) ∧ c ≤ p ∧ h 64 3 = ((66 + ru : Nat) : Int) ∧ strI h
def mfr (h : zH) (ru : Nat) (h' : zH) : Prop := (∀ c2 : Nat, c2 ≠ 64 → c2 ≠ 68 → c2 ≠ 75 + ru → h' c2 = h c2) ∧ (∀ j, (j < 18 ∨ j = 19 ∨ 25 < j) → h' 64 j = h 64 j) ∧ (∀ j, j ≠ 8 + ru → h' 68 j = h 68 j) ∧ ∀ i, i < 700 → h' (75 + ru) i = h (75 + ru) i
def emM (h : zH) (T : Nat → Int) (n ru c : Nat) (l : List Int) (q : Nat) (h' : zH) : Prop := mfr h ru h' ∧ h' 64 24 = 0 ∧ h' 68 (8 + ru) = ((c + l.length : Nat) : Int) ∧ (∀ i, i < c → h' (75 + ru) (700 + i) = h (75 + ru) (700 + i)) ∧ (∀ i, i < l.length → h' (75 + ru) (700 + (c + i)) = enc (l.getD i 0)) ∧ mtok h' T n q
def bdM (h : zH) (T : Nat → Int) (n ru : Nat) (k : Int) (q : Nat) (h' : zH) : Prop := mfr h ru h' ∧ h' 64 24 = k ∧ (1 ≤ k ∧ k ≤ 5) ∧ h' 64 25 = (tA T n q : Int)
def paM (h : zH) (T : Nat → Int) (n ru c : Nat) (R : zR) : Option Value → zH → Prop := fun r h' => r = none ∧ match R with
  | .inl (k, q) => bdM h T n ru k q h'
  | .inr (l, _, q) => emM h T n ru c l q h'
theorem paM_v {h : zH} {T : Nat → Int} {n ru c : Nat} {R : zR} {r : Option Value} {h' : zH} (hq : paM h T n ru c R r h') : r = none ∧ ((∃ k q, R = .inl (k, q) ∧ bdM h T n ru k q h') ∨ ∃ l b q, R = .inr (l, b, q) ∧ emM h T n ru c l q h') := by
  refine ⟨hq.1, ?_⟩
  have := hq.2
  rcases R with ⟨k, q⟩ | ⟨l, b, q⟩
  · exact Or.inl ⟨k, q, rfl, this⟩
  · exact Or.inr ⟨l, b, q, rfl, this⟩
section ZPM
variable {h h1 h2 : zH} {T : Nat → Int} {n ru c p q : Nat} {l : List Int}
theorem mfr_rfl (h : zH) (ru : Nat) : mfr h ru h := ⟨fun _ _ _ _ => rfl, fun _ _ => rfl, fun _ _ => rfl, fun _ _ => rfl⟩
theorem mfr_trans (a : mfr h ru h1) (b : mfr h1 ru h2) : mfr h ru h2 := ⟨fun c2 x y z => (b.1 c2 x y z).trans (a.1 c2 x y z), fun j x => (b.2.1 j x).trans (a.2.1 j x), fun j x => (b.2.2.1 j x).trans (a.2.2.1 j x), fun i x => (b.2.2.2 i x).trans (a.2.2.2 i x)⟩
theorem mfr_st (ru : Nat) (hru : ru = 0 ∨ ru = 1) (a : mst h h1) : mfr h ru h1 := ⟨fun c2 x _ _ => a.1 c2 x, fun j x => a.2 j (by omega) (by omega) (by omega) (by omega) (by omega), fun j _ => by rw [a.1 68 (by decide)], fun i _ => by rw [a.1 (75 + ru) (by omega)]⟩
theorem mfr_wrg (ru : Nat) (hru : ru = 0 ∨ ru = 1) (k : Int) : mfr h ru (wrg h k) := by
  unfold wrg
  exact ⟨fun c2 x _ _ => by rw [zup_fn x, zup_fn x], fun j x => by rw [zup_at, if_neg (by omega), zup_at, if_neg (by omega)], fun j _ => by rw [zup_fn (by decide), zup_fn (by decide)], fun i _ => by rw [zup_fn (by omega), zup_fn (by omega)]⟩
theorem em_0 (hp : preM h T n ru c p) : emM h T n ru c [] p h := ⟨mfr_rfl h ru, hp.2.2.2.1, hp.2.2.2.2.2.2.1, fun _ _ => rfl, fun i hi => absurd hi (Nat.not_lt_zero i), hp.2.1⟩
theorem pre_fr (hp : preM h T n ru c p) (f : mfr h ru h1) : mclk h1 T n ∧ h1 64 27 = (ru : Int) ∧ h1 64 3 = ((66 + ru : Nat) : Int) ∧ strI h1 := by
  obtain ⟨⟨k1, k2, k3, k4⟩, -, -, -, r, p5, -, -, p8, s1, s2, s3⟩ := hp
  exact ⟨⟨by rw [f.2.1 19 (by omega)]; exact k1, k2, by rw [f.1 79 (by decide) (by decide) (by omega)]; exact k3, k4⟩, by rw [f.2.1 27 (by omega)]; exact p5, by rw [f.2.1 3 (by omega)]; exact p8, by rw [f.1 65 (by decide) (by decide) (by omega)]; exact s1, by rw [f.1 66 (by decide) (by decide) (by omega)]; exact s2, by rw [f.1 67 (by decide) (by decide) (by omega)]; exact s3⟩
theorem pre_em (hp : preM h T n ru c p) (he : emM h T n ru c l q h1) (hq : c + l.length ≤ q) (hn : q ≤ n) : preM h1 T n ru (c + l.length) q := by
  obtain ⟨f, e1, e2, e3, e4, e5⟩ := he
  obtain ⟨a, b, d, e⟩ := pre_fr hp f
  exact ⟨a, e5, hn, e1, hp.2.2.2.2.1, b, e2, hq, d, e⟩
theorem em_adv {q2 : Nat} (hru : ru = 0 ∨ ru = 1) (he : emM h T n ru c l q h1) (hs : mst h1 h2) (ht : mtok h2 T n q2) : emM h T n ru c l q2 h2 := by
  obtain ⟨f, e1, e2, e3, e4, e5⟩ := he
  exact ⟨mfr_trans f (mfr_st ru hru hs), by rw [hs.2 24 (by decide) (by decide) (by decide) (by decide) (by decide)]; exact e1, by rw [hs.1 68 (by decide)]; exact e2, by rw [hs.1 (75 + ru) (by omega)]; exact e3, by rw [hs.1 (75 + ru) (by omega)]; exact e4, ht⟩
theorem em_lay {v : Int} (hru : ru = 0 ∨ ru = 1) (he : emM h T n ru c l q h1) : emM h T n ru c (l ++ [v]) q (zup (zup h1 (75 + ru) (700 + (c + l.length)) (enc v)) 68 (8 + ru) (((c + l.length : Nat) : Int) + 1)) := by
  obtain ⟨f, e1, e2, e3, e4, e5⟩ := he
  have e64 : zup (zup h1 (75 + ru) (700 + (c + l.length)) (enc v)) 68 (8 + ru) (((c + l.length : Nat) : Int) + 1) 64 = h1 64 := by rw [zup_fn (by decide), zup_fn (by omega)]
  have es : zup (zup h1 (75 + ru) (700 + (c + l.length)) (enc v)) 68 (8 + ru) (((c + l.length : Nat) : Int) + 1) (75 + ru) = zup h1 (75 + ru) (700 + (c + l.length)) (enc v) (75 + ru) := zup_fn (by omega)
  refine ⟨⟨fun c2 x y z => by rw [zup_fn y, zup_fn z]; exact f.1 c2 x y z, fun j x => by rw [e64]; exact f.2.1 j x, fun j x => by rw [zup_at, if_neg x, zup_fn (by omega)]; exact f.2.2.1 j x, fun i x => by rw [es, zup_at, if_neg (by omega)]; exact f.2.2.2 i x⟩, by rw [e64]; exact e1, by rw [zup_at, if_pos rfl, List.length_append]; simp only [List.length_cons, List.length_nil]; omega, fun i hi => by rw [es, zup_at, if_neg (by omega)]; exact e3 i hi, fun i hi => ?_, ?_⟩
  · rw [es, zup_at]
    rw [List.length_append] at hi
    simp only [List.length_cons, List.length_nil] at hi
    by_cases e : i = l.length
    · rw [if_pos (by omega), e, List.getD_eq_getElem?_getD, List.getElem?_append_right (Nat.le_refl _)]; simp
    · rw [if_neg (by omega), e4 i (by omega), List.getD_eq_getElem?_getD, List.getD_eq_getElem?_getD, List.getElem?_append_left (by omega)]
  · unfold mtok; rw [e64]; exact e5
theorem em_cat {l2 : List Int} {q2 : Nat} (he : emM h T n ru c l q h1) (hf : emM h1 T n ru (c + l.length) l2 q2 h2) : emM h T n ru c (l ++ l2) q2 h2 := by
  obtain ⟨f, e1, e2, e3, e4, e5⟩ := he
  obtain ⟨g, f1, f2, f3, f4, f5⟩ := hf
  refine ⟨mfr_trans f g, f1, by rw [f2, List.length_append, Nat.add_assoc], fun i hi => (f3 i (by omega)).trans (e3 i hi), fun i hi => ?_, f5⟩
  rw [List.length_append] at hi
  by_cases h9 : i < l.length
  · rw [f3 (c + i) (by omega), e4 i h9, List.getD_eq_getElem?_getD, List.getD_eq_getElem?_getD, List.getElem?_append_left h9]
  · have := f4 (i - l.length) (by omega)
    rw [show c + l.length + (i - l.length) = c + i by omega] at this
    rw [this, List.getD_eq_getElem?_getD, List.getD_eq_getElem?_getD, List.getElem?_append_right (by omega)]
theorem bd_cat {k : Int} {q2 : Nat} (he : mfr h ru h1) (hf : bdM h1 T n ru k q2 h2) : bdM h T n ru k q2 h2 := ⟨mfr_trans he hf.1, hf.2⟩
theorem bd_wrg {k : Int} (hru : ru = 0 ∨ ru = 1) (f : mfr h ru h1) (ht : mtok h1 T n q) (hk : 1 ≤ k ∧ k ≤ 5) : bdM h T n ru k q (wrg h1 k) := ⟨mfr_trans f (mfr_wrg ru hru k), rfl, hk, ht.1⟩
end ZPM
theorem c6_layG {E : zE} {h : zH} {ru c : Nat} {x : Int} (d k : Nat) (hru : ru = 0 ∨ ru = 1) (hb : h 64 24 = 0) (h27 : h 64 27 = (ru : Int)) (hc : h 68 (8 + ru) = (c : Int)) (hc7 : c < 700) : zCal E mX6_lay d k [zrv E 64, ziv x] h (fun r h' => r = none ∧ h' = zup (zup h (75 + ru) (700 + c) x) 68 (8 + ru) ((c : Int) + 1)) (fun _ _ => False) := by
  rcases hru with rfl | rfl
  · exact c6_lay0 d k hb h27 hc hc7
  · exact c6_lay1 d k hb h27 hc hc7
theorem bdR {h h1 : zH} {T : Nat → Int} {n ru q : Nat} {k : Int} (hB : bdM h T n ru k q h1) : h1 64 24 ≠ 0 ∧ (0 ≤ h1 64 24 ∧ h1 64 24 ≤ 5) := by
  obtain ⟨-, e, r, -⟩ := hB; rw [e]; omega
theorem if_and {P Q : Prop} [Decidable P] [Decidable Q] (hP : P) : (if P ∧ Q then (1 : Int) else 0) = if Q then 1 else 0 := by
  by_cases e : Q
  · rw [if_pos ⟨hP, e⟩, if_pos e]
  · rw [if_neg (fun z => e z.2), if_neg e]

set_option maxRecDepth 100000 in
theorem c6_isB {E : zE} {h : zH} {i : Nat} (d k : Nat) (hb : h 64 24 ≠ 0) (hbd : 0 ≤ h 64 24 ∧ h 64 24 ≤ 5) : zCal E mX6_is d k [zrv E 64, .ref (eK E i)] h (fun r h' => r = some (ziv 0) ∧ h' = h) (fun _ _ => False) := by
  refine zCal_of (by decide) (Nat.le_of_ble_eq_true rfl) (fun a => ?_)
  show zV _ 0 0 [zrv E 64, .ref (eK E i), .null, .null] [] _
  refine zV_aload_nr dX6_is_0 rfl rfl ?_
  refine gf6_210 rfl rfl dX6_is_1 ?_
  refine zR_if_ne (tgt := 35) dX6_is_4 (by decide) (by omega) (fun h4 => ?_) (fun h4 => ?_)
  · refine zV_iconst dX6_is_35 ?_
    refine zV_istore_n dX6_is_36 rfl (Nat.le_of_ble_eq_true rfl) rfl ?_
    refine zV_iconst dX6_is_37 ?_
    refine zV_istore_n dX6_is_38 rfl (Nat.le_of_ble_eq_true rfl) rfl ?_
    refine zV_iload_n dX6_is_39 rfl rfl ?_
    refine zR_if_eq (tgt := 82) dX6_is_40 (by decide) (by decide) (fun h40 => ?_) (fun h40 => ?_)
    · refine zV_iload_n dX6_is_82 rfl rfl ?_
      exact zV_zreturn dX6_is_83 rfl (Or.inl rfl) (Nat.zero_le _) ⟨rfl, rfl⟩
    · exact absurd rfl h40
  · exact absurd h4 hb
set_option maxRecDepth 100000 in
theorem c6_isMarkedB {E : zE} {h : zH} {c : Int} (d k : Nat) (hb : h 64 24 ≠ 0) (hbd : 0 ≤ h 64 24 ∧ h 64 24 ≤ 5) : zCal E mX6_isMarked d k [zrv E 64, ziv c] h (fun r h' => r = some (ziv 0) ∧ h' = h) (fun _ _ => False) := by
  refine zCal_of (by decide) (Nat.le_of_ble_eq_true rfl) (fun a => ?_)
  show zV _ 0 0 [zrv E 64, ziv c] [] _
  refine zV_aload_nr dX6_isMarked_0 rfl rfl ?_
  refine gf6_210 rfl rfl dX6_isMarked_1 ?_
  refine zR_if_ne (tgt := 32) dX6_isMarked_4 (by decide) (by omega) (fun h4 => ?_) (fun h4 => ?_)
  · refine zV_iconst dX6_isMarked_32 ?_
    exact zV_zreturn dX6_isMarked_33 rfl (Or.inl rfl) (Nat.zero_le _) ⟨rfl, rfl⟩
  · exact absurd h4 hb
set_option maxRecDepth 100000 in
theorem c6_readPartB {E : zE} {h : zH} {w : Int} (d k : Nat) (hb : h 64 24 ≠ 0) (hbd : 0 ≤ h 64 24 ∧ h 64 24 ≤ 5) : zCal E mX6_readPart d k [zrv E 64, ziv w] h (fun r h' => r = none ∧ h' = h) (fun _ _ => False) := by
  refine zCal_of (by decide) (Nat.le_of_ble_eq_true rfl) (fun a => ?_)
  show zV _ 0 0 [zrv E 64, ziv w, .null] [] _
  refine zV_aload_nr dX6_readPart_0 rfl rfl ?_
  refine gf6_210 rfl rfl dX6_readPart_1 ?_
  refine zR_if_eq (tgt := 8) dX6_readPart_4 (by decide) (by omega) (fun h4 => ?_) (fun h4 => ?_)
  · exact absurd h4 hb
  · exact zV_vreturn dX6_readPart_7 rfl (Nat.zero_le _) ⟨rfl, rfl⟩
set_option maxRecDepth 100000 in
theorem c6_readExpressionB {E : zE} {h : zH} {w : Int} (d k : Nat) (hb : h 64 24 ≠ 0) (hbd : 0 ≤ h 64 24 ∧ h 64 24 ≤ 5) : zCal E mX6_readExpression d k [zrv E 64, ziv w] h (fun r h' => r = none ∧ h' = h) (fun _ _ => False) := by
  refine zCal_of (by decide) (Nat.le_of_ble_eq_true rfl) (fun a => ?_)
  show zV _ 0 0 [zrv E 64, ziv w, .null] [] _
  refine zV_aload_nr dX6_readExpression_0 rfl rfl ?_
  refine gf6_210 rfl rfl dX6_readExpression_1 ?_
  refine zR_if_eq (tgt := 8) dX6_readExpression_4 (by decide) (by omega) (fun h4 => ?_) (fun h4 => ?_)
  · exact absurd h4 hb
  · exact zV_vreturn dX6_readExpression_7 rfl (Nat.zero_le _) ⟨rfl, rfl⟩
set_option maxRecDepth 100000 in
theorem c6_readProductB {E : zE} {h : zH} {w : Int} (d k : Nat) (hd : 3 ≤ d) (hb : h 64 24 ≠ 0) (hbd : 0 ≤ h 64 24 ∧ h 64 24 ≤ 5) : zCal E mX6_readProduct d k [zrv E 64, ziv w] h (fun r h' => r = none ∧ h' = h) (fun _ _ => False) := by
  refine zCal_of (by decide) (Nat.le_of_ble_eq_true rfl) (fun a => ?_)
  show zV _ 0 0 [zrv E 64, ziv w, .null] [] _
  refine zV_aload_nr dX6_readProduct_0 rfl rfl ?_
  refine zV_iload_n dX6_readProduct_1 rfl rfl ?_
  refine zV_callV (As := [ziv w]) lk6_258 (rfl) rfl rfl (c6_readPartB (d - 1) 0 hb hbd) ⟨by show _ + 1 ≤ d; omega, by show _ ≤ k; omega⟩ rfl (Nat.le_of_ble_eq_true rfl) dX6_readProduct_2 (fun _ _ z => z.elim) (fun r h9 q => ?_)
  obtain ⟨rfl, hh⟩ := q
  rw [hh]
  clear hh
  refine zV_aload_nr dX6_readProduct_5 rfl rfl ?_
  refine zV_bipush dX6_readProduct_6 (by decide) ?_
  refine zV_callV (As := [ziv 42]) lk6_228 (rfl) rfl rfl (c6_isMarkedB (d - 1) 0 hb hbd) ⟨by show _ + 1 ≤ d; omega, by show _ ≤ k; omega⟩ rfl (Nat.le_of_ble_eq_true rfl) dX6_readProduct_8 (fun _ _ z => z.elim) (fun r h9 q => ?_)
  obtain ⟨rfl, hh⟩ := q
  rw [hh]
  clear hh
  refine zR_if_ne (tgt := 23) dX6_readProduct_11 (by decide) (by decide) (fun h11 => ?_) (fun h11 => ?_)
  · exact absurd rfl h11
  · refine zV_aload_nr dX6_readProduct_14 rfl rfl ?_
    refine zV_bipush dX6_readProduct_15 (by decide) ?_
    refine zV_callV (As := [ziv 47]) lk6_228 (rfl) rfl rfl (c6_isMarkedB (d - 1) 0 hb hbd) ⟨by show _ + 1 ≤ d; omega, by show _ ≤ k; omega⟩ rfl (Nat.le_of_ble_eq_true rfl) dX6_readProduct_17 (fun _ _ z => z.elim) (fun r h9 q => ?_)
    obtain ⟨rfl, hh⟩ := q
    rw [hh]
    clear hh
    refine zR_if_eq (tgt := 57) dX6_readProduct_20 (by decide) (by decide) (fun h20 => ?_) (fun h20 => ?_)
    · exact zV_vreturn dX6_readProduct_57 rfl (Nat.zero_le _) ⟨rfl, rfl⟩
    · exact absurd rfl h20
set_option maxRecDepth 100000 in
theorem c6_readSumB {E : zE} {h : zH} {w : Int} (d k : Nat) (hd : 4 ≤ d) (hb : h 64 24 ≠ 0) (hbd : 0 ≤ h 64 24 ∧ h 64 24 ≤ 5) : zCal E mX6_readSum d k [zrv E 64, ziv w] h (fun r h' => r = none ∧ h' = h) (fun _ _ => False) := by
  refine zCal_of (by decide) (Nat.le_of_ble_eq_true rfl) (fun a => ?_)
  show zV _ 0 0 [zrv E 64, ziv w, .null] [] _
  refine zV_aload_nr dX6_readSum_0 rfl rfl ?_
  refine zV_iload_n dX6_readSum_1 rfl rfl ?_
  refine zV_callV (As := [ziv w]) lk6_261 (rfl) rfl rfl (c6_readProductB (d - 1) 0 (by omega) hb hbd) ⟨by show _ + 1 ≤ d; omega, by show _ ≤ k; omega⟩ rfl (Nat.le_of_ble_eq_true rfl) dX6_readSum_2 (fun _ _ z => z.elim) (fun r h9 q => ?_)
  obtain ⟨rfl, hh⟩ := q
  rw [hh]
  clear hh
  refine zV_aload_nr dX6_readSum_5 rfl rfl ?_
  refine zV_bipush dX6_readSum_6 (by decide) ?_
  refine zV_callV (As := [ziv 43]) lk6_228 (rfl) rfl rfl (c6_isMarkedB (d - 1) 0 hb hbd) ⟨by show _ + 1 ≤ d; omega, by show _ ≤ k; omega⟩ rfl (Nat.le_of_ble_eq_true rfl) dX6_readSum_8 (fun _ _ z => z.elim) (fun r h9 q => ?_)
  obtain ⟨rfl, hh⟩ := q
  rw [hh]
  clear hh
  refine zR_if_ne (tgt := 23) dX6_readSum_11 (by decide) (by decide) (fun h11 => ?_) (fun h11 => ?_)
  · exact absurd rfl h11
  · refine zV_aload_nr dX6_readSum_14 rfl rfl ?_
    refine zV_bipush dX6_readSum_15 (by decide) ?_
    refine zV_callV (As := [ziv 45]) lk6_228 (rfl) rfl rfl (c6_isMarkedB (d - 1) 0 hb hbd) ⟨by show _ + 1 ≤ d; omega, by show _ ≤ k; omega⟩ rfl (Nat.le_of_ble_eq_true rfl) dX6_readSum_17 (fun _ _ z => z.elim) (fun r h9 q => ?_)
    obtain ⟨rfl, hh⟩ := q
    rw [hh]
    clear hh
    refine zR_if_eq (tgt := 57) dX6_readSum_20 (by decide) (by decide) (fun h20 => ?_) (fun h20 => ?_)
    · exact zV_vreturn dX6_readSum_57 rfl (Nat.zero_le _) ⟨rfl, rfl⟩
    · exact absurd rfl h20
set_option maxRecDepth 100000 in
theorem c6_readNotB {E : zE} {h : zH} {w : Int} (d k : Nat) (hd : 5 ≤ d) (hb : h 64 24 ≠ 0) (hbd : 0 ≤ h 64 24 ∧ h 64 24 ≤ 5) : zCal E mX6_readNot d k [zrv E 64, ziv w] h (fun r h' => r = none ∧ h' = h) (fun _ _ => False) := by
  refine zCal_of (by decide) (Nat.le_of_ble_eq_true rfl) (fun a => ?_)
  show zV _ 0 0 [zrv E 64, ziv w, .null, .null] [] _
  refine zV_iconst dX6_readNot_0 ?_
  refine zV_istore_n dX6_readNot_1 rfl (Nat.le_of_ble_eq_true rfl) rfl ?_
  refine zV_aload_nr dX6_readNot_2 rfl rfl ?_
  refine zV_ldsw (i := 37) rfl rfl dX6_readNot_3 ?_
  refine zV_callV (As := [.ref (eK E 37)]) lk6_224 (rfl) rfl rfl (c6_isB (i := 37) (d - 1) 0 hb hbd) ⟨by show _ + 1 ≤ d; omega, by show _ ≤ k; omega⟩ rfl (Nat.le_of_ble_eq_true rfl) dX6_readNot_6 (fun _ _ z => z.elim) (fun r h9 q => ?_)
  obtain ⟨rfl, hh⟩ := q
  rw [hh]
  clear hh
  refine zR_if_eq (tgt := 40) dX6_readNot_9 (by decide) (by decide) (fun h9 => ?_) (fun h9 => ?_)
  · refine zV_aload_nr dX6_readNot_40 rfl rfl ?_
    refine zV_iload_n dX6_readNot_41 rfl rfl ?_
    refine zV_callV (As := [ziv w]) lk6_266 (rfl) rfl rfl (c6_readSumB (d - 1) 0 (by omega) hb hbd) ⟨by show _ + 1 ≤ d; omega, by show _ ≤ k; omega⟩ rfl (Nat.le_of_ble_eq_true rfl) dX6_readNot_42 (fun _ _ z => z.elim) (fun r h9 q => ?_)
    obtain ⟨rfl, hh⟩ := q
    rw [hh]
    clear hh
    refine zV_aload_nr dX6_readNot_45 rfl rfl ?_
    refine zV_bipush dX6_readNot_46 (by decide) ?_
    refine zV_callV (As := [ziv 60]) lk6_228 (rfl) rfl rfl (c6_isMarkedB (d - 1) 0 hb hbd) ⟨by show _ + 1 ≤ d; omega, by show _ ≤ k; omega⟩ rfl (Nat.le_of_ble_eq_true rfl) dX6_readNot_48 (fun _ _ z => z.elim) (fun r h9 q => ?_)
    obtain ⟨rfl, hh⟩ := q
    rw [hh]
    clear hh
    refine zR_if_ne (tgt := 63) dX6_readNot_51 (by decide) (by decide) (fun h51 => ?_) (fun h51 => ?_)
    · exact absurd rfl h51
    · refine zV_aload_nr dX6_readNot_54 rfl rfl ?_
      refine zV_bipush dX6_readNot_55 (by decide) ?_
      refine zV_callV (As := [ziv 61]) lk6_228 (rfl) rfl rfl (c6_isMarkedB (d - 1) 0 hb hbd) ⟨by show _ + 1 ≤ d; omega, by show _ ≤ k; omega⟩ rfl (Nat.le_of_ble_eq_true rfl) dX6_readNot_57 (fun _ _ z => z.elim) (fun r h9 q => ?_)
      obtain ⟨rfl, hh⟩ := q
      rw [hh]
      clear hh
      refine zR_if_eq (tgt := 94) dX6_readNot_60 (by decide) (by decide) (fun h60 => ?_) (fun h60 => ?_)
      · refine zV_iconst dX6_readNot_94 ?_
        refine zV_istore_n dX6_readNot_95 rfl (Nat.le_of_ble_eq_true rfl) rfl ?_
        refine zV_iload_n dX6_readNot_96 rfl rfl ?_
        refine zV_iload_n dX6_readNot_97 rfl rfl ?_
        refine zR_icmp_ge (tgt := 113) dX6_readNot_98 (by decide) (by decide) (by decide) (fun h98 => ?_) (fun h98 => ?_)
        · exact zV_vreturn dX6_readNot_113 rfl (Nat.zero_le _) ⟨rfl, rfl⟩
        · exact absurd (Int.le_refl _) h98
      · exact absurd rfl h60
  · exact absurd rfl h9
set_option maxRecDepth 100000 in
theorem c6_readAndB {E : zE} {h : zH} {w : Int} (d k : Nat) (hd : 6 ≤ d) (hb : h 64 24 ≠ 0) (hbd : 0 ≤ h 64 24 ∧ h 64 24 ≤ 5) : zCal E mX6_readAnd d k [zrv E 64, ziv w] h (fun r h' => r = none ∧ h' = h) (fun _ _ => False) := by
  refine zCal_of (by decide) (Nat.le_of_ble_eq_true rfl) (fun a => ?_)
  show zV _ 0 0 [zrv E 64, ziv w] [] _
  refine zV_aload_nr dX6_readAnd_0 rfl rfl ?_
  refine zV_iload_n dX6_readAnd_1 rfl rfl ?_
  refine zV_callV (As := [ziv w]) lk6_269 (rfl) rfl rfl (c6_readNotB (d - 1) 0 (by omega) hb hbd) ⟨by show _ + 1 ≤ d; omega, by show _ ≤ k; omega⟩ rfl (Nat.le_of_ble_eq_true rfl) dX6_readAnd_2 (fun _ _ z => z.elim) (fun r h9 q => ?_)
  obtain ⟨rfl, hh⟩ := q
  rw [hh]
  clear hh
  refine zV_aload_nr dX6_readAnd_5 rfl rfl ?_
  refine zV_ldsw (i := 38) rfl rfl dX6_readAnd_6 ?_
  refine zV_callV (As := [.ref (eK E 38)]) lk6_224 (rfl) rfl rfl (c6_isB (i := 38) (d - 1) 0 hb hbd) ⟨by show _ + 1 ≤ d; omega, by show _ ≤ k; omega⟩ rfl (Nat.le_of_ble_eq_true rfl) dX6_readAnd_9 (fun _ _ z => z.elim) (fun r h9 q => ?_)
  obtain ⟨rfl, hh⟩ := q
  rw [hh]
  clear hh
  refine zR_if_eq (tgt := 33) dX6_readAnd_12 (by decide) (by decide) (fun h12 => ?_) (fun h12 => ?_)
  · exact zV_vreturn dX6_readAnd_33 rfl (Nat.zero_le _) ⟨rfl, rfl⟩
  · exact absurd rfl h12
set_option maxRecDepth 100000 in
theorem c6_readProduct {E : zE} {h : zH} {T : Nat → Int} {n ru c p : Nat} {ex : Nat → zR} {w : Int} {d k : Nat} (he : ∀ p, p ≤ n → good n p (ex p)) (hp : preM h T n ru c p) (hd : 9 ≤ d) (HP : ∀ (h : zH) (c p : Nat), preM h T n ru c p → zCal E mX6_readPart (d - 1) 0 [zrv E 64, ziv w] h (paM h T n ru c (partP T n (decide (ru = 0)) ex p)) (fun _ _ => False)) : zCal E mX6_readProduct d k [zrv E 64, ziv w] h (paM h T n ru c (prodP T n (decide (ru = 0)) ex p)) (fun _ _ => False) := by
  refine zCal_of (by decide) (Nat.le_of_ble_eq_true rfl) (fun a => ?_)
  show zV _ 0 0 [zrv E 64, ziv w, .null] [] _
  have hk := hp.1
  have hn7 := hk.2.1
  have hru := hp.2.2.2.2.1
  have hpn := hp.2.2.1
  have hcp := hp.2.2.2.2.2.2.2.1
  have hb0 := hp.2.2.2.1
  have gs := good_part (T := T) (dr := (decide (ru = 0))) he
  have JB5 : ∀ (ke : Int) (q0 : Nat) (h2 : zH), (prodP T n (decide (ru = 0)) ex p = .inl (ke, q0)) → (bdM h T n ru ke q0 h2) → zV (E, mX6_readProduct, d, k, (paM h T n ru c (prodP T n (decide (ru = 0)) ex p)), (fun _ _ => False), a) 0 5 [zrv E 64, ziv w, .null] [] h2 := by
    intro ke q0 h2 hR hB
    obtain ⟨hb, hbd⟩ := bdR hB
    refine zV_aload_nr dX6_readProduct_5 rfl rfl ?_
    refine zV_bipush dX6_readProduct_6 (by decide) ?_
    refine zV_callV (As := [ziv 42]) lk6_228 (rfl) rfl rfl (c6_isMarkedB (d - 1) 0 hb hbd) ⟨by show _ + 1 ≤ d; omega, by show _ ≤ k; omega⟩ rfl (Nat.le_of_ble_eq_true rfl) dX6_readProduct_8 (fun _ _ z => z.elim) (fun r h9 q => ?_)
    obtain ⟨rfl, hh⟩ := q
    rw [hh]
    clear hh
    refine zR_if_ne (tgt := 23) dX6_readProduct_11 (by decide) (by decide) (fun h11 => ?_) (fun h11 => ?_)
    · exact absurd rfl h11
    · refine zV_aload_nr dX6_readProduct_14 rfl rfl ?_
      refine zV_bipush dX6_readProduct_15 (by decide) ?_
      refine zV_callV (As := [ziv 47]) lk6_228 (rfl) rfl rfl (c6_isMarkedB (d - 1) 0 hb hbd) ⟨by show _ + 1 ≤ d; omega, by show _ ≤ k; omega⟩ rfl (Nat.le_of_ble_eq_true rfl) dX6_readProduct_17 (fun _ _ z => z.elim) (fun r h9 q => ?_)
      obtain ⟨rfl, hh⟩ := q
      rw [hh]
      clear hh
      refine zR_if_eq (tgt := 57) dX6_readProduct_20 (by decide) (by decide) (fun h20 => ?_) (fun h20 => ?_)
      · exact zV_vreturn dX6_readProduct_57 rfl (Nat.zero_le _) ⟨rfl, by rw [hR]; exact hB⟩
      · exact absurd rfl h20
  have JB49 : ∀ (ov : Int) (ke : Int) (q0 : Nat) (h2 : zH), (prodP T n (decide (ru = 0)) ex p = .inl (ke, q0)) → (bdM h T n ru ke q0 h2) → zV (E, mX6_readProduct, d, k, (paM h T n ru c (prodP T n (decide (ru = 0)) ex p)), (fun _ _ => False), a) 0 49 [zrv E 64, ziv w, ziv ov] [] h2 := by
    intro ov ke q0 h2 hR hB
    obtain ⟨hb, hbd⟩ := bdR hB
    refine zV_aload_nr dX6_readProduct_49 rfl rfl ?_
    refine zV_iload_n dX6_readProduct_50 rfl rfl ?_
    refine zV_callV (As := [ziv ov]) lk6_245 (rfl) rfl rfl (c6_layB (d - 1) 0 hb hbd) ⟨by show _ + 1 ≤ d; omega, by show _ ≤ k; omega⟩ rfl (Nat.le_of_ble_eq_true rfl) dX6_readProduct_51 (fun _ _ z => z.elim) (fun r h9 q => ?_)
    obtain ⟨rfl, hh⟩ := q
    rw [hh]
    clear hh
    refine zV_goto (tgt := 5) dX6_readProduct_54 (by decide) ?_
    refine zV_drop 2 ?_
    exact JB5 ke q0 h2 hR hB
  refine zV_aload_nr dX6_readProduct_0 rfl rfl ?_
  refine zV_iload_n dX6_readProduct_1 rfl rfl ?_
  refine zV_callV (As := [ziv w]) lk6_258 (rfl) rfl rfl (HP h c p hp) ⟨by show _ + 1 ≤ d; omega, by show _ ≤ k; omega⟩ rfl (Nat.le_of_ble_eq_true rfl) dX6_readProduct_2 (fun _ _ z => z.elim) (fun r h1 q => ?_)
  obtain ⟨rfl, hv9⟩ := paM_v q
  rcases hv9 with ⟨ke, q0, hR0, hB0⟩ | ⟨l2, b2, q2, hR2, hE2b⟩
  · exact JB5 ke q0 h1 (by unfold prodP; rw [hR0]; rfl) hB0
  have L5 : ∀ (m : Nat) (i : Nat) (l : List Int) (b : Bool) (q1 : Nat) (h1 : zH), (n + 1 ≤ i + m) → (emM h T n ru c l q1 h1) → (i ≤ q1 ∧ q1 ≤ n) → (p + l.length ≤ q1 ∧ p < q1) → (prodP T n (decide (ru = 0)) ex p = loopP T n (opMul T n) (partP T n (decide (ru = 0)) ex) (n + 1 - i) l b q1) → zV (E, mX6_readProduct, d, k, (paM h T n ru c (prodP T n (decide (ru = 0)) ex p)), (fun _ _ => False), a) 0 5 [zrv E 64, ziv w, .null] [] h1 := by
    intro m
    induction m with
    | zero => intro i l b q1 h1 hm_ hE hi9 hl9 hR; exfalso; (by_cases e9 : i = n + 1 <;> omega)
    | succ m ih =>
      intro i l b q1 h1 hm_ hE hi9 hl9 hR
      have hp1 := pre_em hp hE (by omega) hi9.2
      have tl := tB_lo (T := T) hi9.2
      have ta := tA_lo (T := T) hi9.2
      have hR1 : opMul T n q1 = 0 → prodP T n (decide (ru = 0)) ex p = .inr (l, b, q1) := fun z => by rw [hR, show n + 1 - i = (n - i) + 1 by omega, loopP_s, if_pos z]
      refine zV_aload_nr dX6_readProduct_5 rfl rfl ?_
      refine zV_bipush dX6_readProduct_6 (by decide) ?_
      refine zV_callV (As := [ziv 42]) lk6_228 (rfl) rfl rfl (c6_isMarked (T := T) (n := n) (p := q1) (d - 1) 0 hp1.1 hp1.2.1 hp1.2.2.1 (by rw [hp1.2.2.2.1]; decide) (by decide) (by decide)) ⟨by show _ + 1 ≤ d; omega, by show _ ≤ k; omega⟩ rfl (Nat.le_of_ble_eq_true rfl) dX6_readProduct_8 (fun _ _ z => z.elim) (fun r h9 q => ?_)
      obtain ⟨rfl, hh⟩ := q
      rw [hh]
      clear hh
      rw [if_and hp1.2.2.2.1]
      have J23 : (opMul T n q1 ≠ 0) → zV (E, mX6_readProduct, d, k, (paM h T n ru c (prodP T n (decide (ru = 0)) ex p)), (fun _ _ => False), a) 0 23 [zrv E 64, ziv w, .null] [] h1 := by
        intro  hop
        have tkn := op_k.1 q1 hop
        have tlt := tl.2.2 tkn
        refine zV_aload_nr dX6_readProduct_23 rfl rfl ?_
        refine zV_bipush dX6_readProduct_24 (by decide) ?_
        refine zV_callV (As := [ziv 42]) lk6_228 (rfl) rfl rfl (c6_isMarked (T := T) (n := n) (p := q1) (d - 1) 0 hp1.1 hp1.2.1 hp1.2.2.1 (by rw [hp1.2.2.2.1]; decide) (by decide) (by decide)) ⟨by show _ + 1 ≤ d; omega, by show _ ≤ k; omega⟩ rfl (Nat.le_of_ble_eq_true rfl) dX6_readProduct_26 (fun _ _ z => z.elim) (fun r h9 q => ?_)
        obtain ⟨rfl, hh⟩ := q
        rw [hh]
        clear hh
        rw [if_and hp1.2.2.2.1]
        have J39 : ∀ (ov : Int), (ov = enc (opMul T n q1)) → zV (E, mX6_readProduct, d, k, (paM h T n ru c (prodP T n (decide (ru = 0)) ex p)), (fun _ _ => False), a) 0 39 [zrv E 64, ziv w, .null] [ziv ov] h1 := by
          intro ov hov
          refine zV_istore_n dX6_readProduct_39 rfl (Nat.le_of_ble_eq_true rfl) rfl ?_
          refine zV_aload_nr dX6_readProduct_40 rfl rfl ?_
          refine zV_callV (As := []) lk6_235 (rfl) rfl rfl (c6_stepOn (T := T) (n := n) (p := tB T n q1) (d - 1) 0 (by omega) hp1.1 hp1.2.1.2.2.1 tl.2.1) ⟨by show _ + 1 ≤ d; omega, by show _ ≤ k; omega⟩ rfl (Nat.le_of_ble_eq_true rfl) dX6_readProduct_41 (fun _ _ z => z.elim) (fun r h2 q => ?_)
          obtain ⟨rfl, st2, tk2⟩ := q
          have hE2 := em_adv hru hE st2 tk2
          have hp2 := pre_em hp hE2 (by omega) tl.2.1
          refine zV_aload_nr dX6_readProduct_44 rfl rfl ?_
          refine zV_iload_n dX6_readProduct_45 rfl rfl ?_
          refine zV_callV (As := [ziv w]) lk6_258 (rfl) rfl rfl (HP h2 (c + l.length) (tB T n q1) hp2) ⟨by show _ + 1 ≤ d; omega, by show _ ≤ k; omega⟩ rfl (Nat.le_of_ble_eq_true rfl) dX6_readProduct_46 (fun _ _ z => z.elim) (fun r h3 q => ?_)
          obtain ⟨rfl, hv9⟩ := paM_v q
          rcases hv9 with ⟨ke, q0, hR0, hB0⟩ | ⟨l2, b2, q2, hR2, hE2b⟩
          · exact JB49 _ ke q0 h3 (by rw [hR, show n + 1 - i = (n - i) + 1 by omega, loopP_s, if_neg hop, hR0]; rfl) (bd_cat hE2.1 hB0)
          have g2 := gs (tB T n q1) tl.2.1
          rw [hR2] at g2
          have g21 : tB T n q1 + l2.length ≤ q2 := g2.1
          have g22 : q2 ≤ n := g2.2.2
          have g23 : tB T n q1 < q2 := g2.2.1
          have ll : (l ++ l2).length = l.length + l2.length := List.length_append
          have hE3 := em_cat hE2 hE2b
          have hp3 := pre_em hp hE3 (by omega) g22
          refine zV_aload_nr dX6_readProduct_49 rfl rfl ?_
          refine zV_iload_n dX6_readProduct_50 rfl rfl ?_
          refine zV_callV (As := [ziv ov]) lk6_245 (rfl) rfl rfl (c6_layG (c := (c + (l ++ l2).length)) (d - 1) 0 hru hp3.2.2.2.1 hp3.2.2.2.2.2.1 hp3.2.2.2.2.2.2.1 (by omega)) ⟨by show _ + 1 ≤ d; omega, by show _ ≤ k; omega⟩ rfl (Nat.le_of_ble_eq_true rfl) dX6_readProduct_51 (fun _ _ z => z.elim) (fun r h4 q => ?_)
          obtain ⟨rfl, hh⟩ := q
          rw [hh]
          clear hh
          refine zV_goto (tgt := 5) dX6_readProduct_54 (by decide) ?_
          refine zV_drop 2 ?_
          rw [hov]
          refine ih (i + 1) (l ++ (l2 ++ [opMul T n q1])) (b || b2) q2 _ (by omega) ?_ ⟨by omega, g22⟩ ⟨by simp only [List.length_append, List.length_cons, List.length_nil]; omega, by omega⟩ (by rw [hR, show n + 1 - i = (n + 1 - (i + 1)) + 1 by omega, loopP_s, if_neg hop, hR2]; rfl)
          have := em_lay (v := opMul T n q1) hru hE3
          rw [List.append_assoc] at this
          exact this
        refine zR_if_eq (tgt := 37) dX6_readProduct_29 (by decide) (by split <;> omega) (fun h29 => ?_) (fun h29 => ?_)
        · have n29 := ipF h29
          refine zV_bipush dX6_readProduct_37 (by decide) ?_
          exact J39 _ (by rw [opMul_2 hop n29]; rfl)
        · have y29 := ipT h29
          refine zV_bipush dX6_readProduct_32 (by decide) ?_
          refine zV_goto (tgt := 39) dX6_readProduct_34 (by decide) ?_
          exact J39 _ (by unfold opMul; rw [if_pos y29]; rfl)
      refine zR_if_ne (tgt := 23) dX6_readProduct_11 (by decide) (by split <;> omega) (fun h11 => ?_) (fun h11 => ?_)
      · have y11 := ipT h11
        exact J23 (by unfold opMul; rw [if_pos y11]; decide)
      · have n11 := ipF h11
        refine zV_aload_nr dX6_readProduct_14 rfl rfl ?_
        refine zV_bipush dX6_readProduct_15 (by decide) ?_
        refine zV_callV (As := [ziv 47]) lk6_228 (rfl) rfl rfl (c6_isMarked (T := T) (n := n) (p := q1) (d - 1) 0 hp1.1 hp1.2.1 hp1.2.2.1 (by rw [hp1.2.2.2.1]; decide) (by decide) (by decide)) ⟨by show _ + 1 ≤ d; omega, by show _ ≤ k; omega⟩ rfl (Nat.le_of_ble_eq_true rfl) dX6_readProduct_17 (fun _ _ z => z.elim) (fun r h9 q => ?_)
        obtain ⟨rfl, hh⟩ := q
        rw [hh]
        clear hh
        rw [if_and hp1.2.2.2.1]
        refine zR_if_eq (tgt := 57) dX6_readProduct_20 (by decide) (by split <;> omega) (fun h20 => ?_) (fun h20 => ?_)
        · have n20 := ipF h20
          exact zV_vreturn dX6_readProduct_57 rfl (Nat.zero_le _) ⟨rfl, by rw [hR1 (by unfold opMul; rw [if_neg n11, if_neg n20])]; exact hE⟩
        · have y20 := ipT h20
          exact J23 (by unfold opMul; rw [if_neg n11, if_pos y20]; decide)
  have g0 := gs p hpn
  rw [hR2] at g0
  exact L5 (n + 2) 0 l2 b2 q2 h1 (by omega) hE2b ⟨by omega, g0.2.2⟩ ⟨g0.1, g0.2.1⟩ (by unfold prodP; rw [hR2]; rfl)
set_option maxRecDepth 100000 in
theorem c6_readSum {E : zE} {h : zH} {T : Nat → Int} {n ru c p : Nat} {ex : Nat → zR} {w : Int} {d k : Nat} (he : ∀ p, p ≤ n → good n p (ex p)) (hp : preM h T n ru c p) (hd : 9 ≤ d) (HP : ∀ (h : zH) (c p : Nat), preM h T n ru c p → zCal E mX6_readProduct (d - 1) 0 [zrv E 64, ziv w] h (paM h T n ru c (prodP T n (decide (ru = 0)) ex p)) (fun _ _ => False)) : zCal E mX6_readSum d k [zrv E 64, ziv w] h (paM h T n ru c (sumP T n (decide (ru = 0)) ex p)) (fun _ _ => False) := by
  refine zCal_of (by decide) (Nat.le_of_ble_eq_true rfl) (fun a => ?_)
  show zV _ 0 0 [zrv E 64, ziv w, .null] [] _
  have hk := hp.1
  have hn7 := hk.2.1
  have hru := hp.2.2.2.2.1
  have hpn := hp.2.2.1
  have hcp := hp.2.2.2.2.2.2.2.1
  have hb0 := hp.2.2.2.1
  have gs := good_prod (T := T) (dr := (decide (ru = 0))) he
  have JB5 : ∀ (ke : Int) (q0 : Nat) (h2 : zH), (sumP T n (decide (ru = 0)) ex p = .inl (ke, q0)) → (bdM h T n ru ke q0 h2) → zV (E, mX6_readSum, d, k, (paM h T n ru c (sumP T n (decide (ru = 0)) ex p)), (fun _ _ => False), a) 0 5 [zrv E 64, ziv w, .null] [] h2 := by
    intro ke q0 h2 hR hB
    obtain ⟨hb, hbd⟩ := bdR hB
    refine zV_aload_nr dX6_readSum_5 rfl rfl ?_
    refine zV_bipush dX6_readSum_6 (by decide) ?_
    refine zV_callV (As := [ziv 43]) lk6_228 (rfl) rfl rfl (c6_isMarkedB (d - 1) 0 hb hbd) ⟨by show _ + 1 ≤ d; omega, by show _ ≤ k; omega⟩ rfl (Nat.le_of_ble_eq_true rfl) dX6_readSum_8 (fun _ _ z => z.elim) (fun r h9 q => ?_)
    obtain ⟨rfl, hh⟩ := q
    rw [hh]
    clear hh
    refine zR_if_ne (tgt := 23) dX6_readSum_11 (by decide) (by decide) (fun h11 => ?_) (fun h11 => ?_)
    · exact absurd rfl h11
    · refine zV_aload_nr dX6_readSum_14 rfl rfl ?_
      refine zV_bipush dX6_readSum_15 (by decide) ?_
      refine zV_callV (As := [ziv 45]) lk6_228 (rfl) rfl rfl (c6_isMarkedB (d - 1) 0 hb hbd) ⟨by show _ + 1 ≤ d; omega, by show _ ≤ k; omega⟩ rfl (Nat.le_of_ble_eq_true rfl) dX6_readSum_17 (fun _ _ z => z.elim) (fun r h9 q => ?_)
      obtain ⟨rfl, hh⟩ := q
      rw [hh]
      clear hh
      refine zR_if_eq (tgt := 57) dX6_readSum_20 (by decide) (by decide) (fun h20 => ?_) (fun h20 => ?_)
      · exact zV_vreturn dX6_readSum_57 rfl (Nat.zero_le _) ⟨rfl, by rw [hR]; exact hB⟩
      · exact absurd rfl h20
  have JB49 : ∀ (ov : Int) (ke : Int) (q0 : Nat) (h2 : zH), (sumP T n (decide (ru = 0)) ex p = .inl (ke, q0)) → (bdM h T n ru ke q0 h2) → zV (E, mX6_readSum, d, k, (paM h T n ru c (sumP T n (decide (ru = 0)) ex p)), (fun _ _ => False), a) 0 49 [zrv E 64, ziv w, ziv ov] [] h2 := by
    intro ov ke q0 h2 hR hB
    obtain ⟨hb, hbd⟩ := bdR hB
    refine zV_aload_nr dX6_readSum_49 rfl rfl ?_
    refine zV_iload_n dX6_readSum_50 rfl rfl ?_
    refine zV_callV (As := [ziv ov]) lk6_245 (rfl) rfl rfl (c6_layB (d - 1) 0 hb hbd) ⟨by show _ + 1 ≤ d; omega, by show _ ≤ k; omega⟩ rfl (Nat.le_of_ble_eq_true rfl) dX6_readSum_51 (fun _ _ z => z.elim) (fun r h9 q => ?_)
    obtain ⟨rfl, hh⟩ := q
    rw [hh]
    clear hh
    refine zV_goto (tgt := 5) dX6_readSum_54 (by decide) ?_
    refine zV_drop 2 ?_
    exact JB5 ke q0 h2 hR hB
  refine zV_aload_nr dX6_readSum_0 rfl rfl ?_
  refine zV_iload_n dX6_readSum_1 rfl rfl ?_
  refine zV_callV (As := [ziv w]) lk6_261 (rfl) rfl rfl (HP h c p hp) ⟨by show _ + 1 ≤ d; omega, by show _ ≤ k; omega⟩ rfl (Nat.le_of_ble_eq_true rfl) dX6_readSum_2 (fun _ _ z => z.elim) (fun r h1 q => ?_)
  obtain ⟨rfl, hv9⟩ := paM_v q
  rcases hv9 with ⟨ke, q0, hR0, hB0⟩ | ⟨l2, b2, q2, hR2, hE2b⟩
  · exact JB5 ke q0 h1 (by unfold sumP; rw [hR0]; rfl) hB0
  have L5 : ∀ (m : Nat) (i : Nat) (l : List Int) (b : Bool) (q1 : Nat) (h1 : zH), (n + 1 ≤ i + m) → (emM h T n ru c l q1 h1) → (i ≤ q1 ∧ q1 ≤ n) → (p + l.length ≤ q1 ∧ p < q1) → (sumP T n (decide (ru = 0)) ex p = loopP T n (opAdd T n) (prodP T n (decide (ru = 0)) ex) (n + 1 - i) l b q1) → zV (E, mX6_readSum, d, k, (paM h T n ru c (sumP T n (decide (ru = 0)) ex p)), (fun _ _ => False), a) 0 5 [zrv E 64, ziv w, .null] [] h1 := by
    intro m
    induction m with
    | zero => intro i l b q1 h1 hm_ hE hi9 hl9 hR; exfalso; (by_cases e9 : i = n + 1 <;> omega)
    | succ m ih =>
      intro i l b q1 h1 hm_ hE hi9 hl9 hR
      have hp1 := pre_em hp hE (by omega) hi9.2
      have tl := tB_lo (T := T) hi9.2
      have ta := tA_lo (T := T) hi9.2
      have hR1 : opAdd T n q1 = 0 → sumP T n (decide (ru = 0)) ex p = .inr (l, b, q1) := fun z => by rw [hR, show n + 1 - i = (n - i) + 1 by omega, loopP_s, if_pos z]
      refine zV_aload_nr dX6_readSum_5 rfl rfl ?_
      refine zV_bipush dX6_readSum_6 (by decide) ?_
      refine zV_callV (As := [ziv 43]) lk6_228 (rfl) rfl rfl (c6_isMarked (T := T) (n := n) (p := q1) (d - 1) 0 hp1.1 hp1.2.1 hp1.2.2.1 (by rw [hp1.2.2.2.1]; decide) (by decide) (by decide)) ⟨by show _ + 1 ≤ d; omega, by show _ ≤ k; omega⟩ rfl (Nat.le_of_ble_eq_true rfl) dX6_readSum_8 (fun _ _ z => z.elim) (fun r h9 q => ?_)
      obtain ⟨rfl, hh⟩ := q
      rw [hh]
      clear hh
      rw [if_and hp1.2.2.2.1]
      have J23 : (opAdd T n q1 ≠ 0) → zV (E, mX6_readSum, d, k, (paM h T n ru c (sumP T n (decide (ru = 0)) ex p)), (fun _ _ => False), a) 0 23 [zrv E 64, ziv w, .null] [] h1 := by
        intro  hop
        have tkn := op_k.2.1 q1 hop
        have tlt := tl.2.2 tkn
        refine zV_aload_nr dX6_readSum_23 rfl rfl ?_
        refine zV_bipush dX6_readSum_24 (by decide) ?_
        refine zV_callV (As := [ziv 43]) lk6_228 (rfl) rfl rfl (c6_isMarked (T := T) (n := n) (p := q1) (d - 1) 0 hp1.1 hp1.2.1 hp1.2.2.1 (by rw [hp1.2.2.2.1]; decide) (by decide) (by decide)) ⟨by show _ + 1 ≤ d; omega, by show _ ≤ k; omega⟩ rfl (Nat.le_of_ble_eq_true rfl) dX6_readSum_26 (fun _ _ z => z.elim) (fun r h9 q => ?_)
        obtain ⟨rfl, hh⟩ := q
        rw [hh]
        clear hh
        rw [if_and hp1.2.2.2.1]
        have J39 : ∀ (ov : Int), (ov = enc (opAdd T n q1)) → zV (E, mX6_readSum, d, k, (paM h T n ru c (sumP T n (decide (ru = 0)) ex p)), (fun _ _ => False), a) 0 39 [zrv E 64, ziv w, .null] [ziv ov] h1 := by
          intro ov hov
          refine zV_istore_n dX6_readSum_39 rfl (Nat.le_of_ble_eq_true rfl) rfl ?_
          refine zV_aload_nr dX6_readSum_40 rfl rfl ?_
          refine zV_callV (As := []) lk6_235 (rfl) rfl rfl (c6_stepOn (T := T) (n := n) (p := tB T n q1) (d - 1) 0 (by omega) hp1.1 hp1.2.1.2.2.1 tl.2.1) ⟨by show _ + 1 ≤ d; omega, by show _ ≤ k; omega⟩ rfl (Nat.le_of_ble_eq_true rfl) dX6_readSum_41 (fun _ _ z => z.elim) (fun r h2 q => ?_)
          obtain ⟨rfl, st2, tk2⟩ := q
          have hE2 := em_adv hru hE st2 tk2
          have hp2 := pre_em hp hE2 (by omega) tl.2.1
          refine zV_aload_nr dX6_readSum_44 rfl rfl ?_
          refine zV_iload_n dX6_readSum_45 rfl rfl ?_
          refine zV_callV (As := [ziv w]) lk6_261 (rfl) rfl rfl (HP h2 (c + l.length) (tB T n q1) hp2) ⟨by show _ + 1 ≤ d; omega, by show _ ≤ k; omega⟩ rfl (Nat.le_of_ble_eq_true rfl) dX6_readSum_46 (fun _ _ z => z.elim) (fun r h3 q => ?_)
          obtain ⟨rfl, hv9⟩ := paM_v q
          rcases hv9 with ⟨ke, q0, hR0, hB0⟩ | ⟨l2, b2, q2, hR2, hE2b⟩
          · exact JB49 _ ke q0 h3 (by rw [hR, show n + 1 - i = (n - i) + 1 by omega, loopP_s, if_neg hop, hR0]; rfl) (bd_cat hE2.1 hB0)
          have g2 := gs (tB T n q1) tl.2.1
          rw [hR2] at g2
          have g21 : tB T n q1 + l2.length ≤ q2 := g2.1
          have g22 : q2 ≤ n := g2.2.2
          have g23 : tB T n q1 < q2 := g2.2.1
          have ll : (l ++ l2).length = l.length + l2.length := List.length_append
          have hE3 := em_cat hE2 hE2b
          have hp3 := pre_em hp hE3 (by omega) g22
          refine zV_aload_nr dX6_readSum_49 rfl rfl ?_
          refine zV_iload_n dX6_readSum_50 rfl rfl ?_
          refine zV_callV (As := [ziv ov]) lk6_245 (rfl) rfl rfl (c6_layG (c := (c + (l ++ l2).length)) (d - 1) 0 hru hp3.2.2.2.1 hp3.2.2.2.2.2.1 hp3.2.2.2.2.2.2.1 (by omega)) ⟨by show _ + 1 ≤ d; omega, by show _ ≤ k; omega⟩ rfl (Nat.le_of_ble_eq_true rfl) dX6_readSum_51 (fun _ _ z => z.elim) (fun r h4 q => ?_)
          obtain ⟨rfl, hh⟩ := q
          rw [hh]
          clear hh
          refine zV_goto (tgt := 5) dX6_readSum_54 (by decide) ?_
          refine zV_drop 2 ?_
          rw [hov]
          refine ih (i + 1) (l ++ (l2 ++ [opAdd T n q1])) (b || b2) q2 _ (by omega) ?_ ⟨by omega, g22⟩ ⟨by simp only [List.length_append, List.length_cons, List.length_nil]; omega, by omega⟩ (by rw [hR, show n + 1 - i = (n + 1 - (i + 1)) + 1 by omega, loopP_s, if_neg hop, hR2]; rfl)
          have := em_lay (v := opAdd T n q1) hru hE3
          rw [List.append_assoc] at this
          exact this
        refine zR_if_eq (tgt := 37) dX6_readSum_29 (by decide) (by split <;> omega) (fun h29 => ?_) (fun h29 => ?_)
        · have n29 := ipF h29
          refine zV_bipush dX6_readSum_37 (by decide) ?_
          exact J39 _ (by rw [opAdd_2 hop n29]; rfl)
        · have y29 := ipT h29
          refine zV_bipush dX6_readSum_32 (by decide) ?_
          refine zV_goto (tgt := 39) dX6_readSum_34 (by decide) ?_
          exact J39 _ (by unfold opAdd; rw [if_pos y29]; rfl)
      refine zR_if_ne (tgt := 23) dX6_readSum_11 (by decide) (by split <;> omega) (fun h11 => ?_) (fun h11 => ?_)
      · have y11 := ipT h11
        exact J23 (by unfold opAdd; rw [if_pos y11]; decide)
      · have n11 := ipF h11
        refine zV_aload_nr dX6_readSum_14 rfl rfl ?_
        refine zV_bipush dX6_readSum_15 (by decide) ?_
        refine zV_callV (As := [ziv 45]) lk6_228 (rfl) rfl rfl (c6_isMarked (T := T) (n := n) (p := q1) (d - 1) 0 hp1.1 hp1.2.1 hp1.2.2.1 (by rw [hp1.2.2.2.1]; decide) (by decide) (by decide)) ⟨by show _ + 1 ≤ d; omega, by show _ ≤ k; omega⟩ rfl (Nat.le_of_ble_eq_true rfl) dX6_readSum_17 (fun _ _ z => z.elim) (fun r h9 q => ?_)
        obtain ⟨rfl, hh⟩ := q
        rw [hh]
        clear hh
        rw [if_and hp1.2.2.2.1]
        refine zR_if_eq (tgt := 57) dX6_readSum_20 (by decide) (by split <;> omega) (fun h20 => ?_) (fun h20 => ?_)
        · have n20 := ipF h20
          exact zV_vreturn dX6_readSum_57 rfl (Nat.zero_le _) ⟨rfl, by rw [hR1 (by unfold opAdd; rw [if_neg n11, if_neg n20])]; exact hE⟩
        · have y20 := ipT h20
          exact J23 (by unfold opAdd; rw [if_neg n11, if_pos y20]; decide)
  have g0 := gs p hpn
  rw [hR2] at g0
  exact L5 (n + 2) 0 l2 b2 q2 h1 (by omega) hE2b ⟨by omega, g0.2.2⟩ ⟨g0.1, g0.2.1⟩ (by unfold sumP; rw [hR2]; rfl)
