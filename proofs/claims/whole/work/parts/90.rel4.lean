/-! CLASS AND REFERENCE: the further answers -/
def gapZ (z : Nat → Bool) : Nat → Int × Int
  | 0 => (0, 0)
  | m + 1 => (max (gapZ z m).1 (if z (m % 12) = true then (gapZ z m).2 + 1 else 0), if z (m % 12) = true then (gapZ z m).2 + 1 else 0)
theorem gapS_Z (p : Nat → Int) (n : Nat) : ∀ m, gapS p n m = gapZ (emZ p n) m := by
  intro m
  induction m with
  | zero => rfl
  | succ m ih =>
    have e : (if cntS p ((m % 12 : Nat) : Int) n = 0 then (gapZ (emZ p n) m).2 + 1 else 0) = if emZ p n (m % 12) = true then (gapZ (emZ p n) m).2 + 1 else 0 := by
      unfold emZ
      by_cases z : cntS p ((m % 12 : Nat) : Int) n = 0
      · rw [if_pos z, if_pos (decide_eq_true z)]
      · rw [if_neg z, if_neg (by rw [decide_eq_true_iff]; exact z)]
    unfold gapS gapZ
    rw [ih, e]
theorem gapZ_cg {z y : Nat → Bool} (h : ∀ q, q < 12 → z q = y q) : ∀ m, gapZ z m = gapZ y m := by
  intro m
  induction m with
  | zero => rfl
  | succ m ih => unfold gapZ; rw [ih, h (m % 12) (Nat.mod_lt m (by decide))]
theorem rlZ_cg {z y : Nat → Bool} (h : ∀ q, q < 12 → z q = y q) (p : Nat) : ∀ f k, rlZ z p f k = rlZ y p f k := by
  intro f
  induction f with
  | zero => intro k; rfl
  | succ f ih => intro k; rw [rlZ_s, rlZ_s, h ((p + k) % 12) (Nat.mod_lt _ (by decide)), ih]
theorem gmZ_cg {z y : Nat → Bool} (h : ∀ q, q < 12 → z q = y q) : ∀ m, gmZ z m = gmZ y m := by
  intro m
  induction m with
  | zero => rfl
  | succ m ih => unfold gmZ; rw [ih, rlZ_cg h]
theorem rl_true (z : Nat → Bool) (p : Nat) : ∀ f k, k ≤ rlZ z p f k ∧ rlZ z p f k ≤ k + f ∧ ∀ j, k ≤ j → j < rlZ z p f k → z ((p + j) % 12) = true := by
  intro f
  induction f with
  | zero => intro k; exact ⟨Nat.le_refl _, Nat.le_refl _, fun j a b => absurd (show j < k from b) (by omega)⟩
  | succ f ih =>
    intro k
    rw [rlZ_s]
    by_cases e : z ((p + k) % 12) = true
    · rw [if_pos e]
      obtain ⟨a, b, c⟩ := ih (k + 1)
      refine ⟨by omega, by omega, fun j x y => ?_⟩
      by_cases e2 : j = k
      · rw [e2]; exact e
      · exact c j (by omega) y
    · rw [if_neg e]; exact ⟨Nat.le_refl _, by omega, fun j a b => absurd b (by omega)⟩
theorem rl_ge (z : Nat → Bool) (p L : Nat) : ∀ f k, L ≤ f → (∀ j, k ≤ j → j < k + L → z ((p + j) % 12) = true) → k + L ≤ rlZ z p f k := by
  induction L with
  | zero => intro f k _ _; exact (rl_true z p f k).1
  | succ L ih =>
    intro f k hf h
    cases f with
    | zero => omega
    | succ f =>
      rw [rlZ_s, if_pos (h k (Nat.le_refl _) (by omega))]
      have := ih f (k + 1) (by omega) (fun j a b => h j (by omega) (by omega))
      omega
theorem e_true (z : Nat → Bool) : ∀ m, ∃ E : Nat, (gapZ z m).2 = (E : Int) ∧ E ≤ m ∧ ∀ j, m - E ≤ j → j < m → z (j % 12) = true := by
  intro m
  induction m with
  | zero => exact ⟨0, rfl, Nat.le_refl _, fun j _ b => absurd b (Nat.not_lt_zero j)⟩
  | succ m ih =>
    obtain ⟨E, a, b, c⟩ := ih
    by_cases e : z (m % 12) = true
    · refine ⟨E + 1, ?_, by omega, fun j x y => ?_⟩
      · show (if z (m % 12) = true then (gapZ z m).2 + 1 else 0) = _
        rw [if_pos e, a]; omega
      · by_cases e2 : j = m
        · rw [e2]; exact e
        · exact c j (by omega) (by omega)
    · refine ⟨0, ?_, by omega, fun j x y => absurd y (by omega)⟩
      show (if z (m % 12) = true then (gapZ z m).2 + 1 else 0) = _
      rw [if_neg e]; rfl
theorem e_ge (z : Nat → Bool) (L : Nat) : ∀ m, L ≤ m → (∀ j, m - L ≤ j → j < m → z (j % 12) = true) → (L : Int) ≤ (gapZ z m).2 := by
  induction L with
  | zero => intro m _ _; obtain ⟨E, a, -⟩ := e_true z m; rw [a]; omega
  | succ L ih =>
    intro m hm h
    cases m with
    | zero => omega
    | succ m =>
      have := ih m (by omega) (fun j a b => h j (by omega) (by omega))
      show ((L + 1 : Nat) : Int) ≤ (if z (m % 12) = true then (gapZ z m).2 + 1 else 0)
      rw [if_pos (h m (by omega) (by omega))]; omega
theorem g1_ge (z : Nat → Bool) : ∀ m i, i ≤ m → (gapZ z i).2 ≤ (gapZ z m).1 := by
  intro m
  induction m with
  | zero => intro i hi; rw [show i = 0 by omega]; exact Int.le_refl _
  | succ m ih =>
    intro i hi
    have e : (gapZ z (m + 1)).1 = max (gapZ z m).1 (gapZ z (m + 1)).2 := rfl
    by_cases e2 : i = m + 1
    · rw [e2, e]; omega
    · have := ih i (by omega); rw [e]; omega
theorem g1_le (z : Nat → Bool) {X : Int} (hX : 0 ≤ X) : ∀ m, (∀ i, i ≤ m → min (gapZ z i).2 12 ≤ X) → min (gapZ z m).1 12 ≤ X := by
  intro m
  induction m with
  | zero => intro _; show min (0 : Int) 12 ≤ X; omega
  | succ m ih =>
    intro h
    have e : (gapZ z (m + 1)).1 = max (gapZ z m).1 (gapZ z (m + 1)).2 := rfl
    have a := ih (fun i hi => h i (by omega))
    have b := h (m + 1) (Nat.le_refl _)
    rw [e]; omega
theorem gm_ge (z : Nat → Bool) : ∀ m p, p < m → (rlZ z p 12 0 : Int) ≤ gmZ z m := by
  intro m
  induction m with
  | zero => intro p hp; omega
  | succ m ih =>
    intro p hp
    show (rlZ z p 12 0 : Int) ≤ max (gmZ z m) (rlZ z m 12 0 : Int)
    by_cases e : p = m
    · rw [e]; omega
    · have := ih p (by omega); omega
theorem gm_le (z : Nat → Bool) {X : Int} (hX : 0 ≤ X) : ∀ m, (∀ p, p < m → (rlZ z p 12 0 : Int) ≤ X) → 0 ≤ gmZ z m ∧ gmZ z m ≤ X := by
  intro m
  induction m with
  | zero => intro _; exact ⟨Int.le_refl _, hX⟩
  | succ m ih =>
    intro h
    have a := ih (fun p hp => h p (by omega))
    have b := h m (by omega)
    show 0 ≤ max (gmZ z m) (rlZ z m 12 0 : Int) ∧ max (gmZ z m) (rlZ z m 12 0 : Int) ≤ X
    omega
theorem gap_eq (z : Nat → Bool) : min (gapZ z 24).1 12 = gmZ z 12 := by
  have h0 : 0 ≤ gmZ z 12 := (gm_le z (X := 12) (by decide) 12 (fun p _ => by have := (rl_true z p 12 0).2.1; omega)).1
  have h12 : gmZ z 12 ≤ 12 := (gm_le z (X := 12) (by decide) 12 (fun p _ => by have := (rl_true z p 12 0).2.1; omega)).2
  have hA : gmZ z 12 ≤ (gapZ z 24).1 := by
    have g0 : 0 ≤ (gapZ z 24).1 := g1_ge z 24 0 (by omega)
    refine (gm_le z g0 12 (fun p hp => ?_)).2
    obtain ⟨a, b, c⟩ := rl_true z p 12 0
    have := e_ge z (rlZ z p 12 0) (p + rlZ z p 12 0) (by omega) (fun j x y => by
      have := c (j - p) (by omega) (by omega)
      rw [show p + (j - p) = j by omega] at this
      exact this)
    exact Int.le_trans this (g1_ge z 24 _ (by omega))
  have hB : min (gapZ z 24).1 12 ≤ gmZ z 12 := by
    refine g1_le z h0 24 (fun i hi => ?_)
    obtain ⟨E, a, b, c⟩ := e_true z i
    rw [a]
    have := rl_ge z ((i - E) % 12) (min E 12) 12 0 (by omega) (fun j x y => by
      have := c (i - E + j) (by omega) (by omega)
      rw [show ((i - E) % 12 + j) % 12 = (i - E + j) % 12 by omega]
      exact this)
    have h2 := gm_ge z 12 ((i - E) % 12) (Nat.mod_lt _ (by decide))
    omega
  omega
theorem lkS_cg {b c : Nat → Bool} {V W : Nat → Int} : ∀ m, (∀ p, p < m → b p = c p ∧ V p = W p) → lkS b V m = lkS c W m := by
  intro m
  induction m with
  | zero => intro _; rfl
  | succ m ih => intro h; rw [lkS_s, lkS_s, (h m (by omega)).1, (h m (by omega)).2, ih (fun p a => h p (by omega))]
theorem couldB_cg {rc rv sc sv : Nat → Int} {k v : Int} : ∀ n, agn n rc sc → agn n rv sv → couldB rc rv k v n = couldB sc sv k v n := by
  intro n
  induction n with
  | zero => intro _ _; rfl
  | succ n ih => intro h g; rw [couldB_s, couldB_s, h n (by omega), g n (by omega), ih (fun i a => h i (by omega)) (fun i a => g i (by omega))]
theorem asR_cg {V rc rv sc sv : Nat → Int} {rn : Nat} (h : agn rn rc sc) (g : agn rn rv sv) : ∀ m, asR V rc rv rn m = asR V sc sv rn m := by
  intro m
  induction m with
  | zero => rfl
  | succ m ih => rw [asR_s, asR_s, ih, couldB_cg rn h g]
theorem perm_bd {jn : Nat} : ∀ ls : List (List Nat), chkL jn ls = true → ∀ l ∈ ls, ∀ s, s < jn → 0 ≤ fL l s ∧ fL l s < jn := by
  intro ls
  induction ls with
  | nil => intro _ l hl; exact absurd hl List.not_mem_nil
  | cons a r ih =>
    intro h l hl
    rcases List.mem_cons.mp hl with e | e
    · rw [e]; exact chk_bd h
    · exact ih (chk_nx h).1 l e
theorem filter_cg {α : Type} {p q : α → Bool} : ∀ l : List α, (∀ x ∈ l, p x = q x) → l.filter p = l.filter q ∧ l.find? p = l.find? q := by
  intro l
  induction l with
  | nil => intro _; exact ⟨rfl, rfl⟩
  | cons a r ih =>
    intro h
    have i := ih (fun x hx => h x (List.mem_cons_of_mem _ hx))
    rw [List.filter_cons, List.filter_cons, List.find?_cons, List.find?_cons, h a List.mem_cons_self, i.1, i.2]
    exact ⟨rfl, rfl⟩
/-- how many of w are v -/
theorem bit_cnt (w : Nat → Int) (v : Int) : ∀ m, m ≤ 8 → bitC (ptS w v m) = cntS w v m := by
  intro m
  induction m with
  | zero => intro _; show bitC 0 = 0; decide
  | succ m ih =>
    intro hm
    have i := ih (by omega)
    have e := ptS_N w v m (by omega)
    show bitC (if w m = v then zor (ptS w v m) (zshl 1 m) else ptS w v m) = if w m = v then cntS w v m + 1 else cntS w v m
    by_cases z : w m = v
    · rw [if_pos z, if_pos z]
      have o := or_pw m (by omega) (ptN w v m) (ptN_lo w v m)
      rw [e, o.1, o.2, ← e, i]
    · rw [if_neg z, if_neg z]; exact i
theorem cnt_add (w : Nat → Int) (f : Nat → Int) (k : Nat) : ∀ m, wsM w (fun v => oftS f v (k + 1)) m = wsM w (fun v => oftS f v k) m + cntS w (f (k + 1)) m := by
  intro m
  induction m with
  | zero => rfl
  | succ m ih =>
    show wsM w (fun v => oftS f v (k + 1)) m + (if f (k + 1) = w m then oftS f (w m) k + 1 else oftS f (w m) k) = wsM w (fun v => oftS f v k) m + oftS f (w m) k + (if w m = f (k + 1) then cntS w (f (k + 1)) m + 1 else cntS w (f (k + 1)) m)
    rw [ih]
    by_cases z : w m = f (k + 1)
    · rw [if_pos z.symm, if_pos z]; omega
    · rw [if_neg (fun y => z y.symm), if_neg z]; omega
theorem ws_eq (w f : Nat → Int) {jn : Nat} (hj : jn ≤ 8) : ∀ k, yWs w jn f k = wsM w (fun v => oftS f v k) jn := by
  intro k
  induction k with
  | zero =>
    have : ∀ m, wsM w (fun v => oftS f v 0) m = 0 := by
      intro m
      induction m with
      | zero => rfl
      | succ m ih => show wsM w (fun v => oftS f v 0) m + 0 = 0; rw [ih]; rfl
    rw [this]; rfl
  | succ k ih => rw [cnt_add, ← ih, ← bit_cnt w (f (k + 1)) jn hj]; rfl
theorem wsM_cg {w v : Nat → Int} {o : Int → Int} : ∀ m, agn m w v → wsM w o m = wsM v o m := by
  intro m
  induction m with
  | zero => intro _; rfl
  | succ m ih => intro h; show wsM w o m + o (w m) = wsM v o m + o (v m); rw [ih (fun i a => h i (by omega)), h m (by omega)]
section ZAO
variable {hc hm : zH} {t n jn old ac rn : Nat} {B : Int} {g k : zG}
theorem a_count (r : Rel hc hm t n jn old ac rn B) (x : Int) : cntV hc t n x = cntM hm n x := by
  have d := rel_dyn r
  have ct := r.1.1.2.1
  have cm := r.1.1.2.2.1.1
  obtain ⟨x1, x2, x3, x4, x5, x6⟩ := r.2.2.2
  have sv : survV hc n x = survM hm n x := by
    unfold survV survM
    have e1 : mostS (hc 33) n = mostS (hm 80) n := by unfold mostS; rw [mwS_congr d.1]
    have e2 : whereS (hc 33) n = whereS (hm 80) n := by unfold whereS; rw [mwS_congr d.1]
    have e3 : emZ (hc 33) n = emZ (hm 80) n := by funext q; unfold emZ; rw [cntS_congr n d.1]
    rw [e1, e2, oddS_congr n d.1, gapS_Z, gap_eq, e3]
  unfold cntV cntM
  rw [ct.2.2.2.1, ct.2.2.2.2.1, cm.2.2.1, cm.2.2.2, d.2.2.2.2.2.1, d.2.2.2.2.1, d.2.2.2.2.2.2, sv, x1.2.2.1, x2.1, x1.2.2.2.2.1, x2.2, r.2.1.1, (x6 0 (by decide)).1, (x6 1 (by decide)).1, (x6 2 (by decide)).1]
theorem a_orders (r : Rel hc hm t n jn old ac rn B) (v i : Int) : ordV hc t n jn v i = ordVM hm n jn v i := by
  unfold ordV ordVM
  by_cases h6 : 6 < jn
  · rw [if_pos h6, if_pos h6]
  · rw [if_neg h6, if_neg h6]
    have hb := perm_bd (jn := jn) (permL jn) (perm_ok jn (by omega)).1
    have e := filter_cg (p := ordB hc t n jn v) (q := BM hm n jn v) (permL jn) (fun l hl => by
      show decide (oneV n jn (gSe (gOf hc 32 t) (fL l)) (hc 32 6) (hc 33) = v) = decide (oneV n jn (gSe (gM hm) (fL l)) (hm 64 32) (hm 80) = v)
      rw [one_0 (g0_se (rel_g r) (agn_rfl jn (fL l))) (hb l hl) (rel_dyn r).1 (rel_dyn r).2.2.2.2.2.1])
    rw [e.1, e.2]
    by_cases hi : i = -1
    · rw [if_pos hi, if_pos hi]
    · rw [if_neg hi, if_neg hi]
      cases (permL jn).find? (BM hm n jn v) with
      | none => rfl
      | some l => rfl
theorem a_better (r : Rel hc hm t n jn old ac rn B) {x : Int} (hx : 0 ≤ x ∧ x < jn) : (if oneV n jn (gOf hc 32 t) (hc 32 6) (hc 33) = hc (t + 5) x.toNat then (-1 : Int) else fstB (fun v => decide ((v : Int) ≠ x ∧ oneV n jn (gSe (gOf hc 32 t) (swapP (hc 36) x (v : Int) jn)) (hc 32 6) (hc 33) = hc (t + 5) x.toNat)) 0 jn) = if oneV n jn (gM hm) (hm 64 32) (hm 80) = hm 74 x.toNat then -1 else fstB (fun v => decide ((v : Int) ≠ x ∧ oneV n jn (gSe (gM hm) (swapP (hm 81) x (v : Int) jn)) (hm 64 32) (hm 80) = hm 74 x.toNat)) 0 jn := by
  have d := rel_dyn r
  have ew : hc (t + 5) x.toNat = hm 74 x.toNat := r.1.2.2.1.2.2 x.toNat (by omega)
  have e1 : oneV n jn (gOf hc 32 t) (hc 32 6) (hc 33) = oneV n jn (gM hm) (hm 64 32) (hm 80) := a_one r
  have e2 : fstB (fun v => decide ((v : Int) ≠ x ∧ oneV n jn (gSe (gOf hc 32 t) (swapP (hc 36) x (v : Int) jn)) (hc 32 6) (hc 33) = hm 74 x.toNat)) 0 jn = fstB (fun v => decide ((v : Int) ≠ x ∧ oneV n jn (gSe (gM hm) (swapP (hm 81) x (v : Int) jn)) (hm 64 32) (hm 80) = hm 74 x.toNat)) 0 jn := fstB_cg jn 0 (fun i _ hi => by
    show decide ((i : Int) ≠ x ∧ oneV n jn (gSe (gOf hc 32 t) (swapP (hc 36) x (i : Int) jn)) (hc 32 6) (hc 33) = hm 74 x.toNat) = decide ((i : Int) ≠ x ∧ oneV n jn (gSe (gM hm) (swapP (hm 81) x (i : Int) jn)) (hm 64 32) (hm 80) = hm 74 x.toNat)
    rw [one_0 (g0_se (rel_g r) (swapP_congr (a := x) (b := (i : Int)) d.2.2.2.1)) (swapP_lo (rel_inv r).1.2.2.1.2.2.2.2.1 hx ⟨by omega, by omega⟩) d.1 d.2.2.2.2.2.1])
  rw [e1, ew, e2]
theorem a_game (r : Rel hc hm t n jn old ac rn B) {x y : Int} (hx : 0 ≤ x ∧ x < jn) (hy : 0 ≤ y ∧ y < jn) (w : Int) : gmV hc t n jn x y w = gmVM hm n jn x y w := by
  have e1 : hc (t + 5) x.toNat = hm 74 x.toNat := r.1.2.2.1.2.2 x.toNat (by omega)
  have e2 : hc (t + 5) y.toNat = hm 74 y.toNat := r.1.2.2.1.2.2 y.toNat (by omega)
  have e3 : gmB hc t n jn x y = gmBM hm n jn x y := by
    unfold gmB gmBM gmO gmOM
    rw [a_turn r, e1, e2]
  unfold gmV gmVM fF
  rw [e3]
theorem rel_rd (r : Rel hc hm t n jn old ac rn B) : rdM hm rn ∧ agn rn (hc 39) (hm 92) ∧ agn rn (hc 40) (hm 93) := by
  obtain ⟨x1, x2, x3, x4, x5, x6⟩ := r.2.2.2
  exact ⟨⟨x2.2, x1.2.2.2.2.2, fun i hi => (x5 i hi).2.1, fun i hi => (x5 i hi).2.2⟩, fun i hi => (x5 i hi).1.1, fun i hi => (x5 i hi).1.2⟩
theorem a_v (r : Rel hc hm t n jn old ac rn B) (hg : gag0 n jn g k) (hs : ∀ s, s < jn → 0 ≤ g.1 s ∧ g.1 s < jn) {m : Nat} (hm1 : 1 ≤ m) : vH hc n jn g m = vM hm n jn k m := by
  have d := rel_dyn r
  unfold vH vM
  rw [← d.2.2.2.2.2.1]
  exact ((runG_0 hg hs (ca := hc 32 6) (x := xOf hc 32) (y := (hm 80, 0, 0, fun _ => 0)) d.1 m).2 hm1).1
theorem a_isR (r : Rel hc hm t n jn old ac rn B) (hg : gag0 n jn g k) (hs : ∀ s, s < jn → 0 ≤ g.1 s ∧ g.1 s < jn) : isR hc n jn rn g = isRM hm n jn rn k := by
  unfold isR isRM
  rw [asR_congr 20 (fun m a _ => a_v r hg hs a), asR_cg (rel_rd r).2.1 (rel_rd r).2.2]
theorem g0_hand (r : Rel hc hm t n jn old ac rn B) (j : Nat) (v : Int) : gag0 n jn (handF hc t j v) (handM hm j v) := g0_ha (rel_g r) (agn_set (rel_dyn r).2.2.1)
theorem a_hd (r : Rel hc hm t n jn old ac rn B) {p : Nat} (hp : p < 13 * jn) : hdB hc t n jn rn p = hdM hm n jn rn p := by
  show (decide (hc 35 (p / 13) ≠ ((p % 13 : Nat) : Int)) && isR hc n jn rn (handF hc t (p / 13) ((p % 13 : Nat) : Int))) = (decide (hm 82 (p / 13) ≠ ((p % 13 : Nat) : Int)) && isRM hm n jn rn (handM hm (p / 13) ((p % 13 : Nat) : Int)))
  rw [(rel_dyn r).2.2.1 (p / 13) (by omega), a_isR r (g0_hand r _ _) (rel_hs r)]
theorem a_handed (r : Rel hc hm t n jn old ac rn B) (w : Int) : hdV hc t n jn rn w = hdVM hm n jn rn w := by
  unfold hdV hdVM
  rw [a_isR r (rel_g r) (rel_hs r), cntB_cg (13 * jn) (fun i hi => a_hd r hi), fstB_cg (13 * jn) 0 (fun i _ hi => a_hd r (by omega))]
theorem a_lkU (r : Rel hc hm t n jn old ac rn B) : lkU hc t n jn rn = lkUM hm n jn rn := by
  funext k
  unfold lkU lkUM
  rw [lkS_cg (b := hdB hc t n jn rn) (c := hdM hm n jn rn) (V := fun p => fsV hc t n jn p k) (W := fun p => fsM hm n jn p k) (13 * jn) (fun p hp => ⟨a_hd r hp, a_v r (g0_hand r _ _) (rel_hs r) (by omega)⟩)]
theorem a_look (r : Rel hc hm t n jn old ac rn B) (w : Int) : lkV hc t n jn rn w = lkVM hm n jn rn w := by
  unfold lkV lkVM; rw [a_lkU r]
theorem yr_0 {ca cb : Int} {y z : zY} (hg : gag0 n jn g k) (hs : ∀ s, s < jn → 0 ≤ g.1 s ∧ g.1 s < jn) (hca : ca = cb) (hy : yag n jn y z) : ∀ m, yag n jn (yrS n jn g ca y m).1 (yrS n jn k cb z m).1 ∧ (yrS n jn g ca y m).2 = (yrS n jn k cb z m).2 := by
  subst hca
  intro m
  induction m with
  | zero => exact ⟨hy, rfl⟩
  | succ m ih =>
    have b := befS_congr ih.1
    have g1 : gag0 n jn (gY g (befS n jn (yrS n jn g ca y m).1)) (gY k (befS n jn (yrS n jn k ca z m).1)) := by
      unfold gY
      rw [b.2.2.2]
      exact g0_po _ (g0_ha hg b.2.2.1)
    have hs1 : ∀ s, s < jn → 0 ≤ (gY g (befS n jn (yrS n jn g ca y m).1)).1 s ∧ (gY g (befS n jn (yrS n jn g ca y m).1)).1 s < jn := hs
    exact ⟨⟨b.1, (runG_0 g1 hs1 (ca := ca + m) (x := ((befS n jn (yrS n jn g ca y m).1).2.1, 0, 0, fun _ => 0)) (y := ((befS n jn (yrS n jn k ca z m).1).2.1, 0, 0, fun _ => 0)) b.2.1 1).1, b.2.2⟩, one_0 g1 hs1 b.2.1 rfl⟩
theorem a_yV (r : Rel hc hm t n jn old ac rn B) (sd : Int) : yV hc t n jn sd = yVM hm n jn sd := by
  have d := rel_dyn r
  funext m
  exact (yr_0 (y := (sd, hc 33, hc 35, hc 32 5)) (z := (sd, hm 80, hm 82, hm 64 33)) (rel_g r) (rel_hs r) d.2.2.2.2.2.1 ⟨rfl, d.1, d.2.2.1, d.2.2.2.2.1⟩ m).2
theorem a_years (r : Rel hc hm t n jn old ac rn B) (sd y w : Int) : yeV hc t n jn sd y w = yeVM hm n jn sd y w := by
  unfold yeV yeVM
  rw [a_yV r, ws_eq _ _ (rel_n r).2, wsM_cg jn r.1.2.2.1.2.2]
theorem a_stir (r : Rel hc hm t n jn old ac rn B) {x y : Nat} (hx : x < jn) (hy : y < n) (z : Int) : stirS (hc 33 y) (pushS (hc 35 x) z) (hc (t + 2) y) = stirS (hm 80 y) (pushS (hm 82 x) z) (hm 70 y) := by
  rw [(rel_dyn r).1 y hy, (rel_dyn r).2.2.1 x hx, r.1.2.2.1.1 y hy]
theorem a_decisive (r : Rel hc hm t n jn old ac rn B) : decS (turnV hc t n jn) (oneV n jn (gOf hc 32 t) (hc 32 6) (hc 33)) jn = decS (turnM hm n jn) (oneM hm n jn) jn := by rw [a_turn r, a_one r]
end ZAO

