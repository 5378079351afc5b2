/-! CLASS AND REFERENCE: the answers -/
theorem fstB_cg {b c : Nat → Bool} : ∀ m s, (∀ i, s ≤ i → i < s + m → b i = c i) → fstB b s m = fstB c s m := by
  intro m
  induction m with
  | zero => intro s _; rfl
  | succ m ih => intro s h; show (if b s = true then (s : Int) else fstB b (s + 1) m) = (if c s = true then (s : Int) else fstB c (s + 1) m); rw [h s (by omega) (by omega), ih (s + 1) (fun i a d => h i (by omega) (by omega))]
theorem cntB_cg {b c : Nat → Bool} : ∀ m, (∀ i, i < m → b i = c i) → cntB b m = cntB c m := by
  intro m
  induction m with
  | zero => intro _; rfl
  | succ m ih => intro h; show (if b m = true then cntB b m + 1 else cntB b m) = (if c m = true then cntB c m + 1 else cntB c m); rw [h m (by omega), ih (fun i a => h i (by omega))]
theorem oftS_cg {f g : Nat → Int} {v : Int} : ∀ m, (∀ k, 1 ≤ k → k ≤ m → f k = g k) → oftS f v m = oftS g v m := by
  intro m
  induction m with
  | zero => intro _; rfl
  | succ m ih => intro h; show (if f (m + 1) = v then oftS f v m + 1 else oftS f v m) = (if g (m + 1) = v then oftS g v m + 1 else oftS g v m); rw [h (m + 1) (by omega) (by omega), ih (fun k a b => h k a (by omega))]
theorem cameS_cg {f g : Nat → Int} : ∀ m, (∀ k, 1 ≤ k → k ≤ m → f k = g k) → cameS f m = cameS g m := by
  intro m
  induction m with
  | zero => intro _; rfl
  | succ m ih => intro h; show zor (cameS f m) (zshl 1 (f (m + 1))) = zor (cameS g m) (zshl 1 (g (m + 1))); rw [h (m + 1) (by omega) (by omega), ih (fun k a b => h k a (by omega))]
theorem strS_cg {f g : Nat → Int} : ∀ m, (∀ k, 1 ≤ k → k ≤ m → f k = g k) → strS f m = strS g m := by
  intro m
  induction m with
  | zero => intro _; rfl
  | succ m ih =>
    intro h
    have e : (if m = 0 then -1 else f m) = if m = 0 then -1 else g m := by
      by_cases z : m = 0
      · rw [if_pos z, if_pos z]
      · rw [if_neg z, if_neg z, h m (by omega) (by omega)]
    unfold strS
    rw [e, h (m + 1) (by omega) (by omega), ih (fun k a b => h k a (by omega))]
theorem swpS_cg {p q : Nat → Nat → Int} {n : Nat} : ∀ m, (∀ k, k ≤ m → agn n (p k) (q k)) → swpS p n m = swpS q n m := by
  intro m
  induction m with
  | zero => intro h; exact bitsP_congr n (h 0 (Nat.le_refl _))
  | succ m ih => intro h; show zor (swpS p n m) (bitsP (p (m + 1)) n 0) = zor (swpS q n m) (bitsP (q (m + 1)) n 0); rw [ih (fun k a => h k (by omega)), bitsP_congr n (h (m + 1) (Nat.le_refl _))]
theorem sumS_cg {f g : Nat → Nat → Int} {j : Nat} : ∀ m, (∀ k, 1 ≤ k → k ≤ m → f k j = g k j) → sumS f j m = sumS g j m := by
  intro m
  induction m with
  | zero => intro _; rfl
  | succ m ih => intro h; show sumS f j m + f (m + 1) j = sumS g j m + g (m + 1) j; rw [h (m + 1) (by omega) (by omega), ih (fun k a b => h k a (by omega))]
theorem ptS_cg {f g : Nat → Int} {w : Int} : ∀ m, agn m f g → ptS f w m = ptS g w m := by
  intro m
  induction m with
  | zero => intro _; rfl
  | succ m ih => intro h; show (if f m = w then zor (ptS f w m) (zshl 1 m) else ptS f w m) = (if g m = w then zor (ptS g w m) (zshl 1 m) else ptS g w m); rw [h m (by omega), ih (fun i a => h i (by omega))]
theorem wtS_cg {p q w v : Nat → Int} {x : Int} : ∀ m, agn m p q → agn m w v → wtS p w x m = wtS q v x m := by
  intro m
  induction m with
  | zero => intro _ _; rfl
  | succ m ih => intro h h2; show (if p m = x then wtS p w x m + w m else wtS p w x m) = (if q m = x then wtS q v x m + v m else wtS q v x m); rw [h m (by omega), h2 m (by omega), ih (fun i a => h i (by omega)) (fun i a => h2 i (by omega))]
theorem likeB_cg2 {p q r : Nat → Int} : ∀ n, agn n q r → likeB p q n = likeB p r n := by
  intro n
  induction n with
  | zero => intro _; rfl
  | succ n ih => intro h; rw [likeB_s, likeB_s, ih (fun i a => h i (by omega)), h n (by omega)]
section ZAN
variable {hc hm : zH} {t n jn old ac rn : Nat} {B : Int} {g k : zG}
theorem g0_ha {f f2 : Nat → Int} (h : gag0 n jn g k) (e : agn jn f f2) : gag0 n jn (gHa g f) (gHa k f2) := ⟨h.1, e, h.2.2⟩
theorem g0_th {f f2 : Nat → Int} (h : gag0 n jn g k) (e : agn jn f f2) : gag0 n jn (gTh g f) (gTh k f2) := ⟨h.1, h.2.1, e, h.2.2.2⟩
theorem g0_se {f f2 : Nat → Int} (h : gag0 n jn g k) (e : agn jn f f2) : gag0 n jn (gSe g f) (gSe k f2) := ⟨e, h.2⟩
theorem g0_po (v : Int) (h : gag0 n jn g k) : gag0 n jn (gPo g v) (gPo k v) := ⟨h.1, h.2.1, h.2.2.1, rfl, h.2.2.2.2⟩
theorem one_0 {p q : Nat → Int} {ca cb : Int} (hg : gag0 n jn g k) (hs : ∀ s, s < jn → 0 ≤ g.1 s ∧ g.1 s < jn) (hp : agn n p q) (hca : ca = cb) : oneV n jn g ca p = oneV n jn k cb q := by
  subst hca
  exact ((runG_0 hg hs (ca := ca) (x := (p, 0, 0, fun _ => 0)) (y := (q, 0, 0, fun _ => 0)) hp 1).2 (by omega)).1
theorem rel_hs (r : Rel hc hm t n jn old ac rn B) : ∀ s, s < jn → 0 ≤ (gOf hc 32 t).1 s ∧ (gOf hc 32 t).1 s < jn := (rel_inv r).1.2.2.1.2.2.2.2.1
theorem a_lat (r : Rel hc hm t n jn old ac rn B) {k : Nat} (hk : 1 ≤ k) : latN hc t n jn k = LT hm n jn k := ((rel_run r k).2 hk).1
theorem a_verdict (r : Rel hc hm t n jn old ac rn B) {w : Int} {k : Nat} (hk : 1 ≤ k) : (if w = 0 then (nowR hc t n jn k).2.1 else (nowR hc t n jn k).2.2.1) = if w = 0 then (RM hm n jn k).2.1 else (RM hm n jn k).2.2.1 := by
  rw [((rel_run r k).2 hk).1, ((rel_run r k).2 hk).2.1]
theorem a_lies (r : Rel hc hm t n jn old ac rn B) {x k : Nat} (hx : x < n) : (nowR hc t n jn k).1 x = (RM hm n jn k).1 x := (rel_run r k).1 x hx
theorem a_often (r : Rel hc hm t n jn old ac rn B) (v : Int) (m : Nat) : oftS (latN hc t n jn) v m = oftS (LT hm n jn) v m := oftS_cg m (fun k a _ => a_lat r a)
theorem a_first (r : Rel hc hm t n jn old ac rn B) (x : Int) : fstB (fun k => decide (latN hc t n jn k = x)) 1 60 = fstB (fun k => decide (LT hm n jn k = x)) 1 60 := fstB_cg 60 1 (fun i a _ => by show decide (latN hc t n jn i = x) = decide (LT hm n jn i = x); rw [a_lat r a])
theorem a_round (r : Rel hc hm t n jn old ac rn B) : fstB (fun k => likeB (nowR hc t n jn k).1 (hc 33) n) 1 60 = fstB (fun k => likeB (RM hm n jn k).1 (hm 80) n) 1 60 := fstB_cg 60 1 (fun i a _ => by show likeB (nowR hc t n jn i).1 (hc 33) n = likeB (RM hm n jn i).1 (hm 80) n; rw [likeB_congr n (rel_run r i).1, likeB_cg2 n (rel_dyn r).1])
theorem a_pleased (r : Rel hc hm t n jn old ac rn B) (m : Nat) : argS (fun j => oftS (latN hc t n jn) (hc (t + 5) j) m) jn = argS (fun j => oftS (LT hm n jn) (hm 74 j) m) jn := argS_congr jn (fun j hj => by show oftS (latN hc t n jn) (hc (t + 5) j) m = oftS (LT hm n jn) (hm 74 j) m; rw [r.1.2.2.1.2.2 j hj]; exact a_often r _ m)
theorem a_swept (r : Rel hc hm t n jn old ac rn B) (m : Nat) : swpS (fun k => (nowR hc t n jn k).1) n m = swpS (fun k => (RM hm n jn k).1) n m := swpS_cg m (fun k _ => (rel_run r k).1)
theorem a_streak (r : Rel hc hm t n jn old ac rn B) (m : Nat) : strS (latN hc t n jn) m = strS (LT hm n jn) m := strS_cg m (fun k a _ => a_lat r a)
theorem a_come (r : Rel hc hm t n jn old ac rn B) (m : Nat) : cameS (latN hc t n jn) m = cameS (LT hm n jn) m := cameS_cg m (fun k a _ => a_lat r a)
theorem a_drunk (r : Rel hc hm t n jn old ac rn B) {x k : Nat} (hx : x < jn) (hk : 1 ≤ k) : (nowR hc t n jn k).2.2.2 x = (RM hm n jn k).2.2.2 x := ((rel_run r k).2 hk).2.2 x hx
theorem a_thirstiest (r : Rel hc hm t n jn old ac rn B) (m : Nat) : argS (fun j => sumS (fun k => (nowR hc t n jn k).2.2.2) j m) jn = argS (fun j => sumS (fun k => (RM hm n jn k).2.2.2) j m) jn := argS_congr jn (fun j hj => sumS_cg m (fun k a _ => a_drunk r hj a))
theorem a_weight (r : Rel hc hm t n jn old ac rn B) (x : Int) : wtS (hc 33) (hc (t + 2)) x n = wtS (hm 80) (hm 70) x n := wtS_cg n (rel_dyn r).1 r.1.2.2.1.1
theorem a_turn (r : Rel hc hm t n jn old ac rn B) : turnV hc t n jn = turnM hm n jn := by
  funext b
  exact one_0 (g0_ha (rel_g r) (turnP_congr (rel_dyn r).2.2.1)) (rel_hs r) (rel_dyn r).1 (rel_dyn r).2.2.2.2.2.1
theorem a_one (r : Rel hc hm t n jn old ac rn B) : oneV n jn (gOf hc 32 t) (hc 32 6) (hc 33) = oneM hm n jn := one_0 (rel_g r) (rel_hs r) (rel_dyn r).1 (rel_dyn r).2.2.2.2.2.1
theorem a_toDrink (r : Rel hc hm t n jn old ac rn B) (x : Nat) (y : Int) : fstB (fun v => decide (oneV n jn (gTh (gOf hc 32 t) (setF (hc 34) x (v : Int))) (hc 32 6) (hc 33) = y)) 0 31 = fstB (fun v => decide (oneV n jn (gTh (gM hm) (setF (hm 78) x (v : Int))) (hm 64 32) (hm 80) = y)) 0 31 :=
  fstB_cg 31 0 (fun i _ _ => by rw [one_0 (g0_th (rel_g r) (agn_set (rel_dyn r).2.1)) (rel_hs r) (rel_dyn r).1 (rel_dyn r).2.2.2.2.2.1])
theorem a_toPour (r : Rel hc hm t n jn old ac rn B) (y : Int) : fstB (fun v => decide (oneV n jn (gPo (gOf hc 32 t) (v : Int)) (hc 32 6) (hc 33) = y)) 0 100 = fstB (fun v => decide (oneV n jn (gPo (gM hm) (v : Int)) (hm 64 32) (hm 80) = y)) 0 100 :=
  fstB_cg 100 0 (fun i _ _ => by rw [one_0 (g0_po (i : Int) (rel_g r)) (rel_hs r) (rel_dyn r).1 (rel_dyn r).2.2.2.2.2.1])
theorem a_toLay (r : Rel hc hm t n jn old ac rn B) (x : Nat) (y : Int) : fstB (fun v => decide (oneV n jn (gOf hc 32 t) (hc 32 6) (setF (hc 33) x (v : Int)) = y)) 0 12 = fstB (fun v => decide (oneV n jn (gM hm) (hm 64 32) (setF (hm 80) x (v : Int)) = y)) 0 12 :=
  fstB_cg 12 0 (fun i _ _ => by rw [one_0 (rel_g r) (rel_hs r) (agn_set (rel_dyn r).1) (rel_dyn r).2.2.2.2.2.1])
theorem a_leaf (r : Rel hc hm t n jn old ac rn B) {x : Nat} (hx : x < n) (w : Int) : (if w = 0 then hc 33 x else hc (t + 2) x) = if w = 0 then hm 80 x else hm 70 x := by rw [(rel_dyn r).1 x hx, r.1.2.2.1.1 x hx]
theorem a_seat (r : Rel hc hm t n jn old ac rn B) {x : Nat} (hx : x < jn) : hc 36 x = hm 81 x := (rel_dyn r).2.2.2.1 x hx
theorem a_heap (r : Rel hc hm t n jn old ac rn B) (x : Int) : ptS (hc 33) x n = (ptN (hm 80) x n : Int) := by rw [ptS_cg n (rel_dyn r).1, ptS_N _ _ n (rel_n r).1]
theorem a_judge (r : Rel hc hm t n jn old ac rn B) {x : Int} (hx : 0 ≤ x ∧ x < jn) (w : Int) : judV hc t jn x w = judM hm jn x w := by
  have hj : x.toNat < jn := by omega
  have d := rel_dyn r
  have e5 : ptS (hc (t + 5)) (hc (t + 5) x.toNat) jn = (ptN (hm 74) (hm 74 x.toNat) jn : Int) := by rw [r.1.2.2.1.2.2 x.toNat hj, ptS_cg jn r.1.2.2.1.2.2, ptS_N _ _ jn (rel_n r).2]
  have e4 : (if hc (t + 6) x.toNat = 0 then (0 : Int) else 1) = hm 71 x.toNat := by
    rw [r.1.2.2.1.2.1 x.toNat hj]
    rcases r.1.1.2.2.1.2.2.1 x.toNat hj with z | z <;> rw [z] <;> rfl
  unfold judV judM
  rw [(r.1.2.2.2.2 x.toNat hj).1.2, d.2.2.1 x.toNat hj, r.1.2.2.1.2.2 x.toNat hj, seatS_congr jn 0 (fun i _ hi => d.2.2.2.1 i (by omega)), e4, ← e5, r.1.2.2.1.2.2 x.toNat hj]
end ZAN

