/-! ORDERS -/
def riF (f : Nat → Int) : Nat → Int
  | 0 => -1
  | k + 1 => if f (k + 1) < f k then riF f k else (k : Int)
theorem riF_s (f : Nat → Int) (k : Nat) : riF f (k + 1) = if f (k + 1) < f k then riF f k else (k : Int) := rfl
theorem riF_lo (f : Nat → Int) (k : Nat) : -1 ≤ riF f k ∧ riF f k < k := by
  induction k with
  | zero => simp [riF]
  | succ k ih => rw [riF_s]; split <;> omega
def nxF (f : Nat → Int) (r : Nat) : Nat → Nat
  | 0 => 0
  | k + 1 => if r < k + 1 ∧ f (k + 1) < f r then nxF f r k else k + 1
theorem nxF_s (f : Nat → Int) (r k : Nat) : nxF f r (k + 1) = if r < k + 1 ∧ f (k + 1) < f r then nxF f r k else k + 1 := rfl
theorem nxF_le (f : Nat → Int) (r k : Nat) : nxF f r k ≤ k := by
  induction k with
  | zero => exact Nat.le_refl _
  | succ k ih => rw [nxF_s]; split <;> omega
def swF (f : Nat → Int) (a b : Nat) : Nat → Int := fun i => if i = b then f a else if i = a then f b else f i
def rvF : Nat → (Nat → Int) → Nat → Nat → (Nat → Int)
  | 0, f, _, _ => f
  | k + 1, f, lo, hi => if lo < hi then rvF k (swF f lo hi) (lo + 1) (hi - 1) else f
theorem rvF_s (k : Nat) (f : Nat → Int) (lo hi : Nat) : rvF (k + 1) f lo hi = if lo < hi then rvF k (swF f lo hi) (lo + 1) (hi - 1) else f := rfl
def nextF (m : Nat) (f : Nat → Int) : Nat → Int := if riF f (m - 1) < 0 then f else rvF 8 (swF f (riF f (m - 1)).toNat (nxF f (riF f (m - 1)).toNat (m - 1))) ((riF f (m - 1)).toNat + 1) (m - 1)
theorem riF_congr {f g : Nat → Int} : ∀ k, agn (k + 1) f g → riF f k = riF g k := by
  intro k
  induction k with
  | zero => intro _; rfl
  | succ k ih => intro h; rw [riF_s, riF_s, ih (agn_le (by omega) h), h k (by omega), h (k + 1) (by omega)]
theorem nxF_congr {f g : Nat → Int} {r n : Nat} (hr : r < n) (h : agn n f g) : ∀ k, k < n → nxF f r k = nxF g r k := by
  intro k
  induction k with
  | zero => intro _; rfl
  | succ k ih => intro hk; rw [nxF_s, nxF_s, ih (by omega), h (k + 1) hk, h r hr]
theorem swF_congr {f g : Nat → Int} {a b n : Nat} (ha : a < n) (hb : b < n) (h : agn n f g) : agn n (swF f a b) (swF g a b) := fun i hi => by
  unfold swF; rw [h a ha, h b hb, h i hi]
theorem rvF_congr {n : Nat} : ∀ k (f g : Nat → Int) (lo hi : Nat), hi < n → agn n f g → agn n (rvF k f lo hi) (rvF k g lo hi) := by
  intro k
  induction k with
  | zero => intro f g lo hi _ h; exact h
  | succ k ih =>
    intro f g lo hi hh h
    rw [rvF_s, rvF_s]
    split
    · exact ih _ _ _ _ (by omega) (swF_congr (by omega) hh h)
    · exact h
theorem nextF_congr {n : Nat} {f g : Nat → Int} (h : agn n f g) : riF f (n - 1) = riF g (n - 1) ∧ agn n (nextF n f) (nextF n g) := by
  cases n with
  | zero => exact ⟨rfl, fun i hi => absurd hi (by omega)⟩
  | succ n =>
    have e := riF_congr (f := f) (g := g) n h
    refine ⟨e, ?_⟩
    unfold nextF
    rw [show n + 1 - 1 = n from rfl, e]
    have l := riF_lo g n
    split
    · exact h
    · rw [nxF_congr (r := (riF g n).toNat) (n := n + 1) (by omega) h n (by omega)]
      exact rvF_congr 8 _ _ _ _ (by omega) (swF_congr (by omega) (by have := nxF_le g (riF g n).toNat n; omega) h)
/-- the orders, as one seat is taken behind the other -/
def permR (jn : Nat) : Nat → List Nat → List (List Nat)
  | 0, pre => [pre]
  | k + 1, pre => (List.range jn).flatMap (fun j => if pre.elem j then [] else permR jn k (pre ++ [j]))
def permL (jn : Nat) : List (List Nat) := permR jn jn []
def fL (l : List Nat) : Nat → Int := fun i => ((l.getD i 0 : Nat) : Int)
def chkL (jn : Nat) : List (List Nat) → Bool
  | [] => true
  | a :: r => (List.range jn).all (fun s => decide (a.getD s 0 < jn)) && (match r with
    | [] => decide (riF (fL a) (jn - 1) < 0)
    | b :: _ => decide (0 ≤ riF (fL a) (jn - 1)) && (List.range jn).all (fun s => decide (nextF jn (fL a) s = fL b s))) && chkL jn r
def headL (jn : Nat) : Bool := match permL jn with
  | [] => false
  | a :: _ => (List.range jn).all (fun s => decide (fL a s = (s : Int)))
theorem perm_ok : ∀ jn, jn < 7 → chkL jn (permL jn) = true ∧ (permL jn).length ≤ 720 ∧ headL jn = true := by decide +kernel
def ordB (h : zH) (t n jn : Nat) (v : Int) : List Nat → Bool := fun l => decide (oneV n jn (gSe (gOf h 32 t) (fL l)) (h 32 6) (h 33) = v)
def ordV (h : zH) (t n jn : Nat) (v i : Int) : Int := if 6 < jn then -2 else if i = -1 then (((permL jn).filter (ordB h t n jn v)).length : Int) else match (permL jn).find? (ordB h t n jn v) with
  | some l => fL l i.toNat
  | none => -1
def cpF (f g : Nat → Int) (s : Nat) : Nat → Int := fun j => if j < s then g j else f j

theorem chk_bd {jn : Nat} {a : List Nat} {r : List (List Nat)} (h : chkL jn (a :: r) = true) : ∀ s, s < jn → 0 ≤ fL a s ∧ fL a s < jn := by
  unfold chkL at h
  simp only [Bool.and_eq_true, List.all_eq_true, List.mem_range, decide_eq_true_eq] at h
  intro s hs
  have := h.1.1 s hs
  unfold fL
  omega
theorem chk_nx {jn : Nat} {a : List Nat} {r : List (List Nat)} (h : chkL jn (a :: r) = true) : chkL jn r = true ∧ (if 0 ≤ riF (fL a) (jn - 1) then (1 : Int) else 0) = (if r = [] then 0 else 1) ∧ ∀ b q, r = b :: q → agn jn (nextF jn (fL a)) (fL b) := by
  unfold chkL at h
  rw [Bool.and_eq_true, Bool.and_eq_true] at h
  refine ⟨h.2, ?_, ?_⟩
  · cases r with
    | nil => have h2 := of_decide_eq_true h.1.2; rw [if_neg (by omega)]; rfl
    | cons b q => have h2 := h.1.2; simp only [Bool.and_eq_true, decide_eq_true_eq] at h2; rw [if_pos h2.1]; rfl
  · rintro b q rfl
    have h2 := h.1.2
    simp only [Bool.and_eq_true, List.all_eq_true, List.mem_range, decide_eq_true_eq] at h2
    exact fun s hs => h2.2 s hs
theorem nxF_self (f : Nat → Int) (r : Nat) : nxF f r r = r := by
  cases r with
  | zero => rfl
  | succ r => rw [nxF_s, if_neg (by omega)]
theorem zst_zst {h : zH} {c : Nat} {f g : Nat → Int} : zst (zst h c f) c g = zst h c g := by
  funext c2 i; unfold zst; by_cases e : c2 = c <;> simp [e]

set_option maxRecDepth 100000 in
theorem c5_startOrder {E : zE} {h : zH} (d k : Nat) : zCal E mX5_startOrder d k [zrv E 0] h (fun r h' => r = none ∧ (∀ c2 : Nat, c2 ≠ 60 → h' c2 = h c2) ∧ ∀ i : Nat, i < 8 → h' 60 i = (i : Int)) (fun _ _ => False) := by
  refine zCal_of (by decide) (Nat.le_of_ble_eq_true rfl) (fun a => ?_)
  show zV _ 0 0 [zrv E 0, .null] [] _
  refine zV_iconst dX5_startOrder_0 ?_
  refine zV_istore_n dX5_startOrder_1 rfl (Nat.le_of_ble_eq_true rfl) rfl ?_
  have L2 : ∀ (m : Nat) (s : Nat) (h1 : zH), (9 ≤ s + m) → (s ≤ 8) → (∀ c2 : Nat, c2 ≠ 60 → h1 c2 = h c2) → (∀ i : Nat, i < s → h1 60 i = (i : Int)) → zV (E, mX5_startOrder, d, k, (fun r h' => r = none ∧ (∀ c2 : Nat, c2 ≠ 60 → h' c2 = h c2) ∧ ∀ i : Nat, i < 8 → h' 60 i = (i : Int)), (fun _ _ => False), a) 0 2 [zrv E 0, ziv (s : Int)] [] h1 := by
    intro m
    induction m with
    | zero => intro s h1 hm_ hsn hag hz; exfalso; omega
    | succ m ih =>
      intro s h1 hm_ hsn hag hz
      refine zV_iload_n dX5_startOrder_2 rfl rfl ?_
      refine zV_aload_nr dX5_startOrder_3 rfl rfl ?_
      refine gf5_58 rfl (rfl) dX5_startOrder_4 ?_
      refine zV_teq (w := zrv E 60) rfl ?_
      refine zV_alen (t := 0) (N := 8) (rfl) dX5_startOrder_7 ?_
      refine zR_icmp_ge (tgt := 24) dX5_startOrder_8 (by decide) (by omega) (by omega) (fun h8 => ?_) (fun h8 => ?_)
      · exact zV_vreturn dX5_startOrder_24 rfl (Nat.zero_le _) ⟨rfl, hag, by rw [show (8 : Nat) = s by omega]; exact hz⟩
      · refine zV_aload_nr dX5_startOrder_11 rfl rfl ?_
        refine gf5_58 rfl (rfl) dX5_startOrder_12 ?_
        refine zV_teq (w := zrv E 60) rfl ?_
        refine zV_iload_n dX5_startOrder_15 rfl rfl ?_
        refine zV_iload_n dX5_startOrder_16 rfl rfl ?_
        refine zV_iastoreN (i := s) (N := 8) (rfl) (by omega) (by decide) dX5_startOrder_17 ?_
        refine zV_iinc dX5_startOrder_18 rfl (Nat.le_of_ble_eq_true rfl) rfl ?_
        refine zV_goto (tgt := 2) dX5_startOrder_21 (by decide) ?_
        exact ih (s + 1) _ (by omega) (by omega) (fun c2 a => by rw [zup_fn a]; exact hag c2 a) (fun i hi => if e : i = s then (by rw [zup_at, if_pos e, e]) else (by rw [zup_at, if_neg e]; exact hz i (by omega)))
  exact L2 9 0 h (by omega) (by omega) (fun _ _ => rfl) (fun i hi => absurd hi (by omega))
set_option maxRecDepth 100000 in
theorem c5_swapInOrder {E : zE} {h : zH} {x y : Nat} (d k : Nat) (hx : x < 8) (hy : y < 8) : zCal E mX5_swapInOrder d k [zrv E 0, ziv (x : Int), ziv (y : Int)] h (fun r h' => r = none ∧ h' = zst h 60 (swF (h 60) x y)) (fun _ _ => False) := by
  refine zCal_of (by decide) (Nat.le_of_ble_eq_true rfl) (fun a => ?_)
  show zV _ 0 0 [zrv E 0, ziv (x : Int), ziv (y : Int), .null] [] _
  refine zV_aload_nr dX5_swapInOrder_0 rfl rfl ?_
  refine gf5_58 rfl (rfl) dX5_swapInOrder_1 ?_
  refine zV_teq (w := zrv E 60) rfl ?_
  refine zV_iload_n dX5_swapInOrder_4 rfl rfl ?_
  refine zV_ialoadN (i := x) (N := 8) (rfl) (by omega) (by decide) dX5_swapInOrder_5 ?_
  refine zV_istore_n dX5_swapInOrder_6 rfl (Nat.le_of_ble_eq_true rfl) rfl ?_
  refine zV_aload_nr dX5_swapInOrder_7 rfl rfl ?_
  refine gf5_58 rfl (rfl) dX5_swapInOrder_8 ?_
  refine zV_teq (w := zrv E 60) rfl ?_
  refine zV_iload_n dX5_swapInOrder_11 rfl rfl ?_
  refine zV_aload_nr dX5_swapInOrder_12 rfl rfl ?_
  refine gf5_58 rfl (rfl) dX5_swapInOrder_13 ?_
  refine zV_teq (w := zrv E 60) rfl ?_
  refine zV_iload_n dX5_swapInOrder_16 rfl rfl ?_
  refine zV_ialoadN (i := y) (N := 8) (rfl) (by omega) (by decide) dX5_swapInOrder_17 ?_
  refine zV_iastoreN (i := x) (N := 8) (rfl) (by omega) (by decide) dX5_swapInOrder_18 ?_
  refine zV_aload_nr dX5_swapInOrder_19 rfl rfl ?_
  refine gf5_58 rfl (rfl) dX5_swapInOrder_20 ?_
  refine zV_teq (w := zrv E 60) rfl ?_
  refine zV_iload_n dX5_swapInOrder_23 rfl rfl ?_
  refine zV_iload_n dX5_swapInOrder_24 rfl rfl ?_
  refine zV_iastoreN (i := y) (N := 8) (rfl) (by omega) (by decide) dX5_swapInOrder_25 ?_
  exact zV_vreturn dX5_swapInOrder_26 rfl (Nat.zero_le _) ⟨rfl, by
    funext c2 i
    unfold zup zst swF
    by_cases e : c2 = 60
    · subst e; simp
    · simp [e]⟩
set_option maxRecDepth 100000 in
theorem c5_verdictByOrder {E : zE} {h : zH} {t n jn : Nat} (d k : Nat) (hd : 5 ≤ d) (hi : tInv h t n jn) (hb : ∀ s, s < jn → 0 ≤ h 60 s ∧ h 60 s < jn) : zCal E mX5_verdictByOrder d k [zrv E 0] h (fun r h' => r = some (ziv (oneV n jn (gSe (gOf h 32 t) (h 60)) (h 32 6) (h 33))) ∧ qr h h' ∧ ∀ c2 : Nat, 59 ≤ c2 → c2 ≤ 63 → h' c2 = h c2) (fun _ _ => False) := by
  refine zCal_of (by decide) (Nat.le_of_ble_eq_true rfl) (fun a => ?_)
  show zV _ 0 0 [zrv E 0, .null] [] _
  have ht := hi.2.1.1
  have ht9 : t = 2 ∨ t = 16 := ht
  have hjn8 := hi.2.1.2.2.1
  refine zV_aload_nr dX5_verdictByOrder_0 rfl rfl ?_
  refine zV_callV (As := []) lk5_248 (rfl) rfl rfl (c5_startTrial (d - 1) 0 (by omega)) ⟨by show _ + 1 ≤ d; omega, by show _ ≤ k; omega⟩ rfl (Nat.le_of_ble_eq_true rfl) dX5_verdictByOrder_1 (fun _ _ z => z.elim) (fun r h5 q => ?_)
  have q8 := q.2
  obtain ⟨rfl, q⟩ := q
  have tr := tri_0 hi q
  have k0 : h5 0 3 = (t : Int) := by rw [tr.1 0 (by omega)]; exact hi.1
  have hj3 : h5 t 3 = (jn : Int) := (tri_ct hi.2.1 tr).2.2.2.2.1
  have e60 : h5 60 = h 60 := q8.1 60 (by decide) (by decide) (by decide) (by decide) (by decide)
  refine zV_iconst dX5_verdictByOrder_4 ?_
  refine zV_istore_n dX5_verdictByOrder_5 rfl (Nat.le_of_ble_eq_true rfl) rfl ?_
  have L6 : ∀ (m : Nat) (s : Nat), (jn + 1 ≤ s + m) → (s ≤ jn) → zV (E, mX5_verdictByOrder, d, k, (fun r h' => r = some (ziv (oneV n jn (gSe (gOf h 32 t) (h 60)) (h 32 6) (h 33))) ∧ qr h h' ∧ ∀ c2 : Nat, 59 ≤ c2 → c2 ≤ 63 → h' c2 = h c2), (fun _ _ => False), a) 0 6 [zrv E 0, ziv (s : Int)] [] (zst h5 57 (cpF (h5 57) (h 60) s)) := by
    intro m
    induction m with
    | zero => intro s hm_ hsn; exfalso; omega
    | succ m ih =>
      intro s hm_ hsn
      have k0 : (zst h5 57 (cpF (h5 57) (h 60) s)) 0 3 = (t : Int) := by rw [zst_ne (by omega)]; exact k0
      refine zV_iload_n dX5_verdictByOrder_6 rfl rfl ?_
      refine zV_aload_nr dX5_verdictByOrder_7 rfl rfl ?_
      refine gf5_20 (t := t) (k0) rfl (rfl) dX5_verdictByOrder_8 ?_
      refine gf5_109 rfl (court_0 ht) dX5_verdictByOrder_11 ?_
      rw [zst_ne (by omega), hj3]
      refine zR_icmp_ge (tgt := 38) dX5_verdictByOrder_14 (by decide) (by omega) (by omega) (fun h14 => ?_) (fun h14 => ?_)
      · have e : jn = s := by omega
        subst e
        have m9 := mod57 (f := cpF (h5 57) (h 60) jn) hi tr (fun s hs => by unfold cpF; rw [if_pos hs]; exact hb s hs)
        refine zV_aload_nr dX5_verdictByOrder_38 rfl rfl ?_
        refine zV_callV (As := []) lk5_264 (rfl) rfl rfl (c5_nextVerdict (d - 1) 0 (by omega) m9.1 m9.2.1 m9.2.2.2.2.1 m9.2.2.2.1) ⟨by show _ + 1 ≤ d; omega, by show _ ≤ k; omega⟩ rfl (Nat.le_of_ble_eq_true rfl) dX5_verdictByOrder_39 (fun _ _ z => z.elim) (fun r h' q => ?_)
        obtain ⟨rfl, q9⟩ := q
        have w9 := tri_one (p := h 33) (g := gSe (gOf h 32 t) (h 60)) hi m9.2.2.1 (by rw [zst_ne (by omega)]; exact tr.2.1) (m9.2.2.2.2.2.2 (h 60) (fun j hj => by unfold cpF; rw [if_pos hj])) m9.2.2.2.2.2.1 m9.2.2.2.2.1 m9.2.2.2.1 q9
        rw [w9.1]
        exact zV_ireturn dX5_verdictByOrder_42 rfl (Nat.zero_le _) ⟨rfl, w9.2, fun c2 x1 x2 => by rw [q9.1 c2 (by omega) (by omega) (by omega) (by omega) (by omega) (by omega), zst_ne (by omega), q8.1 c2 (by omega) (by omega) (by omega) (by omega) (by omega)]⟩
      · refine zV_aload_nr dX5_verdictByOrder_17 rfl rfl ?_
        refine gf5_51 rfl (rfl) dX5_verdictByOrder_18 ?_
        refine zV_teq (w := zrv E 53) rfl ?_
        refine gf5_194 rfl (rfl) dX5_verdictByOrder_21 ?_
        refine zV_teq (w := zrv E 57) rfl ?_
        refine zV_iload_n dX5_verdictByOrder_24 rfl rfl ?_
        refine zV_aload_nr dX5_verdictByOrder_25 rfl rfl ?_
        refine gf5_58 rfl (rfl) dX5_verdictByOrder_26 ?_
        refine zV_teq (w := zrv E 60) rfl ?_
        refine zV_iload_n dX5_verdictByOrder_29 rfl rfl ?_
        refine zV_ialoadN (i := s) (N := 8) (rfl) (by omega) (by decide) dX5_verdictByOrder_30 ?_
        refine zV_iastoreN (i := s) (N := 8) (rfl) (by omega) (by decide) dX5_verdictByOrder_31 ?_
        refine zV_iinc dX5_verdictByOrder_32 rfl (Nat.le_of_ble_eq_true rfl) rfl ?_
        refine zV_goto (tgt := 6) dX5_verdictByOrder_35 (by decide) ?_
        refine zV_heq (h' := zst h5 57 (cpF (h5 57) (h 60) (s + 1))) ?_ ?_
        · rw [zst_ne (by decide), e60, zup_zst]
          congr 1
          funext j
          unfold cpF
          by_cases e : j = s
          · subst e; rw [if_pos (by omega), if_pos rfl]
          · rw [if_neg e]
            by_cases e2 : j < s
            · rw [if_pos (by omega), if_pos e2]
            · rw [if_neg (by omega), if_neg e2]
        · exact ih (s + 1) (by omega) (by omega)
  refine zV_heq (h' := zst h5 57 (cpF (h5 57) (h 60) 0)) (by rw [show cpF (h5 57) (h 60) 0 = h5 57 from funext fun j => by unfold cpF; rw [if_neg (by omega)], zst_self]) ?_
  exact L6 (jn + 1) 0 (by omega) (by omega)
set_option maxRecDepth 100000 in
theorem c5_nextOrder {E : zE} {h : zH} {mm : Nat} (d k : Nat) (hd : 1 ≤ d) (hm : mm ≤ 8) (hb : ∀ s, s < mm → 0 ≤ h 60 s ∧ h 60 s < 8) : zCal E mX5_nextOrder d k [zrv E 0, ziv (mm : Int)] h (fun r h' => r = some (ziv (if 0 ≤ (riF (h 60) (mm - 1)) then 1 else 0)) ∧ h' = zst h 60 (nextF mm (h 60))) (fun _ _ => False) := by
  refine zCal_of (by decide) (Nat.le_of_ble_eq_true rfl) (fun a => ?_)
  show zV _ 0 0 [zrv E 0, ziv (mm : Int), .null, .null, .null, .null] [] _
  refine zV_iload_n dX5_nextOrder_0 rfl rfl ?_
  refine zV_iconst dX5_nextOrder_1 ?_
  refine zV_isub dX5_nextOrder_2 ?_
  refine zV_istore_n dX5_nextOrder_3 rfl (Nat.le_of_ble_eq_true rfl) rfl ?_
  have L4 : ∀ (m : Nat) (rI : Int), ((rI + 3).toNat < m) → (-2 ≤ rI ∧ rI + 2 ≤ mm) → (riF (h 60) (mm - 1) = riF (h 60) (rI + 1).toNat) → zV (E, mX5_nextOrder, d, k, (fun r h' => r = some (ziv (if 0 ≤ (riF (h 60) (mm - 1)) then 1 else 0)) ∧ h' = zst h 60 (nextF mm (h 60))), (fun _ _ => False), a) 0 4 [zrv E 0, ziv (mm : Int), ziv rI, .null, .null, .null] [] h := by
    intro m
    induction m with
    | zero => intro rI hm_ hlo hR; exfalso; omega
    | succ m ih =>
      intro rI hm_ hlo hR
      refine zV_iload_n dX5_nextOrder_4 rfl rfl ?_
      refine zR_if_lt (tgt := 31) dX5_nextOrder_5 (by decide) (by omega) (fun h5 => ?_) (fun h5 => ?_)
      · exact zV_iload_n dX5_nextOrder_31 rfl rfl (zR_if_ge (tgt := 37) dX5_nextOrder_32 (by decide) (by omega) (fun h32 => absurd h32 (by omega)) (fun h32 => zV_iconst dX5_nextOrder_35 (zV_zreturn dX5_nextOrder_36 rfl (Or.inl rfl) (Nat.zero_le _) ⟨by rw [if_neg (by rw [hR, show (rI + 1).toNat = 0 by omega]; show ¬ (0 : Int) ≤ -1; decide)], by unfold nextF; rw [if_pos (by rw [hR, show (rI + 1).toNat = 0 by omega]; show (-1 : Int) < 0; decide), zst_self]⟩)))
      · refine zV_aload_nr dX5_nextOrder_8 rfl rfl ?_
        refine gf5_58 rfl (rfl) dX5_nextOrder_9 ?_
        refine zV_teq (w := zrv E 60) rfl ?_
        refine zV_iload_n dX5_nextOrder_12 rfl rfl ?_
        refine zV_iaload (N := 8) (rfl) (by omega) (by decide) dX5_nextOrder_13 ?_
        refine zV_aload_nr dX5_nextOrder_14 rfl rfl ?_
        refine gf5_58 rfl (rfl) dX5_nextOrder_15 ?_
        refine zV_teq (w := zrv E 60) rfl ?_
        refine zV_iload_n dX5_nextOrder_18 rfl rfl ?_
        refine zV_iconst dX5_nextOrder_19 ?_
        refine zV_iadd dX5_nextOrder_20 ?_
        refine zV_iaload (N := 8) (rfl) (by omega) (by decide) dX5_nextOrder_21 ?_
        have b1 := hb rI.toNat (by omega)
        have b2 := hb (rI + 1).toNat (by omega)
        have er : (rI + 1).toNat = rI.toNat + 1 := by omega
        refine zR_icmp_le (tgt := 31) dX5_nextOrder_22 (by decide) (by omega) (by omega) (fun h22 => ?_) (fun h22 => ?_)
        · obtain ⟨r, hr⟩ : ∃ r : Nat, rI = (r : Int) := ⟨rI.toNat, by omega⟩
          subst hr
          have hR2 : riF (h 60) (mm - 1) = (r : Int) := by
            rw [hR, er, riF_s]
            rw [er] at h22
            rw [if_neg (by omega)]; omega
          refine zV_iload_n dX5_nextOrder_31 rfl rfl ?_
          refine zR_if_ge (tgt := 37) dX5_nextOrder_32 (by decide) (by omega) (fun h32 => ?_) (fun h32 => ?_)
          · have J67 : ∀ (nk : Nat), (nk = nxF (h 60) r (mm - 1)) → (nk < mm) → zV (E, mX5_nextOrder, d, k, (fun r h' => r = some (ziv (if 0 ≤ (riF (h 60) (mm - 1)) then 1 else 0)) ∧ h' = zst h 60 (nextF mm (h 60))), (fun _ _ => False), a) 0 67 [zrv E 0, ziv (mm : Int), ziv (r : Int), ziv (nk : Int), .null, .null] [] h := by
              intro nk hk hkm
              refine zV_aload_nr dX5_nextOrder_67 rfl rfl ?_
              refine zV_iload_n dX5_nextOrder_68 rfl rfl ?_
              refine zV_iload_n dX5_nextOrder_69 rfl rfl ?_
              refine zV_callV (As := [ziv (r : Int), ziv (nk : Int)]) lk5_296 (rfl) rfl rfl (c5_swapInOrder (x := r) (y := nk) (d - 1) 0 (by omega) (by omega)) ⟨by show _ + 1 ≤ d; omega, by show _ ≤ k; omega⟩ rfl (Nat.le_of_ble_eq_true rfl) dX5_nextOrder_70 (fun _ _ z => z.elim) (fun r h2 q => ?_)
              obtain ⟨rfl, hh⟩ := q
              rw [hh]
              refine zV_iload_n dX5_nextOrder_73 rfl rfl ?_
              refine zV_iconst dX5_nextOrder_74 ?_
              refine zV_iadd dX5_nextOrder_75 ?_
              refine zV_istore dX5_nextOrder_76 (Nat.le_of_ble_eq_true rfl) rfl ?_
              refine zV_iload_n dX5_nextOrder_78 rfl rfl ?_
              refine zV_iconst dX5_nextOrder_79 ?_
              refine zV_isub dX5_nextOrder_80 ?_
              refine zV_istore dX5_nextOrder_81 (Nat.le_of_ble_eq_true rfl) rfl ?_
              have L83 : ∀ (m3 : Nat) (lo hj j : Nat) (f : Nat → Int), (hj < m3) → (nextF mm (h 60) = rvF j f lo hj) → (hj < mm) → (hj ≤ lo + 2 * j) → (lo ≤ mm) → zV (E, mX5_nextOrder, d, k, (fun r h' => r = some (ziv (if 0 ≤ (riF (h 60) (mm - 1)) then 1 else 0)) ∧ h' = zst h 60 (nextF mm (h 60))), (fun _ _ => False), a) 0 83 [zrv E 0, ziv (mm : Int), ziv (r : Int), ziv (nk : Int), ziv (lo : Int), ziv (hj : Int)] [] (zst h 60 f) := by
                intro m3
                induction m3 with
                | zero => intro lo hj j f hm_ hf hj2 hfu hl3; exfalso; omega
                | succ m3 ih3 =>
                  intro lo hj j f hm_ hf hj2 hfu hl3
                  refine zV_iload dX5_nextOrder_83 rfl ?_
                  refine zV_iload dX5_nextOrder_85 rfl ?_
                  refine zR_icmp_ge (tgt := 107) dX5_nextOrder_87 (by decide) (by omega) (by omega) (fun h87 => ?_) (fun h87 => ?_)
                  · refine zV_iconst dX5_nextOrder_107 ?_
                    exact zV_zreturn dX5_nextOrder_108 rfl (Or.inr rfl) (Nat.zero_le _) ⟨by rw [hR2, if_pos (by omega)], by rw [hf]; cases j with
                      | zero => rfl
                      | succ j => rw [rvF_s, if_neg (by omega)]⟩
                  · refine zV_aload_nr dX5_nextOrder_90 rfl rfl ?_
                    refine zV_iload dX5_nextOrder_91 rfl ?_
                    refine zV_iload dX5_nextOrder_93 rfl ?_
                    refine zV_callV (As := [ziv (lo : Int), ziv (hj : Int)]) lk5_296 (rfl) rfl rfl (c5_swapInOrder (x := lo) (y := hj) (d - 1) 0 (by omega) (by omega)) ⟨by show _ + 1 ≤ d; omega, by show _ ≤ k; omega⟩ rfl (Nat.le_of_ble_eq_true rfl) dX5_nextOrder_95 (fun _ _ z => z.elim) (fun r h3 q => ?_)
                    obtain ⟨rfl, hh⟩ := q
                    rw [hh, zst_same, zst_zst]
                    refine zV_iinc dX5_nextOrder_98 rfl (Nat.le_of_ble_eq_true rfl) rfl ?_
                    refine zV_iinc dX5_nextOrder_101 rfl (Nat.le_of_ble_eq_true rfl) rfl ?_
                    refine zV_goto (tgt := 83) dX5_nextOrder_104 (by decide) ?_
                    refine zV_lveq (lv' := [zrv E 0, ziv (mm : Int), ziv (r : Int), ziv (nk : Int), ziv ((lo + 1 : Nat) : Int), ziv ((hj - 1 : Nat) : Int)]) (by rw [show ((hj - 1 : Nat) : Int) = (hj : Int) + -1 by omega]; rfl) ?_
                    exact ih3 (lo + 1) (hj - 1) (j - 1) _ (by omega) (by rw [hf]; obtain ⟨q9, rfl⟩ : ∃ z, j = z + 1 := ⟨j - 1, by omega⟩; rw [rvF_s, if_pos (by omega)]; rfl) (by omega) (by omega) (by omega)
              refine zV_lveq (lv' := [zrv E 0, ziv (mm : Int), ziv (r : Int), ziv (nk : Int), ziv ((r + 1 : Nat) : Int), ziv ((mm - 1 : Nat) : Int)]) (by rw [show ((mm - 1 : Nat) : Int) = (mm : Int) - 1 by omega]; rfl) ?_
              exact L83 mm (r + 1) (mm - 1) 8 _ (by omega) (by unfold nextF; rw [if_neg (by omega), hR2, show ((r : Int)).toNat = r from Int.toNat_natCast r, ← hk]) (by omega) (by omega) (by omega)
            refine zV_iload_n dX5_nextOrder_37 rfl rfl ?_
            refine zV_iconst dX5_nextOrder_38 ?_
            refine zV_isub dX5_nextOrder_39 ?_
            refine zV_istore_n dX5_nextOrder_40 rfl (Nat.le_of_ble_eq_true rfl) rfl ?_
            have L41 : ∀ (m2 : Nat) (nk : Nat), (nk < m2) → (nxF (h 60) r (mm - 1) = nxF (h 60) r nk) → (r ≤ nk ∧ nk + 1 ≤ mm) → zV (E, mX5_nextOrder, d, k, (fun r h' => r = some (ziv (if 0 ≤ (riF (h 60) (mm - 1)) then 1 else 0)) ∧ h' = zst h 60 (nextF mm (h 60))), (fun _ _ => False), a) 0 41 [zrv E 0, ziv (mm : Int), ziv (r : Int), ziv (nk : Int), .null, .null] [] h := by
              intro m2
              induction m2 with
              | zero => intro nk hm_ hnx hkr; exfalso; omega
              | succ m2 ih2 =>
                intro nk hm_ hnx hkr
                refine zV_iload_n dX5_nextOrder_41 rfl rfl ?_
                refine zV_iload_n dX5_nextOrder_42 rfl rfl ?_
                refine zR_icmp_le (tgt := 67) dX5_nextOrder_43 (by decide) (by omega) (by omega) (fun h43 => ?_) (fun h43 => ?_)
                · exact J67 nk (by rw [hnx, show nk = r by omega]; exact (nxF_self (h 60) r).symm) (by omega)
                · refine zV_aload_nr dX5_nextOrder_46 rfl rfl ?_
                  refine gf5_58 rfl (rfl) dX5_nextOrder_47 ?_
                  refine zV_teq (w := zrv E 60) rfl ?_
                  refine zV_iload_n dX5_nextOrder_50 rfl rfl ?_
                  refine zV_ialoadN (i := nk) (N := 8) (rfl) (by omega) (by decide) dX5_nextOrder_51 ?_
                  refine zV_aload_nr dX5_nextOrder_52 rfl rfl ?_
                  refine gf5_58 rfl (rfl) dX5_nextOrder_53 ?_
                  refine zV_teq (w := zrv E 60) rfl ?_
                  refine zV_iload_n dX5_nextOrder_56 rfl rfl ?_
                  refine zV_ialoadN (i := r) (N := 8) (rfl) (by omega) (by decide) dX5_nextOrder_57 ?_
                  have b1 := hb nk (by omega)
                  have b2 := hb r (by omega)
                  refine zR_icmp_ge (tgt := 67) dX5_nextOrder_58 (by decide) (by omega) (by omega) (fun h58 => ?_) (fun h58 => ?_)
                  · exact J67 nk (by rw [hnx]; obtain ⟨q9, rfl⟩ : ∃ z, nk = z + 1 := ⟨nk - 1, by omega⟩; rw [nxF_s, if_neg (by omega)]) (by omega)
                  · refine zV_iinc dX5_nextOrder_61 rfl (Nat.le_of_ble_eq_true rfl) rfl ?_
                    refine zV_goto (tgt := 41) dX5_nextOrder_64 (by decide) ?_
                    refine zV_lveq (lv' := [zrv E 0, ziv (mm : Int), ziv (r : Int), ziv ((nk - 1 : Nat) : Int), .null, .null]) (by rw [show ((nk - 1 : Nat) : Int) = (nk : Int) + -1 by omega]; rfl) ?_
                    exact ih2 (nk - 1) (by omega) (by rw [hnx]; obtain ⟨q9, rfl⟩ : ∃ z, nk = z + 1 := ⟨nk - 1, by omega⟩; rw [nxF_s, if_pos (by omega)]; rfl) (by omega)
            refine zV_lveq (lv' := [zrv E 0, ziv (mm : Int), ziv (r : Int), ziv ((mm - 1 : Nat) : Int), .null, .null]) (by rw [show ((mm - 1 : Nat) : Int) = (mm : Int) - 1 by omega]; rfl) ?_
            exact L41 mm (mm - 1) (by omega) rfl (by omega)
          · exact absurd h32 (by omega)
        · refine zV_iinc dX5_nextOrder_25 rfl (Nat.le_of_ble_eq_true rfl) rfl ?_
          refine zV_goto (tgt := 4) dX5_nextOrder_28 (by decide) ?_
          exact ih (rI + -1) (by omega) (by omega) (by rw [hR, er, riF_s, if_pos (by rw [← er]; omega), show (rI + -1 + 1).toNat = rI.toNat by omega])
  exact L4 ((mm : Int) - 2 + 3 + 1).toNat ((mm : Int) - 2) (by omega) (by omega) (by rw [show ((mm : Int) - 2 + 1).toNat = mm - 1 by omega])
set_option maxRecDepth 100000 in
theorem c5_orders {E : zE} {h : zH} {t n jn : Nat} {v i : Int} (hv : -2147483648 ≤ v ∧ v ≤ 2147483647) (hi : -2147483648 ≤ i ∧ i ≤ 2147483647) (hi : tInv h t n jn) : zCal E mX5_orders 12 4 [zrv E 0, ziv v, ziv i] h (fun r h' => ((0 ≤ v ∧ v < 5) ∧ (-1 ≤ i ∧ i < jn)) ∧ r = some (ziv (ordV h t n jn v i)) ∧ qry h h') (fun e h' => h' = h ∧ e = NSE ∧ ¬ ((0 ≤ v ∧ v < 5) ∧ (-1 ≤ i ∧ i < jn))) := by
  refine zCal_of (by decide) (Nat.le_of_ble_eq_true rfl) (fun a => ?_)
  show zV _ 0 0 [zrv E 0, ziv v, ziv i, .null, .null, .null] [] _
  have ht := hi.2.1.1
  have k0 := hi.1
  have hnum := hi.2.2.2.2
  have hn8 := hi.2.1.2.1
  have hjn8 := hi.2.1.2.2.1
  refine zV_iload_n dX5_orders_0 rfl rfl ?_
  refine zV_callS (As := [ziv v]) lk5_261 (c5_needVerdict (by omega)) ⟨Nat.le_of_ble_eq_true rfl, Nat.le_of_ble_eq_true rfl⟩ rfl (Nat.le_of_ble_eq_true rfl) dX5_orders_1 (fun e h2 z => ⟨z.2.1, z.1, fun w => z.2.2 w.1⟩) (fun r h' q => ?_)
  obtain ⟨rfl, hh, cv⟩ := q
  rw [hh]
  refine zV_iload_n dX5_orders_4 rfl rfl ?_
  refine zV_iconst dX5_orders_5 ?_
  refine zR_icmp_lt (tgt := 20) dX5_orders_6 (by decide) (by omega) (by omega) (fun h6 => ?_) (fun h6 => ?_)
  · exact zV_nse (i := 4) rfl rfl ⟨Nat.le_of_ble_eq_true rfl, Nat.le_of_ble_eq_true rfl⟩ dX5_orders_20 dX5_orders_23 dX5_orders_24 dX5_orders_26 dX5_orders_29 ⟨rfl, rfl, by omega⟩
  · refine zV_iload_n dX5_orders_9 rfl rfl ?_
    refine zV_aload_nr dX5_orders_10 rfl rfl ?_
    refine gf5_20 (t := t) (by first | exact k2 | exact k0) rfl (rfl) dX5_orders_11 ?_
    refine gf5_109 rfl (court_0 ht) dX5_orders_14 ?_
    rw [hi.2.1.2.2.2.2.1]
    refine zR_icmp_lt (tgt := 30) dX5_orders_17 (by decide) (by omega) (by omega) (fun h17 => ?_) (fun h17 => ?_)
    · refine zV_aload_nr dX5_orders_30 rfl rfl ?_
      refine gf5_20 (t := t) (by first | exact k2 | exact k0) rfl (rfl) dX5_orders_31 ?_
      refine gf5_109 rfl (court_0 ht) dX5_orders_34 ?_
      refine zV_bipush dX5_orders_37 (by decide) ?_
      rw [hi.2.1.2.2.2.2.1]
      refine zR_icmp_le (tgt := 45) dX5_orders_39 (by decide) (by omega) (by omega) (fun h39 => ?_) (fun h39 => ?_)
      · refine zV_aload_nr dX5_orders_45 rfl rfl ?_
        refine zV_callV (As := []) lk5_286 (rfl) rfl rfl (c5_startOrder 11 0) ⟨by show _ + 1 ≤ 12; omega, by show _ ≤ 4; omega⟩ rfl (Nat.le_of_ble_eq_true rfl) dX5_orders_46 (fun _ _ z => z.elim) (fun r h5 q => ?_)
        obtain ⟨rfl, e5, o5⟩ := q
        obtain ⟨pc1, pc2, pc3⟩ := perm_ok jn (by omega)
        refine zV_iconst dX5_orders_49 ?_
        refine zV_istore_n dX5_orders_50 rfl (Nat.le_of_ble_eq_true rfl) rfl ?_
        refine zV_iconst dX5_orders_51 ?_
        refine zV_istore dX5_orders_52 (Nat.le_of_ble_eq_true rfl) rfl ?_
        refine zV_iconst dX5_orders_54 ?_
        refine zV_istore dX5_orders_55 (Nat.le_of_ble_eq_true rfl) rfl ?_
        have L57 : ∀ (m : Nat) (ls : List (List Nat)) (s : Nat) (mo c : Int) (h1 : zH), (ls.length < m) → (s + ls.length ≤ 720) → (mo = if ls = [] then 0 else 1) → (chkL jn ls = true) → (∀ a r, ls = a :: r → agn jn (h1 60) (fL a)) → (i = -1 → (((permL jn).filter (ordB h t n jn v)).length : Int) = c + ((ls.filter (ordB h t n jn v)).length : Int)) → (i ≠ -1 → (permL jn).find? (ordB h t n jn v) = ls.find? (ordB h t n jn v)) → (qr h h1) → zV (E, mX5_orders, 12, 4, (fun r h' => ((0 ≤ v ∧ v < 5) ∧ (-1 ≤ i ∧ i < jn)) ∧ r = some (ziv (ordV h t n jn v i)) ∧ qry h h'), (fun e h' => h' = h ∧ e = NSE ∧ ¬ ((0 ≤ v ∧ v < 5) ∧ (-1 ≤ i ∧ i < jn))), a) 1 57 [zrv E 0, ziv v, ziv i, ziv c, ziv mo, ziv (s : Int)] [] h1 := by
          intro m
          induction m with
          | zero => intro ls s mo c h1 hm_ hsl hmo hck hhd hc hf hq; exfalso; exact absurd hm_ (by omega)
          | succ m ih =>
            intro ls s mo c h1 hm_ hsl hmo hck hhd hc hf hq
            obtain ⟨hi1, g1, g2, g3⟩ := qr_inv hi hq
            have k0 : h1 0 3 = (t : Int) := hi1.1
            refine zV_iload dX5_orders_57 rfl ?_
            refine zR_if_eq (tgt := 112) dX5_orders_59 (by decide) (by rw [hmo]; split <;> omega) (fun h59 => ?_) (fun h59 => ?_)
            · have hnil : ls = [] := Decidable.byContradiction fun z => by rw [hmo, if_neg z] at h59; exact absurd h59 (by decide)
              refine zV_iload_n dX5_orders_112 rfl rfl ?_
              refine zV_iconst dX5_orders_113 ?_
              refine zR_icmp_ne (tgt := 121) dX5_orders_114 (by decide) (by omega) (by omega) (fun h114 => ?_) (fun h114 => ?_)
              · refine zV_iconst dX5_orders_121 ?_
                exact zV_ireturn dX5_orders_122 rfl (Nat.le_of_ble_eq_true rfl) ⟨⟨cv, by omega⟩, by unfold ordV; rw [if_neg (by omega), if_neg h114, hf h114, hnil]; rfl, qr_qry hq⟩
              · refine zV_iload_n dX5_orders_117 rfl rfl ?_
                refine zV_goto (tgt := 122) dX5_orders_118 (by decide) ?_
                exact zV_ireturn dX5_orders_122 rfl (Nat.le_of_ble_eq_true rfl) ⟨⟨cv, by omega⟩, by unfold ordV; rw [if_neg (by omega), if_pos h114, hc h114, hnil]; simp, qr_qry hq⟩
            · obtain ⟨al, rest, hls⟩ : ∃ a r, ls = a :: r := by
                cases ls with
                | nil => rw [hmo, if_pos rfl] at h59; exact absurd rfl h59
                | cons a r => exact ⟨a, r, rfl⟩
              subst hls
              have hag := hhd al rest rfl
              have hbd := chk_bd hck
              have hslc : s + (rest.length + 1) ≤ 720 := hsl
              refine zV_iload dX5_orders_62 rfl ?_
              refine zV_sipush dX5_orders_64 (by decide) ?_
              refine zR_icmp_ge (tgt := 112) dX5_orders_67 (by decide) (by omega) (by omega) (fun h67 => ?_) (fun h67 => ?_)
              · exact absurd h67 (by omega)
              · refine zV_aload_nr dX5_orders_70 rfl rfl ?_
                refine zV_callV (As := []) lk5_289 (rfl) rfl rfl (c5_verdictByOrder 11 0 (by decide) hi1 (fun s hs => by rw [hag s hs]; exact hbd s hs)) ⟨by show _ + 1 ≤ 12; omega, by show _ ≤ 4; omega⟩ rfl (Nat.le_of_ble_eq_true rfl) dX5_orders_71 (fun _ _ z => z.elim) (fun r h2 q => ?_)
                obtain ⟨rfl, q2, q8⟩ := q
                have ev : oneV n jn (gSe (gOf h1 32 t) (h1 60)) (h1 32 6) (h1 33) = oneV n jn (gSe (gOf h 32 t) (fL al)) (h 32 6) (h 33) := by
                  rw [g1, g3, hq.1 33 (by omega)]
                  exact oneV_eq (x := (h 33, 0, 0, fun _ => 0)) ⟨hag, agn_rfl _ _, agn_rfl _ _, rfl, agn_rfl _ _, agn_rfl _ _, rfl⟩ (fun s hs => by show 0 ≤ h1 60 s ∧ h1 60 s < jn; rw [hag s hs]; exact hbd s hs) (agn_rfl _ _)
                rw [ev]
                have ol := oneV_lo n jn (gSe (gOf h 32 t) (fL al)) (h 32 6) (h 33)
                have hq2 := qr_trans hq q2
                have e60 : h2 60 = h1 60 := q8 60 (by omega) (by omega)
                have k2 : h2 0 3 = (t : Int) := by rw [hq2.1 0 (by omega)]; exact hi.1
                refine zV_iload_n dX5_orders_74 rfl rfl ?_
                refine zR_icmp_ne (tgt := 93) dX5_orders_75 (by decide) (by omega) (by omega) (fun h75 => ?_) (fun h75 => ?_)
                · refine zV_aload_nr dX5_orders_93 rfl rfl ?_
                  refine zV_aload_nr dX5_orders_94 rfl rfl ?_
                  refine gf5_20 (t := t) (by first | exact k2 | exact k0) rfl (rfl) dX5_orders_95 ?_
                  refine gf5_109 rfl (court_0 ht) dX5_orders_98 ?_
                  rw [show h2 t 3 = (jn : Int) by have ht9 : t = 2 ∨ t = 16 := ht; rw [hq2.1 t (by omega)]; exact hi.2.1.2.2.2.2.1]
                  refine zV_callV (As := [ziv (jn : Int)]) lk5_292 (rfl) rfl rfl (c5_nextOrder 11 0 (by decide) hjn8 (fun s hs => by rw [e60, hag s hs]; have := hbd s hs; omega)) ⟨by show _ + 1 ≤ 12; omega, by show _ ≤ 4; omega⟩ rfl (Nat.le_of_ble_eq_true rfl) dX5_orders_101 (fun _ _ z => z.elim) (fun r h3 q => ?_)
                  obtain ⟨rfl, hh⟩ := q
                  rw [hh, e60, (nextF_congr hag).1]
                  refine zV_istore dX5_orders_104 (Nat.le_of_ble_eq_true rfl) rfl ?_
                  refine zV_iinc dX5_orders_106 rfl (Nat.le_of_ble_eq_true rfl) rfl ?_
                  refine zV_goto (tgt := 57) dX5_orders_109 (by decide) ?_
                  have nx := chk_nx hck
                  rw [nx.2.1]
                  refine ih rest (s + 1) _ c _ (by simp only [List.length_cons] at hm_; omega) (by omega) rfl nx.1 (fun b q e => ?_) (fun z => ?_) (fun z => ?_) ?_
                  · rw [zst_same]; exact agn_trans (nextF_congr hag).2 (nx.2.2 b q e)
                  · rw [hc z, List.filter_cons_of_neg (by unfold ordB; exact fun w => h75 (of_decide_eq_true w))]
                  · rw [hf z, List.find?_cons_of_neg (by unfold ordB; exact fun w => h75 (of_decide_eq_true w))]
                  · exact qr_trans hq2 ⟨fun c2 hh9 => zst_ne (by omega), fun j j1 j2 => by rw [zst_ne (by decide)]; exact hq2.2 j j1 j2⟩
                · refine zV_iload_n dX5_orders_78 rfl rfl ?_
                  refine zV_iconst dX5_orders_79 ?_
                  refine zR_icmp_eq (tgt := 90) dX5_orders_80 (by decide) (by omega) (by omega) (fun h80 => ?_) (fun h80 => ?_)
                  · refine zV_iinc dX5_orders_90 rfl (Nat.le_of_ble_eq_true rfl) rfl ?_
                    refine zV_aload_nr dX5_orders_93 rfl rfl ?_
                    refine zV_aload_nr dX5_orders_94 rfl rfl ?_
                    refine gf5_20 (t := t) (by first | exact k2 | exact k0) rfl (rfl) dX5_orders_95 ?_
                    refine gf5_109 rfl (court_0 ht) dX5_orders_98 ?_
                    rw [show h2 t 3 = (jn : Int) by have ht9 : t = 2 ∨ t = 16 := ht; rw [hq2.1 t (by omega)]; exact hi.2.1.2.2.2.2.1]
                    refine zV_callV (As := [ziv (jn : Int)]) lk5_292 (rfl) rfl rfl (c5_nextOrder 11 0 (by decide) hjn8 (fun s hs => by rw [e60, hag s hs]; have := hbd s hs; omega)) ⟨by show _ + 1 ≤ 12; omega, by show _ ≤ 4; omega⟩ rfl (Nat.le_of_ble_eq_true rfl) dX5_orders_101 (fun _ _ z => z.elim) (fun r h3 q => ?_)
                    obtain ⟨rfl, hh⟩ := q
                    rw [hh, e60, (nextF_congr hag).1]
                    refine zV_istore dX5_orders_104 (Nat.le_of_ble_eq_true rfl) rfl ?_
                    refine zV_iinc dX5_orders_106 rfl (Nat.le_of_ble_eq_true rfl) rfl ?_
                    refine zV_goto (tgt := 57) dX5_orders_109 (by decide) ?_
                    have nx := chk_nx hck
                    rw [nx.2.1]
                    refine ih rest (s + 1) _ _ _ (by simp only [List.length_cons] at hm_; omega) (by omega) rfl nx.1 (fun b q e => ?_) (fun z => ?_) (fun z => ?_) ?_
                    · rw [zst_same]; exact agn_trans (nextF_congr hag).2 (nx.2.2 b q e)
                    · rw [hc z, List.filter_cons_of_pos (by unfold ordB; exact decide_eq_true h75), List.length_cons]; omega
                    · exact absurd h80 z
                    · exact qr_trans hq2 ⟨fun c2 hh9 => zst_ne (by omega), fun j j1 j2 => by rw [zst_ne (by decide)]; exact hq2.2 j j1 j2⟩
                  · refine zV_aload_nr dX5_orders_83 rfl rfl ?_
                    refine gf5_58 rfl (rfl) dX5_orders_84 ?_
                    refine zV_teq (w := zrv E 60) rfl ?_
                    refine zV_iload_n dX5_orders_87 rfl rfl ?_
                    refine zV_iaload (N := 8) (rfl) (by omega) (by decide) dX5_orders_88 ?_
                    exact zV_ireturn dX5_orders_89 rfl (Nat.le_of_ble_eq_true rfl) ⟨⟨cv, by omega⟩, by
                      unfold ordV
                      rw [if_neg (by omega), if_neg h80, hf h80, List.find?_cons_of_pos (by unfold ordB; exact decide_eq_true h75)]
                      dsimp only
                      rw [e60, hag i.toNat (by omega)], qr_qry hq2⟩
        have hq0 : qr h h5 := ⟨fun c2 hh => e5 c2 (by omega), fun j j1 j2 => by rw [e5 28 (by decide)]; exact hi.2.2.2.1 j j1 j2⟩
        obtain ⟨a0, r0, hpl⟩ : ∃ a r, permL jn = a :: r := by
          unfold headL at pc3
          cases hp : permL jn with
          | nil => rw [hp] at pc3; exact absurd pc3 Bool.false_ne_true
          | cons a r => exact ⟨a, r, rfl⟩
        exact L57 ((permL jn).length + 1) (permL jn) 0 1 0 h5 (by omega) (by omega) (by rw [hpl]; rfl) pc1 (fun a r e => by
          rw [hpl] at e; cases e
          unfold headL at pc3
          rw [hpl] at pc3
          simp only [List.all_eq_true, List.mem_range, decide_eq_true_eq] at pc3
          exact fun s hs => by rw [o5 s (by omega), pc3 s hs]) (fun _ => by omega) (fun _ => rfl) hq0
      · refine zV_bipush dX5_orders_42 (by decide) ?_
        exact zV_ireturn dX5_orders_44 rfl (Nat.le_of_ble_eq_true rfl) ⟨⟨cv, by omega⟩, by unfold ordV; rw [if_pos (by omega)], qr_qry (qr_rfl hi)⟩
    · exact zV_nse (i := 4) rfl rfl ⟨Nat.le_of_ble_eq_true rfl, Nat.le_of_ble_eq_true rfl⟩ dX5_orders_20 dX5_orders_23 dX5_orders_24 dX5_orders_26 dX5_orders_29 ⟨rfl, rfl, by omega⟩
