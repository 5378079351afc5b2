/-! THE REFERENCE: orders -/
def BM (h : zH) (n jn : Nat) (v : Int) : List Nat → Bool := fun l => decide (oneV n jn (gSe (gM h) (fL l)) (h 64 32) (h 80) = v)
def ordI (h : zH) (n jn : Nat) (v : Int) (L : List (List Nat)) (h2 : zH) : Prop := h2 64 48 = ((L.filter (BM h n jn v)).length : Int) ∧ match L.find? (BM h n jn v) with
  | none => h2 64 49 = 0
  | some l => h2 64 49 = 1 ∧ ∀ i, i < jn → h2 90 i = fL l i
def sfI (h : zH) (n jn : Nat) (v : Int) (g : Nat → Int) (pre : List Nat) (L : List (List Nat)) (h2 : zH) : Prop := mq h (zst h2 81 (h 81)) ∧ h2 64 4 = 0 ∧ (∀ i, i < pre.length → h2 81 i = fL pre i) ∧ ordI h n jn v L h2 ∧ h2 91 = g
def mskP (u : Nat) (pre : List Nat) : Prop := u < 64 ∧ ∀ i : Nat, i < 6 → (zand (zshr (u : Int) (i : Int)) 1 = 1 ↔ pre.elem i = true)
theorem msk_or : ∀ u : Nat, u < 64 → ∀ j : Nat, j < 6 → zor (u : Int) (zshl 1 (j : Int)) = ((u ||| 2 ^ j : Nat) : Int) ∧ u ||| 2 ^ j < 64 ∧ ∀ i : Nat, i < 6 → (zand (zshr ((u ||| 2 ^ j : Nat) : Int) (i : Int)) 1 = 1 ↔ (zand (zshr (u : Int) (i : Int)) 1 = 1 ∨ i = j)) := by decide +kernel
theorem msk_s {u j : Nat} {pre : List Nat} (h : mskP u pre) (hj : j < 6) : mskP (u ||| 2 ^ j) (pre ++ [j]) := by
  obtain ⟨h1, h2⟩ := h
  obtain ⟨a, b, c⟩ := msk_or u h1 j hj
  refine ⟨b, fun i hi => ?_⟩
  rw [c i hi, h2 i hi]
  simp
theorem fL_app {pre : List Nat} {j i : Nat} (hi : i < pre.length) : fL (pre ++ [j]) i = fL pre i := by
  unfold fL
  rw [List.getD_eq_getElem?_getD, List.getD_eq_getElem?_getD, List.getElem?_append_left hi]
theorem fL_last (pre : List Nat) (j : Nat) : fL (pre ++ [j]) pre.length = (j : Int) := by
  unfold fL
  rw [List.getD_eq_getElem?_getD, List.getElem?_append_right (Nat.le_refl _), Nat.sub_self]
  rfl
theorem fL_lt {pre : List Nat} {jn : Nat} (h : ∀ x ∈ pre, x < jn) {i : Nat} (hi : i < pre.length) : 0 ≤ fL pre i ∧ fL pre i < jn := by
  unfold fL
  have := h (pre.getD i 0) (by rw [List.getD_eq_getElem?_getD, List.getElem?_eq_getElem hi]; exact List.getElem_mem hi)
  omega
theorem ordI_n {h h2 h3 : zH} {n jn : Nat} {v : Int} {L : List (List Nat)} {p : List Nat} (hI : ordI h n jn v L h2) (hb : BM h n jn v p = false) (e48 : h3 64 48 = h2 64 48) (e49 : h3 64 49 = h2 64 49) (e90 : h3 90 = h2 90) : ordI h n jn v (L ++ [p]) h3 := by
  unfold ordI at *
  rw [List.filter_append, List.find?_append, e48, e49, e90]
  simp only [List.filter_cons, hb, List.find?_cons, List.filter_nil, List.find?_nil, List.append_nil, Option.or_none, Bool.false_eq_true, if_false]
  exact hI
theorem ordI_y {h h2 h3 : zH} {n jn : Nat} {v : Int} {L : List (List Nat)} {p : List Nat} (hI : ordI h n jn v L h2) (hb : BM h n jn v p = true) (e48 : h3 64 48 = h2 64 48 + 1) (e49 : h3 64 49 = 1) (e90 : if h2 64 49 = 0 then (∀ i, i < jn → h3 90 i = fL p i) else ∀ i, i < jn → h3 90 i = h2 90 i) : ordI h n jn v (L ++ [p]) h3 := by
  unfold ordI at *
  rw [List.filter_append, List.find?_append, e48, e49]
  have e1 : List.filter (BM h n jn v) [p] = [p] := by simp [List.filter_cons, hb]
  have e2 : List.find? (BM h n jn v) [p] = some p := by simp [List.find?_cons, hb]
  rw [e1, e2, List.length_append]
  refine ⟨by rw [hI.1]; simp, ?_⟩
  have h2' := hI.2
  cases e : L.find? (BM h n jn v) with
  | none =>
    rw [e] at h2'
    rw [if_pos h2'] at e90
    exact ⟨rfl, e90⟩
  | some l =>
    rw [e] at h2'
    rw [if_neg (by rw [h2'.1]; decide)] at e90
    exact ⟨rfl, fun i hi => (e90 i hi).trans (h2'.2 i hi)⟩
theorem sf_in {hb h : zH} {n jn : Nat} {v : Int} {g : Nat → Int} {pre : List Nat} {L : List (List Nat)} (hm : mInv hb n jn) (hp : pre.length = jn) (hx : ∀ x ∈ pre, x < jn) (hI : sfI hb n jn v g pre L h) : mInv h n jn ∧ oneM h n jn = oneV n jn (gSe (gM hb) (fL pre)) (hb 64 32) (hb 80) := by
  obtain ⟨i3, o3⟩ := put81_in hm hI.1 (fun _ _ => rfl) (agn_rfl 8 (h 81)) (fun j hj => by rw [hI.2.2.1 j (by omega)]; exact fL_lt hx (by omega))
  refine ⟨i3, o3.trans ?_⟩
  refine oneV_eq (x := (hb 80, 0, 0, fun _ => 0)) ?_ (fun s hs => i3.2.1.2.2.2.1 s hs) (agn_rfl _ _)
  exact ⟨fun j hj => hI.2.2.1 j (by omega), agn_rfl _ _, agn_rfl _ _, rfl, agn_rfl _ _, agn_rfl _ _, rfl⟩
theorem sf_out {hb h h3 : zH} {n jn : Nat} {v : Int} {g : Nat → Int} {pre : List Nat} {L L2 : List (List Nat)} (hp : pre.length ≤ 8) (hI : sfI hb n jn v g pre L h) (q : mq h h3) (z : h3 64 4 = h 64 4) (e91 : h3 91 = h 91) (hO : ordI hb n jn v L2 h3) : sfI hb n jn v g pre L2 h3 := by
  obtain ⟨q4, a4⟩ := put_out (c := 81) (by omega) hI.1 (fun _ _ => rfl) (agn_rfl 8 (h 81)) q
  exact ⟨q4, z.trans hI.2.1, fun i hi => (a4 i (by omega)).trans (hI.2.2.1 i hi), hO, e91.trans hI.2.2.2.2⟩
theorem mq_sc {h h3 : zH} (e : ∀ c2 : Nat, c2 ≠ 64 → c2 ≠ 90 → h3 c2 = h c2) (e2 : ∀ j, j ≠ 48 → j ≠ 49 → h3 64 j = h 64 j) : mq h h3 := ⟨fun c2 hc => e c2 (by omega) (by omega), fun c2 hc => by rw [e c2 (by omega) (by omega)]; exact agn_rfl _ _, fun j hj => by unfold stf at hj; exact e2 j (by omega) (by omega)⟩
theorem permR_0 (jn : Nat) (pre : List Nat) : permR jn 0 pre = [pre] := rfl
def prF (jn k : Nat) (pre : List Nat) : Nat → List (List Nat) := fun j => if pre.elem j then [] else permR jn k (pre ++ [j])
theorem prF_s (jn k : Nat) (pre : List Nat) (j : Nat) : (List.range (j + 1)).flatMap (prF jn k pre) = (List.range j).flatMap (prF jn k pre) ++ prF jn k pre j := by
  rw [List.range_succ, List.flatMap_append]; simp
theorem ord_0 {h h3 : zH} {n jn : Nat} {v : Int} {L : List (List Nat)} (o : ordI h n jn v L h3) (h0 : h3 64 49 = 0) (i : Nat) : (match L.find? (BM h n jn v) with | some l => fL l i | none => -1) = -1 := by
  have o2 := o.2
  cases e : L.find? (BM h n jn v) with
  | none => rfl
  | some l => rw [e] at o2; exact absurd (o2.1.symm.trans h0) (by decide)
theorem ord_1 {h h3 : zH} {n jn : Nat} {v : Int} {L : List (List Nat)} (o : ordI h n jn v L h3) (h0 : ¬ h3 64 49 = 0) {i : Nat} (hi : i < jn) : (match L.find? (BM h n jn v) with | some l => fL l i | none => -1) = h3 90 i := by
  have o2 := o.2
  cases e : L.find? (BM h n jn v) with
  | none => rw [e] at o2; exact absurd o2 h0
  | some l => rw [e] at o2; exact (o2.2 i hi).symm
def ordVM (h : zH) (n jn : Nat) (v i : Int) : Int := if 6 < jn then -2 else if i = -1 then (((permL jn).filter (BM h n jn v)).length : Int) else match (permL jn).find? (BM h n jn v) with
  | some l => fL l i.toNat
  | none => -1

set_option maxRecDepth 100000 in
theorem c6_seatFrom0 {E : zE} {h : zH} {hb : zH} {n jn u : Nat} {v : Int} {g : Nat → Int} {pre : List Nat} {L : List (List Nat)} (hm : mInv hb n jn) (hj6 : jn ≤ 6) (hv : 0 ≤ v ∧ v < 5) (d k : Nat) (hd : 9 ≤ d) (hl : pre.length = jn) (hx : ∀ x ∈ pre, x < jn) (hI : sfI hb n jn v g pre L h) : zCal E mX6_seatFrom d k [zrv E 64, ziv (pre.length : Int), ziv (u : Int), ziv v] h (fun r h' => r = none ∧ sfI hb n jn v g pre (L ++ permR jn 0 pre) h') (fun _ _ => False) := by
  refine zCal_of (by decide) (Nat.le_of_ble_eq_true rfl) (fun a => ?_)
  show zV _ 0 0 [zrv E 64, ziv (pre.length : Int), ziv (u : Int), ziv v, .null] [] _
  have t68 : (jn : Int) = h 68 1 := by have := hI.1.1 68 (by omega); rw [zst_ne (by decide)] at this; rw [this]; exact hm.1.1.2.2.2.symm
  obtain ⟨i3, o3⟩ := sf_in hm hl hx hI
  have b3 := oneV_lo n jn (gSe (gM hb) (fL pre)) (hb 64 32) (hb 80)
  refine zV_iload_n dX6_seatFrom_0 rfl rfl ?_
  refine zV_aload_nr dX6_seatFrom_1 rfl rfl ?_
  refine gf6_42 rfl (rfl) dX6_seatFrom_2 ?_
  refine zV_teq (w := zrv E 68) rfl ?_
  refine zV_iconst dX6_seatFrom_5 ?_
  refine zV_ialoadN (i := 1) (N := 10) (rfl) (by decide) (by decide) dX6_seatFrom_6 ?_
  refine zV_teq (w := ziv (jn : Int)) (congrArg ziv t68) ?_
  refine zR_icmp_ne (tgt := 53) dX6_seatFrom_7 (by decide) (by omega) (by omega) (fun h7 => ?_) (fun h7 => ?_)
  · exact absurd h7 (by omega)
  · refine zV_aload_nr dX6_seatFrom_10 rfl rfl ?_
    refine zV_callV (As := []) lk6_433 (rfl) rfl rfl (c6_nextVerdict (n := n) (jn := jn) (d - 1) 0 (by omega) i3.1 i3.2.1 i3.2.2) ⟨by show _ + 1 ≤ d; omega, by show _ ≤ k; omega⟩ rfl (Nat.le_of_ble_eq_true rfl) dX6_seatFrom_11 (fun _ _ z => z.elim) (fun r h3 q => ?_)
    obtain ⟨rfl, q3, z3, f3, g3⟩ := q
    rw [o3]
    have e90 : h3 90 = h 90 := f3 90 (by decide) (by decide) (by decide) (by decide) (by decide) (by decide) (by decide) (by decide)
    have e91 : h3 91 = h 91 := f3 91 (by decide) (by decide) (by decide) (by decide) (by decide) (by decide) (by decide) (by decide)
    refine zV_iload_n dX6_seatFrom_14 rfl rfl ?_
    refine zR_icmp_eq (tgt := 19) dX6_seatFrom_15 (by decide) (by omega) (by omega) (fun h15 => ?_) (fun h15 => ?_)
    · refine zV_aload_nr dX6_seatFrom_19 rfl rfl ?_
      refine zV_dup dX6_seatFrom_20 rfl ?_
      refine gf6_436 rfl rfl dX6_seatFrom_21 ?_
      refine zV_teq (w := ziv (h 64 48)) (congrArg ziv (g3 48 (by decide)).symm) ?_
      refine zV_iconst dX6_seatFrom_24 ?_
      refine zV_iadd dX6_seatFrom_25 ?_
      refine pf6_436 rfl (rfl) dX6_seatFrom_26 ?_
      refine zV_aload_nr dX6_seatFrom_29 rfl rfl ?_
      refine gf6_439 rfl rfl dX6_seatFrom_30 ?_
      refine zV_teq (w := ziv (h 64 49)) (congrArg ziv (by rw [zup_at, if_neg (by decide), g3 49 (by decide)])) ?_
      have a49 : h 64 49 = 0 ∨ h 64 49 = 1 := by
        have := hI.2.2.2.1.2
        split at this
        · exact Or.inl this
        · exact Or.inr this.1
      refine zR_if_ne (tgt := 47) dX6_seatFrom_33 (by decide) (by omega) (fun h33 => ?_) (fun h33 => ?_)
      · refine zV_aload_nr dX6_seatFrom_47 rfl rfl ?_
        refine zV_iconst dX6_seatFrom_48 ?_
        refine pf6_439 rfl (rfl) (Or.inr rfl) dX6_seatFrom_49 ?_
        exact zV_vreturn dX6_seatFrom_52 rfl (Nat.zero_le _) ⟨rfl, sf_out (by omega) hI (mq_trans q3 (mq_sc (fun c2 a b => by rw [zup_fn a,  zup_fn a]) (fun j a b => by rw [zup_at, if_neg b,  zup_at, if_neg a]))) (by rw [zup_at, if_neg (by decide),  zup_at, if_neg (by decide)]; exact z3) (by rw [zup_fn (by decide),  zup_fn (by decide)]; exact e91) (ordI_y hI.2.2.2.1 (decide_eq_true h15) (by rw [zup_at, if_neg (by decide),  zup_at, if_pos rfl]) (by rw [zup_at, if_pos rfl]) (by rw [if_neg h33]; intro i hi; rw [zup_fn (by decide), zup_fn (by decide), e90]))⟩
      · refine zV_aload_nr dX6_seatFrom_36 rfl rfl ?_
        refine gf6_112 rfl (rfl) dX6_seatFrom_37 ?_
        refine zV_teq (w := zrv E 90) rfl ?_
        refine zV_aload_nr dX6_seatFrom_40 rfl rfl ?_
        refine gf6_85 rfl (rfl) dX6_seatFrom_41 ?_
        refine zV_teq (w := zrv E 81) rfl ?_
        refine zV_callS (As := [zrv E 90, zrv E 81]) lk6_442 (c6_copyTo (c := 90) (e := 81) (N := 8) (M := 8) (d - 1) 0 rfl rfl (by decide) (by decide) (by decide)) ⟨by show _ + 1 ≤ d; omega, by show _ ≤ k; omega⟩ rfl (Nat.le_of_ble_eq_true rfl) dX6_seatFrom_44 (fun _ _ z => z.elim) (fun r h5 q => ?_)
        obtain ⟨rfl, fr90, cp90⟩ := q
        refine zV_aload_nr dX6_seatFrom_47 rfl rfl ?_
        refine zV_iconst dX6_seatFrom_48 ?_
        refine pf6_439 rfl (rfl) (Or.inr rfl) dX6_seatFrom_49 ?_
        exact zV_vreturn dX6_seatFrom_52 rfl (Nat.zero_le _) ⟨rfl, sf_out (by omega) hI (mq_trans q3 (mq_sc (fun c2 a b => by rw [zup_fn a, fr90 c2 b, zup_fn a]) (fun j a b => by rw [zup_at, if_neg b, fr90 64 (by decide), zup_at, if_neg a]))) (by rw [zup_at, if_neg (by decide), fr90 64 (by decide), zup_at, if_neg (by decide)]; exact z3) (by rw [zup_fn (by decide), fr90 91 (by decide), zup_fn (by decide)]; exact e91) (ordI_y hI.2.2.2.1 (decide_eq_true h15) (by rw [zup_at, if_neg (by decide), fr90 64 (by decide), zup_at, if_pos rfl]) (by rw [zup_at, if_pos rfl]) (by rw [if_pos h33]; intro i hi; rw [zup_fn (by decide), cp90 i (by omega), zup_fn (by decide), q3.2.1 81 (by omega) i (by omega)]; exact hI.2.2.1 i (by omega)))⟩
    · exact zV_vreturn dX6_seatFrom_18 rfl (Nat.zero_le _) ⟨rfl, sf_out (by omega) hI q3 z3 e91 (ordI_n hI.2.2.2.1 (decide_eq_false h15) (g3 48 (by decide)) (g3 49 (by decide)) e90)⟩
set_option maxRecDepth 100000 in
theorem c6_seatFrom1 {E : zE} {h : zH} {hb : zH} {n jn u : Nat} {v : Int} {g : Nat → Int} {pre : List Nat} {L : List (List Nat)} (hm : mInv hb n jn) (hj6 : jn ≤ 6) (hv : 0 ≤ v ∧ v < 5) (k9 d k : Nat) (hd : 9 ≤ d) (hl : pre.length + (k9 + 1) = jn) (hx : ∀ x ∈ pre, x < jn) (hu : mskP u pre) (hI : sfI hb n jn v g pre L h) (HE : ∀ (h : zH) (pre : List Nat) (L : List (List Nat)) (u : Nat), pre.length + k9 = jn → (∀ x ∈ pre, x < jn) → mskP u pre → sfI hb n jn v g pre L h → zCal E mX6_seatFrom (d - 1) 0 [zrv E 64, ziv (pre.length : Int), ziv (u : Int), ziv v] h (fun r h' => r = none ∧ sfI hb n jn v g pre (L ++ permR jn k9 pre) h') (fun _ _ => False)) : zCal E mX6_seatFrom d k [zrv E 64, ziv (pre.length : Int), ziv (u : Int), ziv v] h (fun r h' => r = none ∧ sfI hb n jn v g pre (L ++ permR jn (k9 + 1) pre) h') (fun _ _ => False) := by
  refine zCal_of (by decide) (Nat.le_of_ble_eq_true rfl) (fun a => ?_)
  show zV _ 0 0 [zrv E 64, ziv (pre.length : Int), ziv (u : Int), ziv v, .null] [] _
  have t68 : (jn : Int) = h 68 1 := by have := hI.1.1 68 (by omega); rw [zst_ne (by decide)] at this; rw [this]; exact hm.1.1.2.2.2.symm
  refine zV_iload_n dX6_seatFrom_0 rfl rfl ?_
  refine zV_aload_nr dX6_seatFrom_1 rfl rfl ?_
  refine gf6_42 rfl (rfl) dX6_seatFrom_2 ?_
  refine zV_teq (w := zrv E 68) rfl ?_
  refine zV_iconst dX6_seatFrom_5 ?_
  refine zV_ialoadN (i := 1) (N := 10) (rfl) (by decide) (by decide) dX6_seatFrom_6 ?_
  refine zV_teq (w := ziv (jn : Int)) (congrArg ziv (by first | exact t68 | exact t681)) ?_
  refine zR_icmp_ne (tgt := 53) dX6_seatFrom_7 (by decide) (by omega) (by omega) (fun h7 => ?_) (fun h7 => ?_)
  · refine zV_iconst dX6_seatFrom_53 ?_
    refine zV_istore dX6_seatFrom_54 (Nat.le_of_ble_eq_true rfl) rfl ?_
    have L56 : ∀ (m : Nat) (j : Nat) (h1 : zH), (jn + 1 ≤ j + m) → (j ≤ jn) → (sfI hb n jn v g pre (L ++ (List.range j).flatMap (prF jn k9 pre)) h1) → zV (E, mX6_seatFrom, d, k, (fun r h' => r = none ∧ sfI hb n jn v g pre (L ++ permR jn (k9 + 1) pre) h'), (fun _ _ => False), a) 0 56 [zrv E 64, ziv (pre.length : Int), ziv (u : Int), ziv v, ziv (j : Int)] [] h1 := by
      intro m
      induction m with
      | zero => intro j h1 hm_ hj I1; exfalso; omega
      | succ m ih =>
        intro j h1 hm_ hj I1
        have t681 : (jn : Int) = h1 68 1 := by have := I1.1.1 68 (by omega); rw [zst_ne (by decide)] at this; rw [this]; exact hm.1.1.2.2.2.symm
        refine zV_iload dX6_seatFrom_56 rfl ?_
        refine zV_aload_nr dX6_seatFrom_58 rfl rfl ?_
        refine gf6_42 rfl (rfl) dX6_seatFrom_59 ?_
        refine zV_teq (w := zrv E 68) rfl ?_
        refine zV_iconst dX6_seatFrom_62 ?_
        refine zV_ialoadN (i := 1) (N := 10) (rfl) (by decide) (by decide) dX6_seatFrom_63 ?_
        refine zV_teq (w := ziv (jn : Int)) (congrArg ziv (by first | exact t68 | exact t681)) ?_
        refine zR_icmp_ge (tgt := 107) dX6_seatFrom_64 (by decide) (by omega) (by omega) (fun h64 => ?_) (fun h64 => ?_)
        · exact zV_vreturn dX6_seatFrom_107 rfl (Nat.zero_le _) ⟨rfl, (by
            have e9 : jn = j := by omega
            show sfI hb n jn v g pre (L ++ (List.range jn).flatMap (prF jn k9 pre)) h1
            rw [show List.range jn = List.range j by rw [e9]]
            exact I1)⟩
        · refine zV_iload_n dX6_seatFrom_67 rfl rfl ?_
          refine zV_iload dX6_seatFrom_68 rfl ?_
          refine zV_callS (As := [ziv (u : Int), ziv (j : Int)]) lk6_446 (c6_isOf (d - 1) 0) ⟨by show _ + 1 ≤ d; omega, by show _ ≤ k; omega⟩ rfl (Nat.le_of_ble_eq_true rfl) dX6_seatFrom_70 (fun _ _ z => z.elim) (fun r h9 q => ?_)
          obtain ⟨rfl, hh⟩ := q
          rw [hh]
          clear hh
          refine zR_if_eq (tgt := 79) dX6_seatFrom_73 (by decide) (by split <;> omega) (fun h73 => ?_) (fun h73 => ?_)
          · have n73 := ipF h73
            refine zV_aload_nr dX6_seatFrom_79 rfl rfl ?_
            refine gf6_85 rfl (rfl) dX6_seatFrom_80 ?_
            refine zV_teq (w := zrv E 81) rfl ?_
            refine zV_iload_n dX6_seatFrom_83 rfl rfl ?_
            refine zV_iload dX6_seatFrom_84 rfl ?_
            refine zV_iastoreN (i := pre.length) (N := 8) (rfl) (by omega) (by decide) dX6_seatFrom_86 ?_
            have hx2 : ∀ x ∈ pre ++ [j], x < jn := fun x hh => by
              rcases List.mem_append.mp hh with a | a
              · exact hx x a
              · rw [List.mem_singleton.mp a]; omega
            have I2 : sfI hb n jn v g (pre ++ [j]) (L ++ (List.range j).flatMap (prF jn k9 pre)) (zup h1 81 pre.length (j : Int)) := by
              obtain ⟨a1, a2, a3, a4, a5⟩ := I1
              refine ⟨?_, by rw [zup_fn (by decide)]; exact a2, fun i hi => ?_, ?_, by rw [zup_fn (by decide)]; exact a5⟩
              · rw [show zst (zup h1 81 pre.length (j : Int)) 81 (hb 81) = zst h1 81 (hb 81) from by funext c; unfold zst; split; rfl; rename_i e; exact zup_fn e]; exact a1
              · rw [zup_at]
                by_cases e : i = pre.length
                · rw [if_pos e, e, fL_last]
                · rw [if_neg e]
                  have : i < pre.length := by simp at hi; omega
                  rw [fL_app this]; exact a3 i this
              · unfold ordI at a4 ⊢; rw [zup_fn (by decide), zup_fn (by decide)]; exact a4
            refine zV_aload_nr dX6_seatFrom_87 rfl rfl ?_
            refine zV_iload_n dX6_seatFrom_88 rfl rfl ?_
            refine zV_iconst dX6_seatFrom_89 ?_
            refine zV_iadd dX6_seatFrom_90 ?_
            refine zV_teq (w := ziv ((pre ++ [j]).length : Int)) (congrArg ziv (by rw [List.length_append]; simp)) ?_
            refine zV_iload_n dX6_seatFrom_91 rfl rfl ?_
            refine zV_iconst dX6_seatFrom_92 ?_
            refine zV_iload dX6_seatFrom_93 rfl ?_
            refine zV_ishl dX6_seatFrom_95 ?_
            refine zV_ior dX6_seatFrom_96 ?_
            rw [(msk_or u hu.1 j (by omega)).1]
            refine zV_iload_n dX6_seatFrom_97 rfl rfl ?_
            refine zV_callV (As := [ziv ((pre ++ [j]).length : Int), ziv ((u ||| 2 ^ j : Nat) : Int), ziv v]) lk6_449 (rfl) rfl rfl (HE _ (pre ++ [j]) (L ++ (List.range j).flatMap (prF jn k9 pre)) (u ||| 2 ^ j) (by simp; omega) hx2 (msk_s hu (by omega)) I2) ⟨by show _ + 1 ≤ d; omega, by show _ ≤ k; omega⟩ rfl (Nat.le_of_ble_eq_true rfl) dX6_seatFrom_98 (fun _ _ z => z.elim) (fun r h3 q => ?_)
            obtain ⟨rfl, I3⟩ := q
            refine zV_iinc dX6_seatFrom_101 rfl (Nat.le_of_ble_eq_true rfl) rfl ?_
            refine zV_goto (tgt := 56) dX6_seatFrom_104 (by decide) ?_
            refine ih (j + 1) h3 (by omega) (by omega) ?_
            obtain ⟨a1, a2, a3, a4, a5⟩ := I3
            refine ⟨a1, a2, fun i hi => by rw [a3 i (by simp; omega), fL_app hi], ?_, a5⟩
            rw [prF_s, ← List.append_assoc]
            unfold prF at a4 ⊢
            rw [if_neg (fun z => n73 ((hu.2 j (by omega)).mpr z))]
            exact a4
          · have y73 := ipT h73
            refine zV_goto (tgt := 101) dX6_seatFrom_76 (by decide) ?_
            refine zV_iinc dX6_seatFrom_101 rfl (Nat.le_of_ble_eq_true rfl) rfl ?_
            refine zV_goto (tgt := 56) dX6_seatFrom_104 (by decide) ?_
            refine ih (j + 1) h1 (by omega) (by omega) ?_
            rw [prF_s]
            unfold prF at I1 ⊢
            rw [if_pos ((hu.2 j (by omega)).mp y73), List.append_nil]
            exact I1
    exact L56 (jn + 1) 0 h (by omega) (by omega) (by show sfI hb n jn v g pre (L ++ []) h; rw [List.append_nil]; exact hI)
  · exact absurd h7 (by omega)
theorem c6_seatFrom {E : zE} {hb : zH} {n jn : Nat} {v : Int} {g : Nat → Int} (hm : mInv hb n jn) (hj6 : jn ≤ 6) (hv : 0 ≤ v ∧ v < 5) : ∀ (k9 d k : Nat) (h : zH) (pre : List Nat) (L : List (List Nat)) (u : Nat), pre.length + k9 = jn → 9 + k9 ≤ d → (∀ x ∈ pre, x < jn) → mskP u pre → sfI hb n jn v g pre L h → zCal E mX6_seatFrom d k [zrv E 64, ziv (pre.length : Int), ziv (u : Int), ziv v] h (fun r h' => r = none ∧ sfI hb n jn v g pre (L ++ permR jn k9 pre) h') (fun _ _ => False) := by
  intro k9
  induction k9 with
  | zero => intro d k h pre L u hl hd hx hu hI; exact c6_seatFrom0 hm hj6 hv d k (by omega) hl hx hI
  | succ k9 ih => intro d k h pre L u hl hd hx hu hI; exact c6_seatFrom1 hm hj6 hv k9 d k (by omega) hl hx hu hI (fun h2 pre2 L2 u2 hl2 hx2 hu2 hI2 => ih (d - 1) 0 h2 pre2 L2 u2 hl2 (by omega) hx2 hu2 hI2)
theorem msk0 : ∀ i : Nat, i < 6 → ¬ zand (zshr ((0 : Nat) : Int) (i : Int)) 1 = 1 := by decide
theorem sf_0 {h h0 h2 : zH} {n jn : Nat} {v : Int} (q0 : mq h h0) (z0 : h0 64 4 = 0) (fr : ∀ c2 : Nat, c2 ≠ 91 → h2 c2 = zup (zup h0 64 48 0) 64 49 0 c2) : sfI h n jn v (h2 91) [] [] h2 := by
  have e : ∀ c2 : Nat, c2 ≠ 64 → c2 ≠ 91 → h2 c2 = h0 c2 := fun c2 a b => by rw [fr c2 b, zup_fn a, zup_fn a]
  have e2 : ∀ j, j ≠ 48 → j ≠ 49 → h2 64 j = h0 64 j := fun j a b => by rw [fr 64 (by decide), zup_at, if_neg b, zup_at, if_neg a]
  refine ⟨put_0 (by omega) (mq_trans q0 ⟨fun c2 hc => e c2 (by omega) (by omega), fun c2 hc => by rw [e c2 (by omega) (by omega)]; exact agn_rfl _ _, fun j hj => by unfold stf at hj; exact e2 j (by omega) (by omega)⟩), by rw [e2 4 (by decide) (by decide)]; exact z0, fun i hi => absurd hi (Nat.not_lt_zero i), ⟨?_, ?_⟩, rfl⟩
  · rw [fr 64 (by decide), zup_at, if_neg (by decide), zup_at, if_pos rfl]; rfl
  · show h2 64 49 = 0
    rw [fr 64 (by decide), zup_at, if_pos rfl]

set_option maxRecDepth 100000 in
theorem c6_orders {E : zE} {h : zH} {n jn : Nat} {v i : Int} (hv : -2147483648 ≤ v ∧ v ≤ 2147483647) (hi : -2147483648 ≤ i ∧ i ≤ 2147483647) (hm : mInv h n jn) : zCal E mX6_orders 20 4 [zrv E 64, ziv v, ziv i] h (mA h (if (0 ≤ v ∧ v < 5) ∧ (-1 ≤ i ∧ i < jn) then 0 else 1) (ordVM h n jn v i)) (fun _ _ => False) := by
  refine zCal_of (by decide) (Nat.le_of_ble_eq_true rfl) (fun a => ?_)
  show zV _ 0 0 [zrv E 64, ziv v, ziv i] [] _
  refine zV_aload_nr dX6_orders_0 rfl rfl ?_
  refine zV_iconst dX6_orders_1 ?_
  refine pf6_157 rfl (rfl) dX6_orders_2 ?_
  obtain ⟨h0, hh0, q0, z0, i0, e0, e4, r0, g0⟩ := st0 hm
  rw [hh0]
  refine zV_iload_n dX6_orders_5 rfl rfl ?_
  refine zV_callS (As := [ziv v]) lk6_427 (c6_isVerdict 11 0 (by decide) hv) ⟨by show _ + 1 ≤ 20; omega, by show _ ≤ 4; omega⟩ rfl (Nat.le_of_ble_eq_true rfl) dX6_orders_6 (fun _ _ z => z.elim) (fun r h9 q => ?_)
  obtain ⟨rfl, hh⟩ := q
  rw [hh]
  clear hh
  refine zR_if_eq (tgt := 32) dX6_orders_9 (by decide) (by split <;> omega) (fun h9 => ?_) (fun h9 => ?_)
  · have n9 := ipF h9
    refine zV_aload_nr dX6_orders_32 rfl rfl ?_
    refine zV_iconst dX6_orders_33 ?_
    refine zV_callV (As := [ziv 1]) lk6_300 (rfl) rfl rfl (c6_fail 11 0) ⟨by show _ + 1 ≤ 20; omega, by show _ ≤ 4; omega⟩ rfl (Nat.le_of_ble_eq_true rfl) dX6_orders_34 (fun _ _ z => z.elim) (fun r h9 q => ?_)
    obtain ⟨rfl, hh⟩ := q
    rw [hh]
    clear hh
    exact zV_ireturn dX6_orders_37 rfl (Nat.zero_le _) (mA_f q0 (by decide) (by rw [if_neg (by omega)]))
  · have y9 := ipT h9
    refine zV_iload_n dX6_orders_12 rfl rfl ?_
    refine zV_i2l dX6_orders_13 (by omega) ?_
    refine zV_ldc2 (v := (-1)) kl6_453 dX6_orders_14 ?_
    refine zV_aload_nr dX6_orders_17 rfl rfl ?_
    refine gf6_42 rfl (rfl) dX6_orders_18 ?_
    refine zV_teq (w := zrv E 68) rfl ?_
    refine zV_iconst dX6_orders_21 ?_
    refine zV_ialoadN (i := 1) (N := 10) (rfl) (by decide) (by decide) dX6_orders_22 ?_
    refine zV_teq (w := ziv (jn : Int)) (congrArg ziv i0.1.1.2.2.2.symm) ?_
    have j8 := i0.1.1.2.1
    refine zV_iconst dX6_orders_23 ?_
    refine zV_isub dX6_orders_24 ?_
    refine zV_i2l dX6_orders_25 (by omega) ?_
    refine zV_callS (As := [zlv i, zlv (-1), zlv ((jn : Int) - 1)]) lk6_160 (c6_isIn 11 0 (by omega) (by omega) (by omega)) ⟨by show _ + 1 ≤ 20; omega, by show _ ≤ 4; omega⟩ rfl (Nat.le_of_ble_eq_true rfl) dX6_orders_26 (fun _ _ z => z.elim) (fun r h9 q => ?_)
    obtain ⟨rfl, hh⟩ := q
    rw [hh]
    clear hh
    refine zR_if_ne (tgt := 38) dX6_orders_29 (by decide) (by split <;> omega) (fun h29 => ?_) (fun h29 => ?_)
    · have y29 := ipT h29
      refine zV_aload_nr dX6_orders_38 rfl rfl ?_
      refine gf6_42 rfl (rfl) dX6_orders_39 ?_
      refine zV_teq (w := zrv E 68) rfl ?_
      refine zV_iconst dX6_orders_42 ?_
      refine zV_ialoadN (i := 1) (N := 10) (rfl) (by decide) (by decide) dX6_orders_43 ?_
      refine zV_teq (w := ziv (jn : Int)) (congrArg ziv i0.1.1.2.2.2.symm) ?_
      refine zV_bipush dX6_orders_44 (by decide) ?_
      refine zR_icmp_le (tgt := 52) dX6_orders_46 (by decide) (by omega) (by omega) (fun h46 => ?_) (fun h46 => ?_)
      · refine zV_aload_nr dX6_orders_52 rfl rfl ?_
        refine zV_iconst dX6_orders_53 ?_
        refine pf6_436 rfl (rfl) dX6_orders_54 ?_
        refine zV_aload_nr dX6_orders_57 rfl rfl ?_
        refine zV_iconst dX6_orders_58 ?_
        refine pf6_439 rfl (rfl) (Or.inl rfl) dX6_orders_59 ?_
        refine zV_aload_nr dX6_orders_62 rfl rfl ?_
        refine gf6_115 rfl (rfl) dX6_orders_63 ?_
        refine zV_teq (w := zrv E 91) rfl ?_
        refine zV_aload_nr dX6_orders_66 rfl rfl ?_
        refine gf6_85 rfl (rfl) dX6_orders_67 ?_
        refine zV_teq (w := zrv E 81) rfl ?_
        refine zV_callS (As := [zrv E 91, zrv E 81]) lk6_442 (c6_copyTo (c := 91) (e := 81) (N := 8) (M := 8) 19 0 rfl rfl (by decide) (by decide) (by decide)) ⟨by show _ + 1 ≤ 20; omega, by show _ ≤ 4; omega⟩ rfl (Nat.le_of_ble_eq_true rfl) dX6_orders_70 (fun _ _ z => z.elim) (fun r h2 q => ?_)
        obtain ⟨rfl, fr91, cp91⟩ := q
        refine zV_aload_nr dX6_orders_73 rfl rfl ?_
        refine zV_iconst dX6_orders_74 ?_
        refine zV_iconst dX6_orders_75 ?_
        refine zV_iload_n dX6_orders_76 rfl rfl ?_
        have I0 : sfI h n jn v (h2 91) [] [] h2 := sf_0 q0 z0 fr91
        refine zV_callV (As := [ziv ((([] : List Nat).length : Nat) : Int), ziv ((0 : Nat) : Int), ziv v]) lk6_449 (rfl) rfl rfl (c6_seatFrom hm (by omega) y9 jn 19 0 h2 [] [] 0 (by simp) (by omega) (fun x hx => (List.not_mem_nil hx).elim) ⟨by decide, fun i hi => by simp; exact msk0 i hi⟩ I0) ⟨by show _ + 1 ≤ 20; omega, by show _ ≤ 4; omega⟩ rfl (Nat.le_of_ble_eq_true rfl) dX6_orders_77 (fun _ _ z => z.elim) (fun r h3 q => ?_)
        obtain ⟨rfl, I3⟩ := q
        refine zV_aload_nr dX6_orders_80 rfl rfl ?_
        refine gf6_85 rfl (rfl) dX6_orders_81 ?_
        refine zV_teq (w := zrv E 81) rfl ?_
        refine zV_aload_nr dX6_orders_84 rfl rfl ?_
        refine gf6_115 rfl (rfl) dX6_orders_85 ?_
        refine zV_teq (w := zrv E 91) rfl ?_
        refine zV_callS (As := [zrv E 81, zrv E 91]) lk6_442 (c6_copyTo (c := 81) (e := 91) (N := 8) (M := 8) 19 0 rfl rfl (by decide) (by decide) (by decide)) ⟨by show _ + 1 ≤ 20; omega, by show _ ≤ 4; omega⟩ rfl (Nat.le_of_ble_eq_true rfl) dX6_orders_88 (fun _ _ z => z.elim) (fun r h4 q => ?_)
        obtain ⟨rfl, fr81, cp81⟩ := q
        have mq4 : mq h h4 := put_end (c := 81) (by omega) I3.1 fr81 (fun i hi => by rw [cp81 i hi, I3.2.2.2.2, cp91 i hi, zup_fn (by decide), zup_fn (by decide), e0 81 (by decide)])
        have z4 : h4 64 4 = 0 := by rw [fr81 64 (by decide)]; exact I3.2.1
        have O3 := I3.2.2.2.1
        rw [List.nil_append] at O3
        have o48 : h4 64 48 = (((permL jn).filter (BM h n jn v)).length : Int) := by rw [fr81 64 (by decide)]; exact O3.1
        have o49 := O3.2
        refine zV_iload_n dX6_orders_91 rfl rfl ?_
        refine zV_iconst dX6_orders_92 ?_
        refine zR_icmp_ne (tgt := 103) dX6_orders_93 (by decide) (by omega) (by omega) (fun h93 => ?_) (fun h93 => ?_)
        · refine zV_aload_nr dX6_orders_103 rfl rfl ?_
          refine gf6_439 rfl rfl dX6_orders_104 ?_
          refine zR_if_eq (tgt := 119) dX6_orders_107 (by decide) (by rw [fr81 64 (by decide)]; split at o49; omega; omega) (fun h107 => ?_) (fun h107 => ?_)
          · refine zV_iconst dX6_orders_119 ?_
            exact zV_ireturn dX6_orders_120 rfl (Nat.zero_le _) (mA_ok mq4 z4 (by rw [if_pos (by omega)]) (by unfold ordVM; rw [if_neg (by omega), if_neg h93]; rw [fr81 64 (by decide)] at h107; exact (ord_0 O3 h107 i.toNat).symm))
          · refine zV_aload_nr dX6_orders_110 rfl rfl ?_
            refine gf6_112 rfl (rfl) dX6_orders_111 ?_
            refine zV_teq (w := zrv E 90) rfl ?_
            refine zV_iload_n dX6_orders_114 rfl rfl ?_
            refine zV_iaload (N := 8) (rfl) (by omega) (by decide) dX6_orders_115 ?_
            refine zV_goto (tgt := 120) dX6_orders_116 (by decide) ?_
            exact zV_ireturn dX6_orders_120 rfl (Nat.zero_le _) (mA_ok mq4 z4 (by rw [if_pos (by omega)]) (by unfold ordVM; rw [if_neg (by omega), if_neg h93]; rw [fr81 64 (by decide)] at h107; rw [fr81 90 (by decide)]; exact (ord_1 O3 h107 (by omega)).symm))
        · refine zV_aload_nr dX6_orders_96 rfl rfl ?_
          refine gf6_436 rfl rfl dX6_orders_97 ?_
          rw [o48]
          refine zV_goto (tgt := 120) dX6_orders_100 (by decide) ?_
          exact zV_ireturn dX6_orders_120 rfl (Nat.zero_le _) (mA_ok mq4 z4 (by rw [if_pos (by omega)]) (by unfold ordVM; rw [if_neg (by omega), if_pos h93]))
      · refine zV_bipush dX6_orders_49 (by decide) ?_
        exact zV_ireturn dX6_orders_51 rfl (Nat.zero_le _) (mA_ok q0 z0 (by rw [if_pos (by omega)]) (by unfold ordVM; rw [if_pos (by omega)]))
    · have n29 := ipF h29
      refine zV_aload_nr dX6_orders_32 rfl rfl ?_
      refine zV_iconst dX6_orders_33 ?_
      refine zV_callV (As := [ziv 1]) lk6_300 (rfl) rfl rfl (c6_fail 11 0) ⟨by show _ + 1 ≤ 20; omega, by show _ ≤ 4; omega⟩ rfl (Nat.le_of_ble_eq_true rfl) dX6_orders_34 (fun _ _ z => z.elim) (fun r h9 q => ?_)
      obtain ⟨rfl, hh⟩ := q
      rw [hh]
      clear hh
      exact zV_ireturn dX6_orders_37 rfl (Nat.zero_le _) (mA_f q0 (by decide) (by rw [if_neg (by omega)]))
