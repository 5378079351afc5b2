/-! THE REFERENCE: what one must drink, pour, lay; better seats -/
theorem put78_in {h h2 h3 : zH} {n jn : Nat} {F : Nat → Int} (hm : mInv h n jn) (hq : mq h (zst h2 78 (h 78))) (e3 : ∀ c2 : Nat, c2 ≠ 78 → h3 c2 = h2 c2) (aF : agn 8 (h3 78) F) (rF : ∀ j, j < jn → 0 ≤ F j ∧ F j ≤ 30) : mInv h3 n jn ∧ oneM h3 n jn = oneV n jn (gTh (gM h) F) (h 64 32) (h 80) := by
  obtain ⟨q1, q2, q3⟩ := hq
  have hn := hm.1.1.1
  have hjn := hm.1.1.2.1
  have a80 : agn 8 (h2 80) (h 80) := by have := q2 80 (by omega); rw [zst_ne (by decide)] at this; exact this
  have a81 : agn 8 (h2 81) (h 81) := by have := q2 81 (by omega); rw [zst_ne (by decide)] at this; exact this
  have a82 : agn 8 (h2 82) (h 82) := by have := q2 82 (by omega); rw [zst_ne (by decide)] at this; exact this
  have e32 : h2 64 32 = h 64 32 := by have := q3 32 (by unfold stf; omega); rw [zst_ne (by decide)] at this; exact this
  have e33 : h2 64 33 = h 64 33 := by have := q3 33 (by unfold stf; omega); rw [zst_ne (by decide)] at this; exact this
  obtain ⟨m1, ⟨d1, d2, d3, d4, d5, d6⟩, m3⟩ := id hm
  obtain ⟨i3, g3⟩ := mInv_put hm (h2 := h3) (fun c2 hc => by have := q1 c2 (by omega); rw [zst_ne (by omega)] at this; rw [e3 c2 (by omega)]; exact this) (by rw [e3 64 (by decide)]; exact e32) (fun l hl => by rw [e3 80 (by decide), a80 l (by omega)]; exact d1 l hl) (fun j hj => by rw [aF j (by omega)]; exact rF j hj) (fun j hj => by rw [e3 82 (by decide), a82 j (by omega)]; exact d3 j hj) (fun s hs => by rw [e3 81 (by decide), a81 s (by omega)]; exact d4 s hs) (by rw [e3 64 (by decide), e33]; exact d5)
  refine ⟨i3, ?_⟩
  unfold oneM
  rw [e3 64 (by decide), e32]
  refine oneV_eq (x := (h3 80, 0, 0, fun _ => 0)) ?_ i3.2.1.2.2.2.1 ?_
  · rw [g3]
    exact ⟨by rw [e3 81 (by decide)]; exact agn_le hjn a81, by rw [e3 82 (by decide)]; exact agn_le hjn a82, agn_le hjn aF, by rw [e3 64 (by decide)]; exact e33, agn_rfl _ _, agn_rfl _ _, rfl⟩
  · rw [show h3 80 = h2 80 from e3 80 (by decide)]; exact agn_le hn a80
theorem put80_in {h h2 h3 : zH} {n jn : Nat} {F : Nat → Int} (hm : mInv h n jn) (hq : mq h (zst h2 80 (h 80))) (e3 : ∀ c2 : Nat, c2 ≠ 80 → h3 c2 = h2 c2) (aF : agn 8 (h3 80) F) (rF : ∀ l, l < n → 0 ≤ F l ∧ F l < 12) : mInv h3 n jn ∧ oneM h3 n jn = oneV n jn (gM h) (h 64 32) F := by
  obtain ⟨q1, q2, q3⟩ := hq
  have hn := hm.1.1.1
  have hjn := hm.1.1.2.1
  have a78 : agn 8 (h2 78) (h 78) := by have := q2 78 (by omega); rw [zst_ne (by decide)] at this; exact this
  have a81 : agn 8 (h2 81) (h 81) := by have := q2 81 (by omega); rw [zst_ne (by decide)] at this; exact this
  have a82 : agn 8 (h2 82) (h 82) := by have := q2 82 (by omega); rw [zst_ne (by decide)] at this; exact this
  have e32 : h2 64 32 = h 64 32 := by have := q3 32 (by unfold stf; omega); rw [zst_ne (by decide)] at this; exact this
  have e33 : h2 64 33 = h 64 33 := by have := q3 33 (by unfold stf; omega); rw [zst_ne (by decide)] at this; exact this
  obtain ⟨m1, ⟨d1, d2, d3, d4, d5, d6⟩, m3⟩ := id hm
  obtain ⟨i3, g3⟩ := mInv_put hm (h2 := h3) (fun c2 hc => by have := q1 c2 (by omega); rw [zst_ne (by omega)] at this; rw [e3 c2 (by omega)]; exact this) (by rw [e3 64 (by decide)]; exact e32) (fun l hl => by rw [aF l (by omega)]; exact rF l hl) (fun j hj => by rw [e3 78 (by decide), a78 j (by omega)]; exact d2 j hj) (fun j hj => by rw [e3 82 (by decide), a82 j (by omega)]; exact d3 j hj) (fun s hs => by rw [e3 81 (by decide), a81 s (by omega)]; exact d4 s hs) (by rw [e3 64 (by decide), e33]; exact d5)
  refine ⟨i3, ?_⟩
  unfold oneM
  rw [e3 64 (by decide), e32]
  refine oneV_eq (x := (h3 80, 0, 0, fun _ => 0)) ?_ i3.2.1.2.2.2.1 ?_
  · rw [g3]
    exact ⟨by rw [e3 81 (by decide)]; exact agn_le hjn a81, by rw [e3 82 (by decide)]; exact agn_le hjn a82, by rw [e3 78 (by decide)]; exact agn_le hjn a78, by rw [e3 64 (by decide)]; exact e33, agn_rfl _ _, agn_rfl _ _, rfl⟩
  · exact agn_le hn aF
theorem put81_in {h h2 h3 : zH} {n jn : Nat} {F : Nat → Int} (hm : mInv h n jn) (hq : mq h (zst h2 81 (h 81))) (e3 : ∀ c2 : Nat, c2 ≠ 81 → h3 c2 = h2 c2) (aF : agn 8 (h3 81) F) (rF : ∀ j, j < jn → 0 ≤ F j ∧ F j < jn) : mInv h3 n jn ∧ oneM h3 n jn = oneV n jn (gSe (gM h) F) (h 64 32) (h 80) := by
  obtain ⟨q1, q2, q3⟩ := hq
  have hn := hm.1.1.1
  have hjn := hm.1.1.2.1
  have a78 : agn 8 (h2 78) (h 78) := by have := q2 78 (by omega); rw [zst_ne (by decide)] at this; exact this
  have a80 : agn 8 (h2 80) (h 80) := by have := q2 80 (by omega); rw [zst_ne (by decide)] at this; exact this
  have a82 : agn 8 (h2 82) (h 82) := by have := q2 82 (by omega); rw [zst_ne (by decide)] at this; exact this
  have e32 : h2 64 32 = h 64 32 := by have := q3 32 (by unfold stf; omega); rw [zst_ne (by decide)] at this; exact this
  have e33 : h2 64 33 = h 64 33 := by have := q3 33 (by unfold stf; omega); rw [zst_ne (by decide)] at this; exact this
  obtain ⟨m1, ⟨d1, d2, d3, d4, d5, d6⟩, m3⟩ := id hm
  obtain ⟨i3, g3⟩ := mInv_put hm (h2 := h3) (fun c2 hc => by have := q1 c2 (by omega); rw [zst_ne (by omega)] at this; rw [e3 c2 (by omega)]; exact this) (by rw [e3 64 (by decide)]; exact e32) (fun l hl => by rw [e3 80 (by decide), a80 l (by omega)]; exact d1 l hl) (fun j hj => by rw [e3 78 (by decide), a78 j (by omega)]; exact d2 j hj) (fun j hj => by rw [e3 82 (by decide), a82 j (by omega)]; exact d3 j hj) (fun j hj => by rw [aF j (by omega)]; exact rF j hj) (by rw [e3 64 (by decide), e33]; exact d5)
  refine ⟨i3, ?_⟩
  unfold oneM
  rw [e3 64 (by decide), e32]
  refine oneV_eq (x := (h3 80, 0, 0, fun _ => 0)) ?_ i3.2.1.2.2.2.1 ?_
  · rw [g3]
    exact ⟨agn_le hjn aF, by rw [e3 82 (by decide)]; exact agn_le hjn a82, by rw [e3 78 (by decide)]; exact agn_le hjn a78, by rw [e3 64 (by decide)]; exact e33, agn_rfl _ _, agn_rfl _ _, rfl⟩
  · rw [show h3 80 = h2 80 from e3 80 (by decide)]; exact agn_le hn a80
theorem put_out {c : Nat} {h h2 h3 h4 : zH} {F : Nat → Int} (hc : c = 78 ∨ c = 80 ∨ c = 81 ∨ c = 82) (hq : mq h (zst h2 c (h c))) (e3 : ∀ c2 : Nat, c2 ≠ c → h3 c2 = h2 c2) (aF : agn 8 (h3 c) F) (q34 : mq h3 h4) : mq h (zst h4 c (h c)) ∧ agn 8 (h4 c) F := by
  obtain ⟨q1, q2, q3⟩ := hq
  obtain ⟨r1, r2, r3⟩ := q34
  refine ⟨⟨fun c2 hh => ?_, fun c2 hh => ?_, fun j hj => ?_⟩, agn_trans (r2 c hc) aF⟩
  · have := q1 c2 hh
    rw [zst_ne (by omega)] at this ⊢
    rw [r1 c2 hh, e3 c2 (by omega)]; exact this
  · by_cases e : c2 = c
    · subst e; rw [zst_same]; exact agn_rfl _ _
    · have := q2 c2 hh
      rw [zst_ne e] at this ⊢
      exact agn_trans (r2 c2 hh) (by rw [e3 c2 e]; exact this)
  · have := q3 j hj
    rw [zst_ne (by omega)] at this ⊢
    rw [r3 j hj, e3 64 (by omega)]; exact this
theorem put_end {c : Nat} {h h2 h5 : zH} (hc : c = 78 ∨ c = 80 ∨ c = 81 ∨ c = 82) (hq : mq h (zst h2 c (h c))) (e5 : ∀ c2 : Nat, c2 ≠ c → h5 c2 = h2 c2) (a5 : agn 8 (h5 c) (h c)) : mq h h5 := by
  obtain ⟨q1, q2, q3⟩ := hq
  refine ⟨fun c2 hh => ?_, fun c2 hh => ?_, fun j hj => ?_⟩
  · have := q1 c2 hh
    rw [zst_ne (by omega)] at this
    rw [e5 c2 (by omega)]; exact this
  · by_cases e : c2 = c
    · subst e; exact a5
    · have := q2 c2 hh
      rw [zst_ne e] at this
      rw [e5 c2 e]; exact this
  · have := q3 j hj
    rw [zst_ne (by omega)] at this
    rw [e5 64 (by omega)]; exact this
theorem put_0 {c : Nat} {h h0 : zH} (hc : c = 78 ∨ c = 80 ∨ c = 81 ∨ c = 82) (q : mq h h0) : mq h (zst h0 c (h c)) := by
  obtain ⟨q1, q2, q3⟩ := q
  refine ⟨fun c2 hh => by rw [zst_ne (by omega)]; exact q1 c2 hh, fun c2 hh => ?_, fun j hj => by rw [zst_ne (by omega)]; exact q3 j hj⟩
  by_cases e : c2 = c
  · subst e; rw [zst_same]; exact agn_rfl _ _
  · rw [zst_ne e]; exact q2 c2 hh
theorem setF_up {h2 : zH} {c x : Nat} {f : Nat → Int} {w t : Int} (a : agn 8 (h2 c) (setF f x w)) : agn 8 (zup h2 c x t c) (setF f x t) := fun j hj => by
  rw [zup_at]
  have := a j hj
  unfold setF at this ⊢
  by_cases e : j = x
  · rw [if_pos e, if_pos e]
  · rw [if_neg e] at this ⊢; rw [if_neg e]; exact this
theorem setF_id (f : Nat → Int) (x : Nat) : setF f x (f x) = f := by
  funext j; unfold setF; split
  · rename_i e; rw [e]
  · rfl
theorem pour_in {h h2 h3 : zH} {n jn : Nat} {t : Int} (hm : mInv h n jn) (hq : mq h (zup h2 64 33 (h 64 33))) (hh : h3 = zup h2 64 33 t) (ht : 0 ≤ t ∧ t ≤ 99) : mInv h3 n jn ∧ oneM h3 n jn = oneV n jn (gPo (gM h) t) (h 64 32) (h 80) := by
  obtain ⟨q1, q2, q3⟩ := hq
  have hn := hm.1.1.1
  have hjn := hm.1.1.2.1
  have a : ∀ c2 : Nat, (c2 = 78 ∨ c2 = 80 ∨ c2 = 81 ∨ c2 = 82) → agn 8 (h3 c2) (h c2) := fun c2 hc => by have := q2 c2 hc; rw [zup_fn (by omega)] at this; rw [hh, zup_fn (by omega)]; exact this
  have e32 : h3 64 32 = h 64 32 := by have := q3 32 (by unfold stf; omega); rw [zup_at, if_neg (by decide)] at this; rw [hh, zup_at, if_neg (by decide)]; exact this
  have e33 : h3 64 33 = t := by rw [hh, zup_at, if_pos rfl]
  obtain ⟨m1, ⟨d1, d2, d3, d4, d5, d6⟩, m3⟩ := id hm
  obtain ⟨i3, g3⟩ := mInv_put hm (h2 := h3) (fun c2 hc => by have := q1 c2 (by omega); rw [zup_fn (by omega)] at this; rw [hh, zup_fn (by omega)]; exact this) e32 (fun l hl => by rw [a 80 (by omega) l (by omega)]; exact d1 l hl) (fun j hj => by rw [a 78 (by omega) j (by omega)]; exact d2 j hj) (fun j hj => by rw [a 82 (by omega) j (by omega)]; exact d3 j hj) (fun s hs => by rw [a 81 (by omega) s (by omega)]; exact d4 s hs) (by rw [e33]; exact ht)
  refine ⟨i3, ?_⟩
  unfold oneM
  rw [e32]
  refine oneV_eq (x := (h3 80, 0, 0, fun _ => 0)) ?_ i3.2.1.2.2.2.1 (agn_le hn (a 80 (by omega)))
  rw [g3]
  exact ⟨agn_le hjn (a 81 (by omega)), agn_le hjn (a 82 (by omega)), agn_le hjn (a 78 (by omega)), e33, agn_rfl _ _, agn_rfl _ _, rfl⟩
theorem pour_out {h h2 h3 h4 : zH} {t : Int} (hq : mq h (zup h2 64 33 (h 64 33))) (hh : h3 = zup h2 64 33 t) (q34 : mq h3 h4) : mq h (zup h4 64 33 (h 64 33)) := by
  obtain ⟨q1, q2, q3⟩ := hq
  obtain ⟨r1, r2, r3⟩ := q34
  refine ⟨fun c2 hc => ?_, fun c2 hc => ?_, fun j hj => ?_⟩
  · have := q1 c2 hc
    rw [zup_fn (by omega)] at this ⊢
    rw [r1 c2 hc, hh, zup_fn (by omega)]; exact this
  · have := q2 c2 hc
    rw [zup_fn (by omega)] at this ⊢
    exact agn_trans (r2 c2 hc) (by rw [hh, zup_fn (by omega)]; exact this)
  · have := q3 j hj
    rw [zup_at] at this ⊢
    by_cases e : j = 33
    · rw [if_pos e, e]
    · rw [if_neg e] at this ⊢; rw [r3 j hj, hh, zup_at, if_neg e]; exact this

theorem pour_0 {h h0 : zH} (q : mq h h0) : mq h (zup h0 64 33 (h 64 33)) := by
  obtain ⟨q1, q2, q3⟩ := q
  refine ⟨fun c2 hh => by rw [zup_fn (by omega)]; exact q1 c2 hh, fun c2 hh => by rw [zup_fn (by omega)]; exact q2 c2 hh, fun j hj => ?_⟩
  rw [zup_at]
  by_cases e : j = 33
  · rw [if_pos e, e]
  · rw [if_neg e]; exact q3 j hj
theorem seatS_at {f : Nat → Int} {j : Int} {jn s : Nat} (hi : injM f jn) (hs : s < jn) (hj : f s = j) : seatS f j 0 jn = (s : Int) := by
  have h1 : ∀ m a : Nat, a ≤ s → a + m = jn → seatS f j a m = (s : Int) := by
    intro m
    induction m with
    | zero => intro a h1 h2; omega
    | succ m ih =>
      intro a h1 h2
      show (if f a = j then (a : Int) else seatS f j (a + 1) m) = _
      split
      · rename_i e
        have := hi a s (by omega) hs (by rw [e, hj])
        omega
      · rename_i e
        have hne : a ≠ s := fun z => e (z ▸ hj)
        exact ih (a + 1) (by omega) (by omega)
  exact h1 jn 0 (Nat.zero_le _) (by omega)
theorem swapP_at {f : Nat → Int} {jn p q : Nat} {a b : Int} (hi : injM f jn) (hp : p < jn) (hq : q < jn) (fa : f p = a) (fb : f q = b) (i : Nat) : swapP f a b jn i = if i = q then a else if i = p then b else f i := by
  unfold swapP
  rw [seatS_at hi hp fa, seatS_at hi hq fb, if_pos (by omega), Int.toNat_natCast, Int.toNat_natCast]
theorem swapP_comm {f : Nat → Int} {jn p q : Nat} {a b : Int} (hi : injM f jn) (hp : p < jn) (hq : q < jn) (fa : f p = a) (fb : f q = b) : swapP f a b jn = swapP f b a jn := by
  funext i
  rw [swapP_at hi hp hq fa fb, swapP_at hi hq hp fb fa]
  by_cases e1 : i = q
  · rw [if_pos e1]
    by_cases e2 : i = p
    · rw [if_pos e2, ← fa, ← fb, ← e1, ← e2]
    · rw [if_neg e2, if_pos e1]
  · rw [if_neg e1, if_neg e1]
theorem swapP_inj {f : Nat → Int} {jn p q : Nat} {a b : Int} (hi : injM f jn) (hp : p < jn) (hq : q < jn) (fa : f p = a) (fb : f q = b) : injM (swapP f a b jn) jn := by
  intro i j h1 h2 h3
  rw [swapP_at hi hp hq fa fb, swapP_at hi hp hq fa fb] at h3
  have k : ∀ x y, x < jn → y < jn → f x = f y → x = y := hi
  have c1 := k i p h1 hp
  have c2 := k i q h1 hq
  have c3 := k j p h2 hp
  have c4 := k j q h2 hq
  have c5 := k i j h1 h2
  have c6 := k p q hp hq
  by_cases e1 : i = q
  · rw [if_pos e1] at h3
    by_cases e2 : j = q
    · omega
    · rw [if_neg e2] at h3
      by_cases e3 : j = p
      · rw [if_pos e3] at h3; have := c6 (by rw [fa, fb, h3]); omega
      · rw [if_neg e3] at h3; have := c3 (by rw [fa, ← h3]); omega
  · rw [if_neg e1] at h3
    by_cases e2 : j = q
    · rw [if_pos e2] at h3
      by_cases e3 : i = p
      · rw [if_pos e3] at h3; have := c6 (by rw [fa, fb, h3]); omega
      · rw [if_neg e3] at h3; have := c1 (by rw [fa, h3]); omega
    · rw [if_neg e2] at h3
      by_cases e3 : i = p
      · rw [if_pos e3] at h3
        by_cases e4 : j = p
        · omega
        · rw [if_neg e4] at h3; have := c4 (by rw [fb, ← h3]); omega
      · rw [if_neg e3] at h3
        by_cases e4 : j = p
        · rw [if_pos e4] at h3; have := c2 (by rw [fb, h3]); omega
        · rw [if_neg e4] at h3; exact c5 h3
theorem swapP_perm {f : Nat → Int} {jn p q : Nat} {a b : Int} (hi : permM f jn) (hp : p < jn) (hq : q < jn) (fa : f p = a) (fb : f q = b) : permM (swapP f a b jn) jn := by
  refine ⟨swapP_inj hi.1 hp hq fa fb, fun j hj => ?_⟩
  obtain ⟨s, s1, s2⟩ := hi.2 j hj
  by_cases e1 : s = p
  · refine ⟨q, hq, ?_⟩
    rw [swapP_at hi.1 hp hq fa fb, if_pos rfl, ← fa, ← e1]; exact s2
  · by_cases e2 : s = q
    · by_cases e3 : p = q
      · exact absurd (e2.trans e3.symm) e1
      · refine ⟨p, hp, ?_⟩
        rw [swapP_at hi.1 hp hq fa fb, if_neg e3, if_pos rfl, ← fb, ← e2]; exact s2
    · refine ⟨s, s1, ?_⟩
      rw [swapP_at hi.1 hp hq fa fb, if_neg e2, if_neg e1]; exact s2
theorem swapP_twice {f g : Nat → Int} {jn p q : Nat} {a b : Int} (hjn : jn ≤ 8) (hi : permM f jn) (hp : p < jn) (hq : q < jn) (fa : f p = a) (fb : f q = b) (hg : agn 8 g (swapP f a b jn)) : agn 8 (swapP g a b jn) f := by
  have hi2 := swapP_inj hi.1 hp hq fa fb
  have gi : injM g jn := fun x y hx hy he => hi2 x y hx hy (by rw [← hg x (by omega), ← hg y (by omega)]; exact he)
  have g1 : g q = a := by rw [hg q (by omega), swapP_at hi.1 hp hq fa fb, if_pos rfl]
  have g2 : g p = b := by
    rw [hg p (by omega), swapP_at hi.1 hp hq fa fb]
    by_cases e : p = q
    · rw [if_pos e, ← fa, ← fb, e]
    · rw [if_neg e, if_pos rfl]
  intro i hh
  rw [swapP_at gi hq hp g1 g2, hg i hh, swapP_at hi.1 hp hq fa fb]
  by_cases e1 : i = p
  · rw [if_pos e1, e1, fa]
  · rw [if_neg e1]
    by_cases e2 : i = q
    · rw [if_pos e2, e2, fb]
    · rw [if_neg e2, if_neg e2, if_neg e1]
theorem swapP_agn {f g : Nat → Int} {jn p q : Nat} {a b : Int} (hjn : jn ≤ 8) (hi : injM f jn) (hp : p < jn) (hq : q < jn) (fa : f p = a) (fb : f q = b) (hg : agn 8 g f) : agn 8 (swapP g a b jn) (swapP f a b jn) := by
  have gi : injM g jn := fun x y hx hy he => hi x y hx hy (by rw [← hg x (by omega), ← hg y (by omega)]; exact he)
  intro i hh
  rw [swapP_at gi hp hq (by rw [hg p (by omega)]; exact fa) (by rw [hg q (by omega)]; exact fb), swapP_at hi hp hq fa fb, hg i hh]

theorem perm_agn8 {f g : Nat → Int} {jn : Nat} (hjn : jn ≤ 8) (a : agn 8 f g) (h : permM g jn) : permM f jn :=
  ⟨fun x y hx hy he => h.1 x y hx hy (by rw [← a x (by omega), ← a y (by omega)]; exact he), fun j hj => by obtain ⟨s, s1, s2⟩ := h.2 j hj; exact ⟨s, s1, by rw [a s (by omega)]; exact s2⟩⟩
theorem perm2 {h h2 : zH} {jn : Nat} (hq : mq h h2) (hjn : jn ≤ 8) (hp : permM (h 81) jn) : permM (h2 81) jn := perm_agn8 hjn (hq.2.1 81 (by omega)) hp

set_option maxRecDepth 100000 in
theorem c6_toDrink {E : zE} {h : zH} {n jn : Nat} {x y : Int} (hx : -2147483648 ≤ x ∧ x ≤ 2147483647) (hy : -2147483648 ≤ y ∧ y ≤ 2147483647) (hm : mInv h n jn) : zCal E mX6_toDrink 12 4 [zrv E 64, ziv x, ziv y] h (mA h (if (0 ≤ x ∧ x < jn) ∧ (0 ≤ y ∧ y < 5) then 0 else 1) (fstB (fun v => decide (oneV n jn (gTh (gM h) (setF (h 78) x.toNat (v : Int))) (h 64 32) (h 80) = y)) 0 31)) (fun _ _ => False) := by
  refine zCal_of (by decide) (Nat.le_of_ble_eq_true rfl) (fun a => ?_)
  show zV _ 0 0 [zrv E 64, ziv x, ziv y, .null, .null, .null] [] _
  refine zV_aload_nr dX6_toDrink_0 rfl rfl ?_
  refine zV_iconst dX6_toDrink_1 ?_
  refine pf6_157 rfl (rfl) dX6_toDrink_2 ?_
  obtain ⟨h0, hh0, q0, z0, i0, e0, e4, r0, g0⟩ := st0 hm
  rw [hh0]
  refine zV_aload_nr dX6_toDrink_5 rfl rfl ?_
  refine zV_iload_n dX6_toDrink_6 rfl rfl ?_
  refine zV_callV (As := [ziv x]) lk6_385 (rfl) rfl rfl (c6_isJudge (jn := jn) 11 0 (by decide) hx i0.1.1.2.2.2 i0.1.1.2.1) ⟨by show _ + 1 ≤ 12; omega, by show _ ≤ 4; omega⟩ rfl (Nat.le_of_ble_eq_true rfl) dX6_toDrink_7 (fun _ _ z => z.elim) (fun r h9 q => ?_)
  obtain ⟨rfl, hh⟩ := q
  rw [hh]
  clear hh
  refine zR_if_eq (tgt := 20) dX6_toDrink_10 (by decide) (by split <;> omega) (fun h10 => ?_) (fun h10 => ?_)
  · have n10 := ipF h10
    refine zV_aload_nr dX6_toDrink_20 rfl rfl ?_
    refine zV_iconst dX6_toDrink_21 ?_
    refine zV_callV (As := [ziv 1]) lk6_300 (rfl) rfl rfl (c6_fail 11 0) ⟨by show _ + 1 ≤ 12; omega, by show _ ≤ 4; omega⟩ rfl (Nat.le_of_ble_eq_true rfl) dX6_toDrink_22 (fun _ _ z => z.elim) (fun r h9 q => ?_)
    obtain ⟨rfl, hh⟩ := q
    rw [hh]
    clear hh
    exact zV_ireturn dX6_toDrink_25 rfl (Nat.zero_le _) (mA_f q0 (by decide) (by rw [if_neg (by omega)]))
  · have y10 := ipT h10
    refine zV_iload_n dX6_toDrink_13 rfl rfl ?_
    refine zV_callS (As := [ziv y]) lk6_427 (c6_isVerdict 11 0 (by decide) hy) ⟨by show _ + 1 ≤ 12; omega, by show _ ≤ 4; omega⟩ rfl (Nat.le_of_ble_eq_true rfl) dX6_toDrink_14 (fun _ _ z => z.elim) (fun r h9 q => ?_)
    obtain ⟨rfl, hh⟩ := q
    rw [hh]
    clear hh
    refine zR_if_ne (tgt := 26) dX6_toDrink_17 (by decide) (by split <;> omega) (fun h17 => ?_) (fun h17 => ?_)
    · have y17 := ipT h17
      have b8 := i0.1.1.2.1
      refine zV_aload_nr dX6_toDrink_26 rfl rfl ?_
      refine gf6_73 rfl (rfl) dX6_toDrink_27 ?_
      refine zV_teq (w := zrv E 78) rfl ?_
      refine zV_iload_n dX6_toDrink_30 rfl rfl ?_
      refine zV_iaload (N := 8) (rfl) (by omega) (by decide) dX6_toDrink_31 ?_
      rw [e0 78 (by decide)]
      refine zV_istore_n dX6_toDrink_32 rfl (Nat.le_of_ble_eq_true rfl) rfl ?_
      refine zV_iconst dX6_toDrink_33 ?_
      refine zV_istore dX6_toDrink_34 (Nat.le_of_ble_eq_true rfl) rfl ?_
      refine zV_bipush dX6_toDrink_36 (by decide) ?_
      refine zV_istore dX6_toDrink_38 (Nat.le_of_ble_eq_true rfl) rfl ?_
      have L40 : ∀ (m : Nat) (s : Nat) (h2 : zH), (s + 1 ≤ m) → (s ≤ 31) → (mq h (zst h2 78 (h 78))) → (∃ w, agn 8 (h2 78) (setF (h 78) x.toNat w)) → (h2 64 4 = 0) → zV (E, mX6_toDrink, 12, 4, (mA h (if (0 ≤ x ∧ x < jn) ∧ (0 ≤ y ∧ y < 5) then 0 else 1) (fstB (fun v => decide (oneV n jn (gTh (gM h) (setF (h 78) x.toNat (v : Int))) (h 64 32) (h 80) = y)) 0 31)), (fun _ _ => False), a) 0 40 [zrv E 64, ziv x, ziv y, ziv (h 78 x.toNat), ziv (fstB (fun v => decide (oneV n jn (gTh (gM h) (setF (h 78) x.toNat (v : Int))) (h 64 32) (h 80) = y)) s (31 - s)), ziv ((s : Int) - 1)] [] h2 := by
        intro m
        induction m with
        | zero => intro s h2 hm_ hs q2 e2 z2; exfalso; omega
        | succ m ih =>
          intro s h2 hm_ hs q2 e2 z2
          refine zV_iload dX6_toDrink_40 rfl ?_
          refine zR_if_lt (tgt := 71) dX6_toDrink_42 (by decide) (by omega) (fun h42 => ?_) (fun h42 => ?_)
          · refine zV_aload_nr dX6_toDrink_71 rfl rfl ?_
            refine gf6_73 rfl (rfl) dX6_toDrink_72 ?_
            refine zV_teq (w := zrv E 78) rfl ?_
            refine zV_iload_n dX6_toDrink_75 rfl rfl ?_
            refine zV_iload_n dX6_toDrink_76 rfl rfl ?_
            refine zV_iastore (N := 8) (rfl) (by omega) (by decide) dX6_toDrink_77 ?_
            refine zV_iload dX6_toDrink_78 rfl ?_
            exact zV_ireturn dX6_toDrink_80 rfl (Nat.zero_le _) (mA_ok (put_end (c := 78) (by omega) q2 (fun c2 hc => zup_fn hc) (by obtain ⟨w9, aw9⟩ := e2; have := setF_up (t := h 78 x.toNat) aw9; rw [setF_id] at this; exact this)) (by rw [zup_fn (by decide)]; exact z2) (by rw [if_pos (by omega)]) (by rw [show s = 0 by omega]))
          · obtain ⟨u, rfl⟩ : ∃ u, s = u + 1 := ⟨s - 1, by omega⟩
            refine zV_lveq (lv' := [zrv E 64, ziv x, ziv y, ziv (h 78 x.toNat), ziv (fstB (fun v => decide (oneV n jn (gTh (gM h) (setF (h 78) x.toNat (v : Int))) (h 64 32) (h 80) = y)) (u + 1) (31 - (u + 1))), ziv (u : Int)]) (by rw [show (((u + 1 : Nat) : Int) - 1) = (u : Int) by omega]) ?_
            refine zV_aload_nr dX6_toDrink_45 rfl rfl ?_
            refine gf6_73 rfl (rfl) dX6_toDrink_46 ?_
            refine zV_teq (w := zrv E 78) rfl ?_
            refine zV_iload_n dX6_toDrink_49 rfl rfl ?_
            refine zV_iload dX6_toDrink_50 rfl ?_
            refine zV_iastore (N := 8) (rfl) (by omega) (by decide) dX6_toDrink_52 ?_
            obtain ⟨h3, hh3⟩ : ∃ h3, h3 = zup h2 78 x.toNat (u : Int) := ⟨_, rfl⟩
            rw [← hh3]
            obtain ⟨w9, aw9⟩ := e2
            have e3 : ∀ c2 : Nat, c2 ≠ 78 → h3 c2 = h2 c2 := fun c2 hc => by rw [hh3, zup_fn hc]
            have aF : agn 8 (h3 78) (setF (h 78) x.toNat (u : Int)) := by rw [hh3]; exact setF_up aw9
            obtain ⟨i3, o3⟩ := put78_in hm q2 e3 aF (fun j hj => by unfold setF; have := hm.2.1.2.1 j hj; split <;> omega)
            refine zV_aload_nr dX6_toDrink_53 rfl rfl ?_
            refine zV_callV (As := []) lk6_433 (rfl) rfl rfl (c6_nextVerdict (n := n) (jn := jn) 11 0 (by decide) i3.1 i3.2.1 i3.2.2) ⟨by show _ + 1 ≤ 12; omega, by show _ ≤ 4; omega⟩ rfl (Nat.le_of_ble_eq_true rfl) dX6_toDrink_54 (fun _ _ z => z.elim) (fun r h4 q => ?_)
            obtain ⟨rfl, nv4⟩ := q
            rw [o3]
            obtain ⟨q4, a4⟩ := put_out (by omega) q2 e3 aF nv4.1
            have z4 : h4 64 4 = 0 := by rw [nv4.2.1, hh3, zup_fn (by decide)]; exact z2
            refine zV_iload_n dX6_toDrink_57 rfl rfl ?_
            refine zR_icmp_ne (tgt := 65) dX6_toDrink_58 (by decide) (by have := oneV_lo n jn (gTh (gM h) (setF (h 78) x.toNat (u : Int))) (h 64 32) (h 80); omega) hy (fun h58 => ?_) (fun h58 => ?_)
            · refine zV_iinc dX6_toDrink_65 rfl (Nat.le_of_ble_eq_true rfl) rfl ?_
              refine zV_goto (tgt := 40) dX6_toDrink_68 (by decide) ?_
              refine zV_lveq (lv' := [zrv E 64, ziv x, ziv y, ziv (h 78 x.toNat), ziv (fstB (fun v => decide (oneV n jn (gTh (gM h) (setF (h 78) x.toNat (v : Int))) (h 64 32) (h 80) = y)) u (31 - u)), ziv ((u : Int) - 1)]) (by show _ = [zrv E 64, ziv x, ziv y, ziv (h 78 x.toNat), ziv (fstB (fun v => decide (oneV n jn (gTh (gM h) (setF (h 78) x.toNat (v : Int))) (h 64 32) (h 80) = y)) (u + 1) (31 - (u + 1))), ziv ((u : Int) + -1)]; rw [show 31 - u = 31 - (u + 1) + 1 by omega, fstB_s, if_neg (fun z => h58 (of_decide_eq_true z))]; rfl) ?_
              exact ih u h4 (by omega) (by omega) q4 ⟨_, a4⟩ z4
            · refine zV_iload dX6_toDrink_61 rfl ?_
              refine zV_istore dX6_toDrink_63 (Nat.le_of_ble_eq_true rfl) rfl ?_
              refine zV_iinc dX6_toDrink_65 rfl (Nat.le_of_ble_eq_true rfl) rfl ?_
              refine zV_goto (tgt := 40) dX6_toDrink_68 (by decide) ?_
              refine zV_lveq (lv' := [zrv E 64, ziv x, ziv y, ziv (h 78 x.toNat), ziv (fstB (fun v => decide (oneV n jn (gTh (gM h) (setF (h 78) x.toNat (v : Int))) (h 64 32) (h 80) = y)) u (31 - u)), ziv ((u : Int) - 1)]) (by show _ = [zrv E 64, ziv x, ziv y, ziv (h 78 x.toNat), ziv (u : Int), ziv ((u : Int) + -1)]; rw [show 31 - u = 31 - (u + 1) + 1 by omega, fstB_s, if_pos (decide_eq_true h58)]; rfl) ?_
              exact ih u h4 (by omega) (by omega) q4 ⟨_, a4⟩ z4
      exact L40 32 31 h0 (by omega) (by omega) (put_0 (by omega) q0) ⟨h 78 x.toNat, by rw [setF_id, e0 78 (by decide)]; exact agn_rfl _ _⟩ z0
    · have n17 := ipF h17
      refine zV_aload_nr dX6_toDrink_20 rfl rfl ?_
      refine zV_iconst dX6_toDrink_21 ?_
      refine zV_callV (As := [ziv 1]) lk6_300 (rfl) rfl rfl (c6_fail 11 0) ⟨by show _ + 1 ≤ 12; omega, by show _ ≤ 4; omega⟩ rfl (Nat.le_of_ble_eq_true rfl) dX6_toDrink_22 (fun _ _ z => z.elim) (fun r h9 q => ?_)
      obtain ⟨rfl, hh⟩ := q
      rw [hh]
      clear hh
      exact zV_ireturn dX6_toDrink_25 rfl (Nat.zero_le _) (mA_f q0 (by decide) (by rw [if_neg (by omega)]))
set_option maxRecDepth 100000 in
theorem c6_toLay {E : zE} {h : zH} {n jn : Nat} {x y : Int} (hx : -2147483648 ≤ x ∧ x ≤ 2147483647) (hy : -2147483648 ≤ y ∧ y ≤ 2147483647) (hm : mInv h n jn) : zCal E mX6_toLay 12 4 [zrv E 64, ziv x, ziv y] h (mA h (if (0 ≤ x ∧ x < n) ∧ (0 ≤ y ∧ y < 5) then 0 else 1) (fstB (fun v => decide (oneV n jn (gM h) (h 64 32) (setF (h 80) x.toNat (v : Int)) = y)) 0 12)) (fun _ _ => False) := by
  refine zCal_of (by decide) (Nat.le_of_ble_eq_true rfl) (fun a => ?_)
  show zV _ 0 0 [zrv E 64, ziv x, ziv y, .null, .null, .null] [] _
  refine zV_aload_nr dX6_toLay_0 rfl rfl ?_
  refine zV_iconst dX6_toLay_1 ?_
  refine pf6_157 rfl (rfl) dX6_toLay_2 ?_
  obtain ⟨h0, hh0, q0, z0, i0, e0, e4, r0, g0⟩ := st0 hm
  rw [hh0]
  refine zV_aload_nr dX6_toLay_5 rfl rfl ?_
  refine zV_iload_n dX6_toLay_6 rfl rfl ?_
  refine zV_callV (As := [ziv x]) lk6_382 (rfl) rfl rfl (c6_isLeaf (jn := jn) 11 0 (by decide) hx i0.1.1.2.2.1 i0.1.1.1) ⟨by show _ + 1 ≤ 12; omega, by show _ ≤ 4; omega⟩ rfl (Nat.le_of_ble_eq_true rfl) dX6_toLay_7 (fun _ _ z => z.elim) (fun r h9 q => ?_)
  obtain ⟨rfl, hh⟩ := q
  rw [hh]
  clear hh
  refine zR_if_eq (tgt := 20) dX6_toLay_10 (by decide) (by split <;> omega) (fun h10 => ?_) (fun h10 => ?_)
  · have n10 := ipF h10
    refine zV_aload_nr dX6_toLay_20 rfl rfl ?_
    refine zV_iconst dX6_toLay_21 ?_
    refine zV_callV (As := [ziv 1]) lk6_300 (rfl) rfl rfl (c6_fail 11 0) ⟨by show _ + 1 ≤ 12; omega, by show _ ≤ 4; omega⟩ rfl (Nat.le_of_ble_eq_true rfl) dX6_toLay_22 (fun _ _ z => z.elim) (fun r h9 q => ?_)
    obtain ⟨rfl, hh⟩ := q
    rw [hh]
    clear hh
    exact zV_ireturn dX6_toLay_25 rfl (Nat.zero_le _) (mA_f q0 (by decide) (by rw [if_neg (by omega)]))
  · have y10 := ipT h10
    refine zV_iload_n dX6_toLay_13 rfl rfl ?_
    refine zV_callS (As := [ziv y]) lk6_427 (c6_isVerdict 11 0 (by decide) hy) ⟨by show _ + 1 ≤ 12; omega, by show _ ≤ 4; omega⟩ rfl (Nat.le_of_ble_eq_true rfl) dX6_toLay_14 (fun _ _ z => z.elim) (fun r h9 q => ?_)
    obtain ⟨rfl, hh⟩ := q
    rw [hh]
    clear hh
    refine zR_if_ne (tgt := 26) dX6_toLay_17 (by decide) (by split <;> omega) (fun h17 => ?_) (fun h17 => ?_)
    · have y17 := ipT h17
      have b8 := i0.1.1.1
      refine zV_aload_nr dX6_toLay_26 rfl rfl ?_
      refine gf6_82 rfl (rfl) dX6_toLay_27 ?_
      refine zV_teq (w := zrv E 80) rfl ?_
      refine zV_iload_n dX6_toLay_30 rfl rfl ?_
      refine zV_iaload (N := 8) (rfl) (by omega) (by decide) dX6_toLay_31 ?_
      rw [e0 80 (by decide)]
      refine zV_istore_n dX6_toLay_32 rfl (Nat.le_of_ble_eq_true rfl) rfl ?_
      refine zV_iconst dX6_toLay_33 ?_
      refine zV_istore dX6_toLay_34 (Nat.le_of_ble_eq_true rfl) rfl ?_
      refine zV_bipush dX6_toLay_36 (by decide) ?_
      refine zV_istore dX6_toLay_38 (Nat.le_of_ble_eq_true rfl) rfl ?_
      have L40 : ∀ (m : Nat) (s : Nat) (h2 : zH), (s + 1 ≤ m) → (s ≤ 12) → (mq h (zst h2 80 (h 80))) → (∃ w, agn 8 (h2 80) (setF (h 80) x.toNat w)) → (h2 64 4 = 0) → zV (E, mX6_toLay, 12, 4, (mA h (if (0 ≤ x ∧ x < n) ∧ (0 ≤ y ∧ y < 5) then 0 else 1) (fstB (fun v => decide (oneV n jn (gM h) (h 64 32) (setF (h 80) x.toNat (v : Int)) = y)) 0 12)), (fun _ _ => False), a) 0 40 [zrv E 64, ziv x, ziv y, ziv (h 80 x.toNat), ziv (fstB (fun v => decide (oneV n jn (gM h) (h 64 32) (setF (h 80) x.toNat (v : Int)) = y)) s (12 - s)), ziv ((s : Int) - 1)] [] h2 := by
        intro m
        induction m with
        | zero => intro s h2 hm_ hs q2 e2 z2; exfalso; omega
        | succ m ih =>
          intro s h2 hm_ hs q2 e2 z2
          refine zV_iload dX6_toLay_40 rfl ?_
          refine zR_if_lt (tgt := 71) dX6_toLay_42 (by decide) (by omega) (fun h42 => ?_) (fun h42 => ?_)
          · refine zV_aload_nr dX6_toLay_71 rfl rfl ?_
            refine gf6_82 rfl (rfl) dX6_toLay_72 ?_
            refine zV_teq (w := zrv E 80) rfl ?_
            refine zV_iload_n dX6_toLay_75 rfl rfl ?_
            refine zV_iload_n dX6_toLay_76 rfl rfl ?_
            refine zV_iastore (N := 8) (rfl) (by omega) (by decide) dX6_toLay_77 ?_
            refine zV_iload dX6_toLay_78 rfl ?_
            exact zV_ireturn dX6_toLay_80 rfl (Nat.zero_le _) (mA_ok (put_end (c := 80) (by omega) q2 (fun c2 hc => zup_fn hc) (by obtain ⟨w9, aw9⟩ := e2; have := setF_up (t := h 80 x.toNat) aw9; rw [setF_id] at this; exact this)) (by rw [zup_fn (by decide)]; exact z2) (by rw [if_pos (by omega)]) (by rw [show s = 0 by omega]))
          · obtain ⟨u, rfl⟩ : ∃ u, s = u + 1 := ⟨s - 1, by omega⟩
            refine zV_lveq (lv' := [zrv E 64, ziv x, ziv y, ziv (h 80 x.toNat), ziv (fstB (fun v => decide (oneV n jn (gM h) (h 64 32) (setF (h 80) x.toNat (v : Int)) = y)) (u + 1) (12 - (u + 1))), ziv (u : Int)]) (by rw [show (((u + 1 : Nat) : Int) - 1) = (u : Int) by omega]) ?_
            refine zV_aload_nr dX6_toLay_45 rfl rfl ?_
            refine gf6_82 rfl (rfl) dX6_toLay_46 ?_
            refine zV_teq (w := zrv E 80) rfl ?_
            refine zV_iload_n dX6_toLay_49 rfl rfl ?_
            refine zV_iload dX6_toLay_50 rfl ?_
            refine zV_iastore (N := 8) (rfl) (by omega) (by decide) dX6_toLay_52 ?_
            obtain ⟨h3, hh3⟩ : ∃ h3, h3 = zup h2 80 x.toNat (u : Int) := ⟨_, rfl⟩
            rw [← hh3]
            obtain ⟨w9, aw9⟩ := e2
            have e3 : ∀ c2 : Nat, c2 ≠ 80 → h3 c2 = h2 c2 := fun c2 hc => by rw [hh3, zup_fn hc]
            have aF : agn 8 (h3 80) (setF (h 80) x.toNat (u : Int)) := by rw [hh3]; exact setF_up aw9
            obtain ⟨i3, o3⟩ := put80_in hm q2 e3 aF (fun j hj => by unfold setF; have := hm.2.1.1 j hj; split <;> omega)
            refine zV_aload_nr dX6_toLay_53 rfl rfl ?_
            refine zV_callV (As := []) lk6_433 (rfl) rfl rfl (c6_nextVerdict (n := n) (jn := jn) 11 0 (by decide) i3.1 i3.2.1 i3.2.2) ⟨by show _ + 1 ≤ 12; omega, by show _ ≤ 4; omega⟩ rfl (Nat.le_of_ble_eq_true rfl) dX6_toLay_54 (fun _ _ z => z.elim) (fun r h4 q => ?_)
            obtain ⟨rfl, nv4⟩ := q
            rw [o3]
            obtain ⟨q4, a4⟩ := put_out (by omega) q2 e3 aF nv4.1
            have z4 : h4 64 4 = 0 := by rw [nv4.2.1, hh3, zup_fn (by decide)]; exact z2
            refine zV_iload_n dX6_toLay_57 rfl rfl ?_
            refine zR_icmp_ne (tgt := 65) dX6_toLay_58 (by decide) (by have := oneV_lo n jn (gM h) (h 64 32) (setF (h 80) x.toNat (u : Int)); omega) hy (fun h58 => ?_) (fun h58 => ?_)
            · refine zV_iinc dX6_toLay_65 rfl (Nat.le_of_ble_eq_true rfl) rfl ?_
              refine zV_goto (tgt := 40) dX6_toLay_68 (by decide) ?_
              refine zV_lveq (lv' := [zrv E 64, ziv x, ziv y, ziv (h 80 x.toNat), ziv (fstB (fun v => decide (oneV n jn (gM h) (h 64 32) (setF (h 80) x.toNat (v : Int)) = y)) u (12 - u)), ziv ((u : Int) - 1)]) (by show _ = [zrv E 64, ziv x, ziv y, ziv (h 80 x.toNat), ziv (fstB (fun v => decide (oneV n jn (gM h) (h 64 32) (setF (h 80) x.toNat (v : Int)) = y)) (u + 1) (12 - (u + 1))), ziv ((u : Int) + -1)]; rw [show 12 - u = 12 - (u + 1) + 1 by omega, fstB_s, if_neg (fun z => h58 (of_decide_eq_true z))]; rfl) ?_
              exact ih u h4 (by omega) (by omega) q4 ⟨_, a4⟩ z4
            · refine zV_iload dX6_toLay_61 rfl ?_
              refine zV_istore dX6_toLay_63 (Nat.le_of_ble_eq_true rfl) rfl ?_
              refine zV_iinc dX6_toLay_65 rfl (Nat.le_of_ble_eq_true rfl) rfl ?_
              refine zV_goto (tgt := 40) dX6_toLay_68 (by decide) ?_
              refine zV_lveq (lv' := [zrv E 64, ziv x, ziv y, ziv (h 80 x.toNat), ziv (fstB (fun v => decide (oneV n jn (gM h) (h 64 32) (setF (h 80) x.toNat (v : Int)) = y)) u (12 - u)), ziv ((u : Int) - 1)]) (by show _ = [zrv E 64, ziv x, ziv y, ziv (h 80 x.toNat), ziv (u : Int), ziv ((u : Int) + -1)]; rw [show 12 - u = 12 - (u + 1) + 1 by omega, fstB_s, if_pos (decide_eq_true h58)]; rfl) ?_
              exact ih u h4 (by omega) (by omega) q4 ⟨_, a4⟩ z4
      exact L40 13 12 h0 (by omega) (by omega) (put_0 (by omega) q0) ⟨h 80 x.toNat, by rw [setF_id, e0 80 (by decide)]; exact agn_rfl _ _⟩ z0
    · have n17 := ipF h17
      refine zV_aload_nr dX6_toLay_20 rfl rfl ?_
      refine zV_iconst dX6_toLay_21 ?_
      refine zV_callV (As := [ziv 1]) lk6_300 (rfl) rfl rfl (c6_fail 11 0) ⟨by show _ + 1 ≤ 12; omega, by show _ ≤ 4; omega⟩ rfl (Nat.le_of_ble_eq_true rfl) dX6_toLay_22 (fun _ _ z => z.elim) (fun r h9 q => ?_)
      obtain ⟨rfl, hh⟩ := q
      rw [hh]
      clear hh
      exact zV_ireturn dX6_toLay_25 rfl (Nat.zero_le _) (mA_f q0 (by decide) (by rw [if_neg (by omega)]))
set_option maxRecDepth 100000 in
theorem c6_toPour {E : zE} {h : zH} {n jn : Nat} {y : Int} (hy : -2147483648 ≤ y ∧ y ≤ 2147483647) (hm : mInv h n jn) : zCal E mX6_toPour 12 4 [zrv E 64, ziv y] h (mA h (if 0 ≤ y ∧ y < 5 then 0 else 1) (fstB (fun v => decide (oneV n jn (gPo (gM h) (v : Int)) (h 64 32) (h 80) = y)) 0 100)) (fun _ _ => False) := by
  refine zCal_of (by decide) (Nat.le_of_ble_eq_true rfl) (fun a => ?_)
  show zV _ 0 0 [zrv E 64, ziv y, .null, .null, .null] [] _
  refine zV_aload_nr dX6_toPour_0 rfl rfl ?_
  refine zV_iconst dX6_toPour_1 ?_
  refine pf6_157 rfl (rfl) dX6_toPour_2 ?_
  obtain ⟨h0, hh0, q0, z0, i0, e0, e4, r0, g0⟩ := st0 hm
  rw [hh0]
  refine zV_iload_n dX6_toPour_5 rfl rfl ?_
  refine zV_callS (As := [ziv y]) lk6_427 (c6_isVerdict 11 0 (by decide) hy) ⟨by show _ + 1 ≤ 12; omega, by show _ ≤ 4; omega⟩ rfl (Nat.le_of_ble_eq_true rfl) dX6_toPour_6 (fun _ _ z => z.elim) (fun r h9 q => ?_)
  obtain ⟨rfl, hh⟩ := q
  rw [hh]
  clear hh
  refine zR_if_ne (tgt := 18) dX6_toPour_9 (by decide) (by split <;> omega) (fun h9 => ?_) (fun h9 => ?_)
  · have y9 := ipT h9
    refine zV_aload_nr dX6_toPour_18 rfl rfl ?_
    refine gf6_151 rfl rfl dX6_toPour_19 ?_
    rw [e4 33 (by decide)]
    refine zV_istore_n dX6_toPour_22 rfl (Nat.le_of_ble_eq_true rfl) rfl ?_
    refine zV_iconst dX6_toPour_23 ?_
    refine zV_istore_n dX6_toPour_24 rfl (Nat.le_of_ble_eq_true rfl) rfl ?_
    refine zV_bipush dX6_toPour_25 (by decide) ?_
    refine zV_istore dX6_toPour_27 (Nat.le_of_ble_eq_true rfl) rfl ?_
    have L29 : ∀ (m : Nat) (s : Nat) (h2 : zH), (s + 1 ≤ m) → (s ≤ 100) → (mq h (zup h2 64 33 (h 64 33))) → (h2 64 4 = 0) → zV (E, mX6_toPour, 12, 4, (mA h (if 0 ≤ y ∧ y < 5 then 0 else 1) (fstB (fun v => decide (oneV n jn (gPo (gM h) (v : Int)) (h 64 32) (h 80) = y)) 0 100)), (fun _ _ => False), a) 0 29 [zrv E 64, ziv y, ziv (h 64 33), ziv (fstB (fun v => decide (oneV n jn (gPo (gM h) (v : Int)) (h 64 32) (h 80) = y)) s (100 - s)), ziv ((s : Int) - 1)] [] h2 := by
      intro m
      induction m with
      | zero => intro s h2 hm_ hs q2 z2; exfalso; omega
      | succ m ih =>
        intro s h2 hm_ hs q2 z2
        refine zV_iload dX6_toPour_29 rfl ?_
        refine zR_if_lt (tgt := 57) dX6_toPour_31 (by decide) (by omega) (fun h31 => ?_) (fun h31 => ?_)
        · refine zV_aload_nr dX6_toPour_57 rfl rfl ?_
          refine zV_iload_n dX6_toPour_58 rfl rfl ?_
          refine pf6_151 rfl (rfl) dX6_toPour_59 ?_
          refine zV_iload_n dX6_toPour_62 rfl rfl ?_
          exact zV_ireturn dX6_toPour_63 rfl (Nat.zero_le _) (mA_ok q2 (by rw [zup_at, if_neg (by decide)]; exact z2) (by rw [if_pos (by omega)]) (by rw [show s = 0 by omega]))
        · obtain ⟨u, rfl⟩ : ∃ u, s = u + 1 := ⟨s - 1, by omega⟩
          refine zV_lveq (lv' := [zrv E 64, ziv y, ziv (h 64 33), ziv (fstB (fun v => decide (oneV n jn (gPo (gM h) (v : Int)) (h 64 32) (h 80) = y)) (u + 1) (100 - (u + 1))), ziv (u : Int)]) (by rw [show (((u + 1 : Nat) : Int) - 1) = (u : Int) by omega]) ?_
          refine zV_aload_nr dX6_toPour_34 rfl rfl ?_
          refine zV_iload dX6_toPour_35 rfl ?_
          refine pf6_151 rfl (rfl) dX6_toPour_37 ?_
          obtain ⟨h3, hh3⟩ : ∃ h3, h3 = zup h2 64 33 (u : Int) := ⟨_, rfl⟩
          rw [← hh3]
          obtain ⟨i3, o3⟩ := pour_in hm q2 hh3 (by omega)
          refine zV_aload_nr dX6_toPour_40 rfl rfl ?_
          refine zV_callV (As := []) lk6_433 (rfl) rfl rfl (c6_nextVerdict (n := n) (jn := jn) 11 0 (by decide) i3.1 i3.2.1 i3.2.2) ⟨by show _ + 1 ≤ 12; omega, by show _ ≤ 4; omega⟩ rfl (Nat.le_of_ble_eq_true rfl) dX6_toPour_41 (fun _ _ z => z.elim) (fun r h4 q => ?_)
          obtain ⟨rfl, nv4⟩ := q
          rw [o3]
          have q4 := pour_out q2 hh3 nv4.1
          have z4 : h4 64 4 = 0 := by rw [nv4.2.1, hh3, zup_at, if_neg (by decide)]; exact z2
          refine zV_iload_n dX6_toPour_44 rfl rfl ?_
          refine zR_icmp_ne (tgt := 51) dX6_toPour_45 (by decide) (by have := oneV_lo n jn (gPo (gM h) (u : Int)) (h 64 32) (h 80); omega) hy (fun h45 => ?_) (fun h45 => ?_)
          · refine zV_iinc dX6_toPour_51 rfl (Nat.le_of_ble_eq_true rfl) rfl ?_
            refine zV_goto (tgt := 29) dX6_toPour_54 (by decide) ?_
            refine zV_lveq (lv' := [zrv E 64, ziv y, ziv (h 64 33), ziv (fstB (fun v => decide (oneV n jn (gPo (gM h) (v : Int)) (h 64 32) (h 80) = y)) u (100 - u)), ziv ((u : Int) - 1)]) (by show _ = [zrv E 64, ziv y, ziv (h 64 33), ziv (fstB (fun v => decide (oneV n jn (gPo (gM h) (v : Int)) (h 64 32) (h 80) = y)) (u + 1) (100 - (u + 1))), ziv ((u : Int) + -1)]; rw [show 100 - u = 100 - (u + 1) + 1 by omega, fstB_s, if_neg (fun z => h45 (of_decide_eq_true z))]; rfl) ?_
            exact ih u h4 (by omega) (by omega) q4 z4
          · refine zV_iload dX6_toPour_48 rfl ?_
            refine zV_istore_n dX6_toPour_50 rfl (Nat.le_of_ble_eq_true rfl) rfl ?_
            refine zV_iinc dX6_toPour_51 rfl (Nat.le_of_ble_eq_true rfl) rfl ?_
            refine zV_goto (tgt := 29) dX6_toPour_54 (by decide) ?_
            refine zV_lveq (lv' := [zrv E 64, ziv y, ziv (h 64 33), ziv (fstB (fun v => decide (oneV n jn (gPo (gM h) (v : Int)) (h 64 32) (h 80) = y)) u (100 - u)), ziv ((u : Int) - 1)]) (by show _ = [zrv E 64, ziv y, ziv (h 64 33), ziv (u : Int), ziv ((u : Int) + -1)]; rw [show 100 - u = 100 - (u + 1) + 1 by omega, fstB_s, if_pos (decide_eq_true h45)]; rfl) ?_
            exact ih u h4 (by omega) (by omega) q4 z4
    exact L29 101 100 h0 (by omega) (by omega) (pour_0 q0) z0
  · have n9 := ipF h9
    refine zV_aload_nr dX6_toPour_12 rfl rfl ?_
    refine zV_iconst dX6_toPour_13 ?_
    refine zV_callV (As := [ziv 1]) lk6_300 (rfl) rfl rfl (c6_fail 11 0) ⟨by show _ + 1 ≤ 12; omega, by show _ ≤ 4; omega⟩ rfl (Nat.le_of_ble_eq_true rfl) dX6_toPour_14 (fun _ _ z => z.elim) (fun r h9 q => ?_)
    obtain ⟨rfl, hh⟩ := q
    rw [hh]
    clear hh
    exact zV_ireturn dX6_toPour_17 rfl (Nat.zero_le _) (mA_f q0 (by decide) (by rw [if_neg (by omega)]))
set_option maxRecDepth 100000 in
theorem c6_better {E : zE} {h : zH} {n jn : Nat} {x : Int} (hx : -2147483648 ≤ x ∧ x ≤ 2147483647) (hpm : permM (h 81) jn) (hm : mInv h n jn) : zCal E mX6_better 12 4 [zrv E 64, ziv x] h (mA h (if 0 ≤ x ∧ x < jn then 0 else 1) (if oneV n jn (gM h) (h 64 32) (h 80) = h 74 x.toNat then -1 else fstB (fun v => decide ((v : Int) ≠ x ∧ oneV n jn (gSe (gM h) (swapP (h 81) x (v : Int) jn)) (h 64 32) (h 80) = h 74 x.toNat)) 0 jn)) (fun _ _ => False) := by
  refine zCal_of (by decide) (Nat.le_of_ble_eq_true rfl) (fun a => ?_)
  show zV _ 0 0 [zrv E 64, ziv x, .null, .null] [] _
  refine zV_aload_nr dX6_better_0 rfl rfl ?_
  refine zV_iconst dX6_better_1 ?_
  refine pf6_157 rfl (rfl) dX6_better_2 ?_
  obtain ⟨h0, hh0, q0, z0, i0, e0, e4, r0, g0⟩ := st0 hm
  rw [hh0]
  refine zV_aload_nr dX6_better_5 rfl rfl ?_
  refine zV_iload_n dX6_better_6 rfl rfl ?_
  refine zV_callV (As := [ziv x]) lk6_385 (rfl) rfl rfl (c6_isJudge (jn := jn) 11 0 (by decide) hx i0.1.1.2.2.2 i0.1.1.2.1) ⟨by show _ + 1 ≤ 12; omega, by show _ ≤ 4; omega⟩ rfl (Nat.le_of_ble_eq_true rfl) dX6_better_7 (fun _ _ z => z.elim) (fun r h9 q => ?_)
  obtain ⟨rfl, hh⟩ := q
  rw [hh]
  clear hh
  refine zR_if_ne (tgt := 19) dX6_better_10 (by decide) (by split <;> omega) (fun h10 => ?_) (fun h10 => ?_)
  · have y10 := ipT h10
    have j8 := i0.1.1.2.1
    have w9 := hm.1.2.2.2.1 x.toNat (by omega)
    refine zV_aload_nr dX6_better_19 rfl rfl ?_
    refine zV_callV (As := []) lk6_433 (rfl) rfl rfl (c6_nextVerdict (n := n) (jn := jn) 11 0 (by decide) i0.1 i0.2.1 i0.2.2) ⟨by show _ + 1 ≤ 12; omega, by show _ ≤ 4; omega⟩ rfl (Nat.le_of_ble_eq_true rfl) dX6_better_20 (fun _ _ z => z.elim) (fun r hA q => ?_)
    obtain ⟨rfl, nvA⟩ := q
    have mqA := mq_trans q0 nvA.1
    have o0 := (oneM_q hm q0).2
    rw [o0]
    refine zV_aload_nr dX6_better_23 rfl rfl ?_
    refine gf6_61 rfl (rfl) dX6_better_24 ?_
    refine zV_teq (w := zrv E 74) rfl ?_
    refine zV_iload_n dX6_better_27 rfl rfl ?_
    refine zV_iaload (N := 16) (rfl) (by omega) (by decide) dX6_better_28 ?_
    refine zV_teq (w := ziv (h 74 x.toNat)) (congrArg ziv (by rw [mqA.1 74 (by omega)])) ?_
    refine zR_icmp_ne (tgt := 34) dX6_better_29 (by decide) (by have := oneV_lo n jn (gM h) (h 64 32) (h 80); unfold oneM; omega) (by omega) (fun h29 => ?_) (fun h29 => ?_)
    · refine zV_iconst dX6_better_34 ?_
      refine zV_istore_n dX6_better_35 rfl (Nat.le_of_ble_eq_true rfl) rfl ?_
      refine zV_aload_nr dX6_better_36 rfl rfl ?_
      refine gf6_42 rfl (rfl) dX6_better_37 ?_
      refine zV_teq (w := zrv E 68) rfl ?_
      refine zV_iconst dX6_better_40 ?_
      refine zV_ialoadN (i := 1) (N := 10) (rfl) (by decide) (by decide) dX6_better_41 ?_
      refine zV_teq (w := ziv (jn : Int)) (congrArg ziv (by rw [mqA.1 68 (by omega)]; exact hm.1.1.2.2.2.symm)) ?_
      refine zV_iconst dX6_better_42 ?_
      refine zV_isub dX6_better_43 ?_
      refine zV_istore_n dX6_better_44 rfl (Nat.le_of_ble_eq_true rfl) rfl ?_
      have L45 : ∀ (m : Nat) (s : Nat) (h2 : zH), (s + 1 ≤ m) → (s ≤ jn) → (mq h h2) → (h2 64 4 = 0) → zV (E, mX6_better, 12, 4, (mA h (if 0 ≤ x ∧ x < jn then 0 else 1) (if oneV n jn (gM h) (h 64 32) (h 80) = h 74 x.toNat then -1 else fstB (fun v => decide ((v : Int) ≠ x ∧ oneV n jn (gSe (gM h) (swapP (h 81) x (v : Int) jn)) (h 64 32) (h 80) = h 74 x.toNat)) 0 jn)), (fun _ _ => False), a) 0 45 [zrv E 64, ziv x, ziv (fstB (fun v => decide ((v : Int) ≠ x ∧ oneV n jn (gSe (gM h) (swapP (h 81) x (v : Int) jn)) (h 64 32) (h 80) = h 74 x.toNat)) s (jn - s)), ziv ((s : Int) - 1)] [] h2 := by
        intro m
        induction m with
        | zero => intro s h2 hm_ hs mq2 z2; exfalso; omega
        | succ m ih =>
          intro s h2 hm_ hs mq2 z2
          obtain ⟨i2, o2⟩ := oneM_q hm mq2
          refine zV_iload_n dX6_better_45 rfl rfl ?_
          refine zR_if_lt (tgt := 90) dX6_better_46 (by decide) (by omega) (fun h46 => ?_) (fun h46 => ?_)
          · refine zV_iload_n dX6_better_90 rfl rfl ?_
            exact zV_ireturn dX6_better_91 rfl (Nat.zero_le _) (mA_ok mq2 z2 (by rw [if_pos (by omega)]) (by unfold oneM at h29; rw [if_neg h29, show s = 0 by omega]; rfl))
          · obtain ⟨u, rfl⟩ : ∃ u, s = u + 1 := ⟨s - 1, by omega⟩
            refine zV_lveq (lv' := [zrv E 64, ziv x, ziv (fstB (fun v => decide ((v : Int) ≠ x ∧ oneV n jn (gSe (gM h) (swapP (h 81) x (v : Int) jn)) (h 64 32) (h 80) = h 74 x.toNat)) (u + 1) (jn - (u + 1))), ziv (u : Int)]) (by rw [show (((u + 1 : Nat) : Int) - 1) = (u : Int) by omega]) ?_
            refine zV_iload_n dX6_better_49 rfl rfl ?_
            refine zV_iload_n dX6_better_50 rfl rfl ?_
            refine zR_icmp_ne (tgt := 57) dX6_better_51 (by decide) (by omega) (by omega) (fun h51 => ?_) (fun h51 => ?_)
            · obtain ⟨p, p1, p2⟩ := hpm.2 u (by omega)
              obtain ⟨r, r1, r2⟩ := hpm.2 x.toNat (by omega)
              have r2 : h 81 r = x := by rw [r2]; omega
              refine zV_aload_nr dX6_better_57 rfl rfl ?_
              refine zV_iload_n dX6_better_58 rfl rfl ?_
              refine zV_iload_n dX6_better_59 rfl rfl ?_
              refine zV_callV (As := [ziv (u : Int), ziv x]) lk6_411 (rfl) rfl rfl (c6_swap (jn := jn) 11 0 (by decide) (by omega) (by omega) i2.1.1.2.2.2 i2.1.1.2.1 i2.2.1.2.2.2.1 (perm2 mq2 j8 hpm).2) ⟨by show _ + 1 ≤ 12; omega, by show _ ≤ 4; omega⟩ rfl (Nat.le_of_ble_eq_true rfl) dX6_better_60 (fun _ _ z => z.elim) (fun r h3 q => ?_)
              obtain ⟨rfl, hh3⟩ := q
              have a81 : agn 8 (h2 81) (h 81) := mq2.2.1 81 (by omega)
              have aF : agn 8 (h3 81) (swapP (h 81) (u : Int) x jn) := by rw [hh3, zst_same]; exact swapP_agn j8 hpm.1 p1 r1 p2 r2 a81
              have pm3 := swapP_perm hpm p1 r1 p2 r2
              have e3 : ∀ c2 : Nat, c2 ≠ 81 → h3 c2 = h2 c2 := fun c2 hc => by rw [hh3, zst_ne hc]
              obtain ⟨i3, o3⟩ := put81_in hm (put_0 (by omega) mq2) e3 aF (fun j hj => by rw [swapP_at hpm.1 p1 r1 p2 r2]; have := hm.2.1.2.2.2.1 j hj; split; omega; split <;> omega)
              refine zV_aload_nr dX6_better_63 rfl rfl ?_
              refine zV_callV (As := []) lk6_433 (rfl) rfl rfl (c6_nextVerdict (n := n) (jn := jn) 11 0 (by decide) i3.1 i3.2.1 i3.2.2) ⟨by show _ + 1 ≤ 12; omega, by show _ ≤ 4; omega⟩ rfl (Nat.le_of_ble_eq_true rfl) dX6_better_64 (fun _ _ z => z.elim) (fun r h4 q => ?_)
              obtain ⟨rfl, nv4⟩ := q
              rw [o3]
              obtain ⟨q4, a4⟩ := put_out (by omega) (put_0 (by omega) mq2) e3 aF nv4.1
              obtain ⟨i4, -⟩ := oneM_q i3 nv4.1
              have sc := swapP_comm hpm.1 p1 r1 p2 r2
              refine zV_aload_nr dX6_better_67 rfl rfl ?_
              refine gf6_61 rfl (rfl) dX6_better_68 ?_
              refine zV_teq (w := zrv E 74) rfl ?_
              refine zV_iload_n dX6_better_71 rfl rfl ?_
              refine zV_iaload (N := 16) (rfl) (by omega) (by decide) dX6_better_72 ?_
              refine zV_teq (w := ziv (h 74 x.toNat)) (congrArg ziv (by rw [nv4.1.1 74 (by omega), e3 74 (by decide), mq2.1 74 (by omega)])) ?_
              refine zR_icmp_ne (tgt := 78) dX6_better_73 (by decide) (by have := oneV_lo n jn (gSe (gM h) (swapP (h 81) (u : Int) x jn)) (h 64 32) (h 80); omega) (by omega) (fun h73 => ?_) (fun h73 => ?_)
              · refine zV_aload_nr dX6_better_78 rfl rfl ?_
                refine zV_iload_n dX6_better_79 rfl rfl ?_
                refine zV_iload_n dX6_better_80 rfl rfl ?_
                refine zV_callV (As := [ziv (u : Int), ziv x]) lk6_411 (rfl) rfl rfl (c6_swap (jn := jn) 11 0 (by decide) (by omega) (by omega) i4.1.1.2.2.2 i4.1.1.2.1 i4.2.1.2.2.2.1 (perm_agn8 j8 a4 pm3).2) ⟨by show _ + 1 ≤ 12; omega, by show _ ≤ 4; omega⟩ rfl (Nat.le_of_ble_eq_true rfl) dX6_better_81 (fun _ _ z => z.elim) (fun r h5 q => ?_)
                obtain ⟨rfl, hh5⟩ := q
                have mq5 : mq h h5 := put_end (c := 81) (by omega) q4 (fun c2 hc => by rw [hh5, zst_ne hc]) (by rw [hh5, zst_same]; exact swapP_twice j8 hpm p1 r1 p2 r2 a4)
                have z5 : h5 64 4 = 0 := by rw [hh5, zst_ne (by decide), nv4.2.1, hh3, zst_ne (by decide)]; exact z2
                refine zV_iinc dX6_better_84 rfl (Nat.le_of_ble_eq_true rfl) rfl ?_
                refine zV_goto (tgt := 45) dX6_better_87 (by decide) ?_
                refine zV_lveq (lv' := [zrv E 64, ziv x, ziv (fstB (fun v => decide ((v : Int) ≠ x ∧ oneV n jn (gSe (gM h) (swapP (h 81) x (v : Int) jn)) (h 64 32) (h 80) = h 74 x.toNat)) u (jn - u)), ziv ((u : Int) - 1)]) (by show _ = [zrv E 64, ziv x, ziv (fstB (fun v => decide ((v : Int) ≠ x ∧ oneV n jn (gSe (gM h) (swapP (h 81) x (v : Int) jn)) (h 64 32) (h 80) = h 74 x.toNat)) (u + 1) (jn - (u + 1))), ziv ((u : Int) + -1)]; rw [show jn - u = jn - (u + 1) + 1 by omega, fstB_s, if_neg (fun z => h73 (by rw [sc]; exact (of_decide_eq_true z).2))]; rfl) ?_
                exact ih u h5 (by omega) (by omega) mq5 z5
              · refine zV_iload_n dX6_better_76 rfl rfl ?_
                refine zV_istore_n dX6_better_77 rfl (Nat.le_of_ble_eq_true rfl) rfl ?_
                refine zV_aload_nr dX6_better_78 rfl rfl ?_
                refine zV_iload_n dX6_better_79 rfl rfl ?_
                refine zV_iload_n dX6_better_80 rfl rfl ?_
                refine zV_callV (As := [ziv (u : Int), ziv x]) lk6_411 (rfl) rfl rfl (c6_swap (jn := jn) 11 0 (by decide) (by omega) (by omega) i4.1.1.2.2.2 i4.1.1.2.1 i4.2.1.2.2.2.1 (perm_agn8 j8 a4 pm3).2) ⟨by show _ + 1 ≤ 12; omega, by show _ ≤ 4; omega⟩ rfl (Nat.le_of_ble_eq_true rfl) dX6_better_81 (fun _ _ z => z.elim) (fun r h5 q => ?_)
                obtain ⟨rfl, hh5⟩ := q
                have mq5 : mq h h5 := put_end (c := 81) (by omega) q4 (fun c2 hc => by rw [hh5, zst_ne hc]) (by rw [hh5, zst_same]; exact swapP_twice j8 hpm p1 r1 p2 r2 a4)
                have z5 : h5 64 4 = 0 := by rw [hh5, zst_ne (by decide), nv4.2.1, hh3, zst_ne (by decide)]; exact z2
                refine zV_iinc dX6_better_84 rfl (Nat.le_of_ble_eq_true rfl) rfl ?_
                refine zV_goto (tgt := 45) dX6_better_87 (by decide) ?_
                refine zV_lveq (lv' := [zrv E 64, ziv x, ziv (fstB (fun v => decide ((v : Int) ≠ x ∧ oneV n jn (gSe (gM h) (swapP (h 81) x (v : Int) jn)) (h 64 32) (h 80) = h 74 x.toNat)) u (jn - u)), ziv ((u : Int) - 1)]) (by show _ = [zrv E 64, ziv x, ziv (u : Int), ziv ((u : Int) + -1)]; rw [show jn - u = jn - (u + 1) + 1 by omega, fstB_s, if_pos (decide_eq_true ⟨h51, by rw [← sc]; exact h73⟩)]; rfl) ?_
                exact ih u h5 (by omega) (by omega) mq5 z5
            · refine zV_goto (tgt := 84) dX6_better_54 (by decide) ?_
              refine zV_iinc dX6_better_84 rfl (Nat.le_of_ble_eq_true rfl) rfl ?_
              refine zV_goto (tgt := 45) dX6_better_87 (by decide) ?_
              refine zV_lveq (lv' := [zrv E 64, ziv x, ziv (fstB (fun v => decide ((v : Int) ≠ x ∧ oneV n jn (gSe (gM h) (swapP (h 81) x (v : Int) jn)) (h 64 32) (h 80) = h 74 x.toNat)) u (jn - u)), ziv ((u : Int) - 1)]) (by show _ = [zrv E 64, ziv x, ziv (fstB (fun v => decide ((v : Int) ≠ x ∧ oneV n jn (gSe (gM h) (swapP (h 81) x (v : Int) jn)) (h 64 32) (h 80) = h 74 x.toNat)) (u + 1) (jn - (u + 1))), ziv ((u : Int) + -1)]; rw [show jn - u = jn - (u + 1) + 1 by omega, fstB_s, if_neg (fun z => (of_decide_eq_true z).1 h51)]; rfl) ?_
              exact ih u h2 (by omega) (by omega) mq2 z2
      refine zV_lveq (lv' := [zrv E 64, ziv x, ziv (fstB (fun v => decide ((v : Int) ≠ x ∧ oneV n jn (gSe (gM h) (swapP (h 81) x (v : Int) jn)) (h 64 32) (h 80) = h 74 x.toNat)) jn (jn - jn)), ziv ((jn : Int) - 1)]) (by rw [Nat.sub_self]; rfl) ?_
      exact L45 (jn + 1) jn hA (by omega) (by omega) mqA (nvA.2.1.trans z0)
    · refine zV_iconst dX6_better_32 ?_
      exact zV_ireturn dX6_better_33 rfl (Nat.zero_le _) (mA_ok mqA (nvA.2.1.trans z0) (by rw [if_pos (by omega)]) (by unfold oneM at h29; rw [if_pos h29]))
  · have n10 := ipF h10
    refine zV_aload_nr dX6_better_13 rfl rfl ?_
    refine zV_iconst dX6_better_14 ?_
    refine zV_callV (As := [ziv 1]) lk6_300 (rfl) rfl rfl (c6_fail 11 0) ⟨by show _ + 1 ≤ 12; omega, by show _ ≤ 4; omega⟩ rfl (Nat.le_of_ble_eq_true rfl) dX6_better_15 (fun _ _ z => z.elim) (fun r h9 q => ?_)
    obtain ⟨rfl, hh⟩ := q
    rw [hh]
    clear hh
    exact zV_ireturn dX6_better_18 rfl (Nat.zero_le _) (mA_f q0 (by decide) (by rw [if_neg (by omega)]))
