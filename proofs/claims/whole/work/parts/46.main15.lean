/-! DOCKETS -/
theorem zcp_atN {h : zH} {k0 k1 n : Nat} : agn n (zcp h k0 0 k1 0 n k1) (h k0) := fun i hi => by
  unfold zcp; rw [if_pos ⟨rfl, by omega, by omega⟩]; congr 1; omega
def dkCp (h : zH) (o d : Nat) (h' : zH) : Prop := (∀ c2 : Nat, c2 ≠ d → c2 ≠ d + 1 → c2 ≠ d + 2 → c2 ≠ d + 3 → c2 ≠ d + 4 → c2 ≠ d + 5 → c2 ≠ d + 7 → c2 ≠ d + 8 → c2 ≠ d + 9 → c2 ≠ d + 10 → h' c2 = h c2) ∧
  (agn 8 (h' (d + 2)) (h (o + 2)) ∧ agn 8 (h' (d + 3)) (h (o + 3)) ∧ agn 8 (h' (d + 4)) (h (o + 4)) ∧ agn 8 (h' (d + 5)) (h (o + 5)) ∧ h' (d + 1) 5 = h (o + 1) 5 ∧ h' (d + 1) 6 = h (o + 1) 6 ∧ h' (d + 1) 7 = h (o + 1) 7) ∧
  agn 1080 (h' (d + 7)) (h (o + 7)) ∧ agn 8 (h' (d + 8)) (h (o + 8)) ∧ agn 8 (h' (d + 9)) (h (o + 9)) ∧ agn 3 (h' (d + 10)) (h (o + 10)) ∧ h' d 2 = h o 2 ∧ h' d 3 = h o 3 ∧ h' d 6 = h o 6

set_option maxRecDepth 100000 in
theorem c3_copyFromA {E : zE} {h : zH} (d k : Nat) (hd : 2 ≤ d) : zCal E mX3_copyFrom d k [zrv E 42, zrv E 31] h (fun r h' => r = none ∧ dkCp h 31 42 h') (fun _ _ => False) := by
  refine zCal_of (by decide) (Nat.le_of_ble_eq_true rfl) (fun a => ?_)
  show zV _ 0 0 [zrv E 42, zrv E 31] [] _
  refine zV_aload_nr dX3_copyFrom_0 rfl rfl ?_
  refine gf3_12 rfl (rfl) dX3_copyFrom_1 ?_
  refine zV_teq (w := zrv E 43) rfl ?_
  refine zV_aload_nr dX3_copyFrom_4 rfl rfl ?_
  refine gf3_12 rfl (rfl) dX3_copyFrom_5 ?_
  refine zV_teq (w := zrv E 32) rfl ?_
  refine zV_callV (As := [zrv E 32]) lk3_42 (rfl) rfl rfl (c2_copyFrom (c := 43) (o := 32) (d - 1) 0 (by omega) (Or.inr (Or.inl rfl)) (Or.inl rfl) (by decide)) ⟨by show _ + 1 ≤ d; omega, by show _ ≤ k; omega⟩ rfl (Nat.le_of_ble_eq_true rfl) dX3_copyFrom_8 (fun _ _ z => z.elim) (fun r h1 q => ?_)
  obtain ⟨rfl, q0, q1, q2, q3, q4, q5, q6, q7, q8⟩ := q
  refine zV_aload_nr dX3_copyFrom_11 rfl rfl ?_
  refine gf3_18 rfl (rfl) dX3_copyFrom_12 ?_
  refine zV_teq (w := zrv E 38) rfl ?_
  refine zV_iconst dX3_copyFrom_15 ?_
  refine zV_aload_nr dX3_copyFrom_16 rfl rfl ?_
  refine gf3_18 rfl (rfl) dX3_copyFrom_17 ?_
  refine zV_teq (w := zrv E 49) rfl ?_
  refine zV_iconst dX3_copyFrom_20 ?_
  refine zV_aload_nr dX3_copyFrom_21 rfl rfl ?_
  refine gf3_18 rfl (rfl) dX3_copyFrom_22 ?_
  refine zV_teq (w := zrv E 49) rfl ?_
  refine zV_alen (t := 0) (N := 1080) (rfl) dX3_copyFrom_25 ?_
  refine zV_copy (k0 := 38) (k1 := 49) (N0 := 1080) (N1 := 1080) (show Cond.methodLink RX3 46 arraycopyName ∈ zTs from lk3_46) rfl rfl (by decide) (by decide) (show 1 ≤ d from Nat.le_trans (by decide) hd) rfl dX3_copyFrom_26 ?_
  obtain ⟨h2, hh2⟩ : ∃ z, z = zcp h1 38 (0 : Int).toNat 49 (0 : Int).toNat ((1080 : Nat) : Int).toNat := ⟨_, rfl⟩
  rw [← hh2]
  refine zV_aload_nr dX3_copyFrom_29 rfl rfl ?_
  refine zV_aload_nr dX3_copyFrom_30 rfl rfl ?_
  refine gf3_52 rfl rfl dX3_copyFrom_31 ?_
  refine pf3_52 rfl (rfl) dX3_copyFrom_34 ?_
  refine zV_aload_nr dX3_copyFrom_37 rfl rfl ?_
  refine zV_aload_nr dX3_copyFrom_38 rfl rfl ?_
  refine gf3_35 rfl rfl dX3_copyFrom_39 ?_
  refine pf3_35 rfl (rfl) dX3_copyFrom_42 ?_
  refine zV_aload_nr dX3_copyFrom_45 rfl rfl ?_
  refine gf3_22 rfl (rfl) dX3_copyFrom_46 ?_
  refine zV_teq (w := zrv E 39) rfl ?_
  refine zV_iconst dX3_copyFrom_49 ?_
  refine zV_aload_nr dX3_copyFrom_50 rfl rfl ?_
  refine gf3_22 rfl (rfl) dX3_copyFrom_51 ?_
  refine zV_teq (w := zrv E 50) rfl ?_
  refine zV_iconst dX3_copyFrom_54 ?_
  refine zV_bipush dX3_copyFrom_55 (by decide) ?_
  refine zV_copy (k0 := 39) (k1 := 50) (N0 := 8) (N1 := 8) (show Cond.methodLink RX3 46 arraycopyName ∈ zTs from lk3_46) rfl rfl (by decide) (by decide) (show 1 ≤ d from Nat.le_trans (by decide) hd) rfl dX3_copyFrom_57 ?_
  refine zV_aload_nr dX3_copyFrom_60 rfl rfl ?_
  refine gf3_25 rfl (rfl) dX3_copyFrom_61 ?_
  refine zV_teq (w := zrv E 40) rfl ?_
  refine zV_iconst dX3_copyFrom_64 ?_
  refine zV_aload_nr dX3_copyFrom_65 rfl rfl ?_
  refine gf3_25 rfl (rfl) dX3_copyFrom_66 ?_
  refine zV_teq (w := zrv E 51) rfl ?_
  refine zV_iconst dX3_copyFrom_69 ?_
  refine zV_bipush dX3_copyFrom_70 (by decide) ?_
  refine zV_copy (k0 := 40) (k1 := 51) (N0 := 8) (N1 := 8) (show Cond.methodLink RX3 46 arraycopyName ∈ zTs from lk3_46) rfl rfl (by decide) (by decide) (show 1 ≤ d from Nat.le_trans (by decide) hd) rfl dX3_copyFrom_72 ?_
  refine zV_aload_nr dX3_copyFrom_75 rfl rfl ?_
  refine zV_aload_nr dX3_copyFrom_76 rfl rfl ?_
  refine gf3_39 rfl rfl dX3_copyFrom_77 ?_
  refine pf3_39 rfl (rfl) dX3_copyFrom_80 ?_
  refine zV_aload_nr dX3_copyFrom_83 rfl rfl ?_
  refine gf3_28 rfl (rfl) dX3_copyFrom_84 ?_
  refine zV_teq (w := zrv E 41) rfl ?_
  refine zV_iconst dX3_copyFrom_87 ?_
  refine zV_aload_nr dX3_copyFrom_88 rfl rfl ?_
  refine gf3_28 rfl (rfl) dX3_copyFrom_89 ?_
  refine zV_teq (w := zrv E 52) rfl ?_
  refine zV_iconst dX3_copyFrom_92 ?_
  refine zV_aload_nr dX3_copyFrom_93 rfl rfl ?_
  refine gf3_28 rfl (rfl) dX3_copyFrom_94 ?_
  refine zV_teq (w := zrv E 52) rfl ?_
  refine zV_alen (t := 0) (N := 3) (rfl) dX3_copyFrom_97 ?_
  refine zV_copy (k0 := 41) (k1 := 52) (N0 := 3) (N1 := 3) (show Cond.methodLink RX3 46 arraycopyName ∈ zTs from lk3_46) rfl rfl (by decide) (by decide) (show 1 ≤ d from Nat.le_trans (by decide) hd) rfl dX3_copyFrom_98 ?_
  exact zV_vreturn dX3_copyFrom_101 rfl (Nat.zero_le _) ⟨rfl, by
    have n0 : (0 : Int).toNat = 0 := rfl
    have n8 : (8 : Int).toNat = 8 := rfl
    have n3 : ((3 : Nat) : Int).toNat = 3 := rfl
    have n1080 : ((1080 : Nat) : Int).toNat = 1080 := rfl
    rw [n0, n1080] at hh2
    refine ⟨fun c2 x0 x1 x2 x3 x4 x5 x7 x8 x9 x10 => ?_, ⟨?_, ?_, ?_, ?_, ?_, ?_, ?_⟩, ?_, ?_, ?_, ?_, ?_, ?_, ?_⟩
    · rw [zcp_fn x10, zup_fn x0, zcp_fn x9, zcp_fn x8, zup_fn x0, zup_fn x0, hh2, zcp_fn x7]; exact q0 c2 x1 x2 x3 x4 x5
    · rw [zcp_fn (by decide), zup_fn (by decide), zcp_fn (by decide), zcp_fn (by decide), zup_fn (by decide), zup_fn (by decide), hh2, zcp_fn (by decide)]; exact q1
    · rw [zcp_fn (by decide), zup_fn (by decide), zcp_fn (by decide), zcp_fn (by decide), zup_fn (by decide), zup_fn (by decide), hh2, zcp_fn (by decide)]; exact q2
    · rw [zcp_fn (by decide), zup_fn (by decide), zcp_fn (by decide), zcp_fn (by decide), zup_fn (by decide), zup_fn (by decide), hh2, zcp_fn (by decide)]; exact q3
    · rw [zcp_fn (by decide), zup_fn (by decide), zcp_fn (by decide), zcp_fn (by decide), zup_fn (by decide), zup_fn (by decide), hh2, zcp_fn (by decide)]; exact q4
    · rw [zcp_fn (by decide), zup_fn (by decide), zcp_fn (by decide), zcp_fn (by decide), zup_fn (by decide), zup_fn (by decide), hh2, zcp_fn (by decide)]; exact q5
    · rw [zcp_fn (by decide), zup_fn (by decide), zcp_fn (by decide), zcp_fn (by decide), zup_fn (by decide), zup_fn (by decide), hh2, zcp_fn (by decide)]; exact q6
    · rw [zcp_fn (by decide), zup_fn (by decide), zcp_fn (by decide), zcp_fn (by decide), zup_fn (by decide), zup_fn (by decide), hh2, zcp_fn (by decide)]; exact q7
    · rw [zcp_fn (by decide), zup_fn (by decide), zcp_fn (by decide), zcp_fn (by decide), zup_fn (by decide), zup_fn (by decide), hh2]
      refine agn_trans zcp_atN ?_
      rw [q0 38 (by decide) (by decide) (by decide) (by decide) (by decide)]; exact agn_rfl _ _
    · rw [zcp_fn (by decide), zup_fn (by decide), zcp_fn (by decide), n0, n8]
      refine agn_trans zcp_atN ?_
      rw [zup_fn (by decide), zup_fn (by decide), hh2, zcp_fn (by decide), q0 39 (by decide) (by decide) (by decide) (by decide) (by decide)]; exact agn_rfl _ _
    · rw [zcp_fn (by decide), zup_fn (by decide), n0, n8]
      refine agn_trans zcp_atN ?_
      rw [zcp_fn (by decide), zup_fn (by decide), zup_fn (by decide), hh2, zcp_fn (by decide), q0 40 (by decide) (by decide) (by decide) (by decide) (by decide)]; exact agn_rfl _ _
    · rw [n0, n3]
      refine agn_trans zcp_atN ?_
      rw [zup_fn (by decide), zcp_fn (by decide), zcp_fn (by decide), zup_fn (by decide), zup_fn (by decide), hh2, zcp_fn (by decide), q0 41 (by decide) (by decide) (by decide) (by decide) (by decide)]; exact agn_rfl _ _
    · have e : h2 31 = h 31 := by rw [hh2, zcp_fn (by decide), q0 31 (by decide) (by decide) (by decide) (by decide) (by decide)]
      rw [zcp_fn (by decide), zup_at, if_neg (by decide), zcp_fn (by decide), zcp_fn (by decide), zup_at, if_neg (by decide), zup_at, if_pos rfl, e]
    · have e : h2 31 = h 31 := by rw [hh2, zcp_fn (by decide), q0 31 (by decide) (by decide) (by decide) (by decide) (by decide)]
      rw [zcp_fn (by decide), zup_at, if_neg (by decide), zcp_fn (by decide), zcp_fn (by decide), zup_at, if_pos rfl, zup_fn (by decide), e]
    · have e : h2 31 = h 31 := by rw [hh2, zcp_fn (by decide), q0 31 (by decide) (by decide) (by decide) (by decide) (by decide)]
      rw [zcp_fn (by decide), zup_at, if_pos rfl, zcp_fn (by decide), zcp_fn (by decide), zup_fn (by decide), zup_fn (by decide), e]⟩
set_option maxRecDepth 100000 in
theorem c3_copyFromB {E : zE} {h : zH} (d k : Nat) (hd : 2 ≤ d) : zCal E mX3_copyFrom d k [zrv E 31, zrv E 42] h (fun r h' => r = none ∧ dkCp h 42 31 h') (fun _ _ => False) := by
  refine zCal_of (by decide) (Nat.le_of_ble_eq_true rfl) (fun a => ?_)
  show zV _ 0 0 [zrv E 31, zrv E 42] [] _
  refine zV_aload_nr dX3_copyFrom_0 rfl rfl ?_
  refine gf3_12 rfl (rfl) dX3_copyFrom_1 ?_
  refine zV_teq (w := zrv E 32) rfl ?_
  refine zV_aload_nr dX3_copyFrom_4 rfl rfl ?_
  refine gf3_12 rfl (rfl) dX3_copyFrom_5 ?_
  refine zV_teq (w := zrv E 43) rfl ?_
  refine zV_callV (As := [zrv E 43]) lk3_42 (rfl) rfl rfl (c2_copyFrom (c := 32) (o := 43) (d - 1) 0 (by omega) (Or.inl rfl) (Or.inr (Or.inl rfl)) (by decide)) ⟨by show _ + 1 ≤ d; omega, by show _ ≤ k; omega⟩ rfl (Nat.le_of_ble_eq_true rfl) dX3_copyFrom_8 (fun _ _ z => z.elim) (fun r h1 q => ?_)
  obtain ⟨rfl, q0, q1, q2, q3, q4, q5, q6, q7, q8⟩ := q
  refine zV_aload_nr dX3_copyFrom_11 rfl rfl ?_
  refine gf3_18 rfl (rfl) dX3_copyFrom_12 ?_
  refine zV_teq (w := zrv E 49) rfl ?_
  refine zV_iconst dX3_copyFrom_15 ?_
  refine zV_aload_nr dX3_copyFrom_16 rfl rfl ?_
  refine gf3_18 rfl (rfl) dX3_copyFrom_17 ?_
  refine zV_teq (w := zrv E 38) rfl ?_
  refine zV_iconst dX3_copyFrom_20 ?_
  refine zV_aload_nr dX3_copyFrom_21 rfl rfl ?_
  refine gf3_18 rfl (rfl) dX3_copyFrom_22 ?_
  refine zV_teq (w := zrv E 38) rfl ?_
  refine zV_alen (t := 0) (N := 1080) (rfl) dX3_copyFrom_25 ?_
  refine zV_copy (k0 := 49) (k1 := 38) (N0 := 1080) (N1 := 1080) (show Cond.methodLink RX3 46 arraycopyName ∈ zTs from lk3_46) rfl rfl (by decide) (by decide) (show 1 ≤ d from Nat.le_trans (by decide) hd) rfl dX3_copyFrom_26 ?_
  obtain ⟨h2, hh2⟩ : ∃ z, z = zcp h1 49 (0 : Int).toNat 38 (0 : Int).toNat ((1080 : Nat) : Int).toNat := ⟨_, rfl⟩
  rw [← hh2]
  refine zV_aload_nr dX3_copyFrom_29 rfl rfl ?_
  refine zV_aload_nr dX3_copyFrom_30 rfl rfl ?_
  refine gf3_52 rfl rfl dX3_copyFrom_31 ?_
  refine pf3_52 rfl (rfl) dX3_copyFrom_34 ?_
  refine zV_aload_nr dX3_copyFrom_37 rfl rfl ?_
  refine zV_aload_nr dX3_copyFrom_38 rfl rfl ?_
  refine gf3_35 rfl rfl dX3_copyFrom_39 ?_
  refine pf3_35 rfl (rfl) dX3_copyFrom_42 ?_
  refine zV_aload_nr dX3_copyFrom_45 rfl rfl ?_
  refine gf3_22 rfl (rfl) dX3_copyFrom_46 ?_
  refine zV_teq (w := zrv E 50) rfl ?_
  refine zV_iconst dX3_copyFrom_49 ?_
  refine zV_aload_nr dX3_copyFrom_50 rfl rfl ?_
  refine gf3_22 rfl (rfl) dX3_copyFrom_51 ?_
  refine zV_teq (w := zrv E 39) rfl ?_
  refine zV_iconst dX3_copyFrom_54 ?_
  refine zV_bipush dX3_copyFrom_55 (by decide) ?_
  refine zV_copy (k0 := 50) (k1 := 39) (N0 := 8) (N1 := 8) (show Cond.methodLink RX3 46 arraycopyName ∈ zTs from lk3_46) rfl rfl (by decide) (by decide) (show 1 ≤ d from Nat.le_trans (by decide) hd) rfl dX3_copyFrom_57 ?_
  refine zV_aload_nr dX3_copyFrom_60 rfl rfl ?_
  refine gf3_25 rfl (rfl) dX3_copyFrom_61 ?_
  refine zV_teq (w := zrv E 51) rfl ?_
  refine zV_iconst dX3_copyFrom_64 ?_
  refine zV_aload_nr dX3_copyFrom_65 rfl rfl ?_
  refine gf3_25 rfl (rfl) dX3_copyFrom_66 ?_
  refine zV_teq (w := zrv E 40) rfl ?_
  refine zV_iconst dX3_copyFrom_69 ?_
  refine zV_bipush dX3_copyFrom_70 (by decide) ?_
  refine zV_copy (k0 := 51) (k1 := 40) (N0 := 8) (N1 := 8) (show Cond.methodLink RX3 46 arraycopyName ∈ zTs from lk3_46) rfl rfl (by decide) (by decide) (show 1 ≤ d from Nat.le_trans (by decide) hd) rfl dX3_copyFrom_72 ?_
  refine zV_aload_nr dX3_copyFrom_75 rfl rfl ?_
  refine zV_aload_nr dX3_copyFrom_76 rfl rfl ?_
  refine gf3_39 rfl rfl dX3_copyFrom_77 ?_
  refine pf3_39 rfl (rfl) dX3_copyFrom_80 ?_
  refine zV_aload_nr dX3_copyFrom_83 rfl rfl ?_
  refine gf3_28 rfl (rfl) dX3_copyFrom_84 ?_
  refine zV_teq (w := zrv E 52) rfl ?_
  refine zV_iconst dX3_copyFrom_87 ?_
  refine zV_aload_nr dX3_copyFrom_88 rfl rfl ?_
  refine gf3_28 rfl (rfl) dX3_copyFrom_89 ?_
  refine zV_teq (w := zrv E 41) rfl ?_
  refine zV_iconst dX3_copyFrom_92 ?_
  refine zV_aload_nr dX3_copyFrom_93 rfl rfl ?_
  refine gf3_28 rfl (rfl) dX3_copyFrom_94 ?_
  refine zV_teq (w := zrv E 41) rfl ?_
  refine zV_alen (t := 0) (N := 3) (rfl) dX3_copyFrom_97 ?_
  refine zV_copy (k0 := 52) (k1 := 41) (N0 := 3) (N1 := 3) (show Cond.methodLink RX3 46 arraycopyName ∈ zTs from lk3_46) rfl rfl (by decide) (by decide) (show 1 ≤ d from Nat.le_trans (by decide) hd) rfl dX3_copyFrom_98 ?_
  exact zV_vreturn dX3_copyFrom_101 rfl (Nat.zero_le _) ⟨rfl, by
    have n0 : (0 : Int).toNat = 0 := rfl
    have n8 : (8 : Int).toNat = 8 := rfl
    have n3 : ((3 : Nat) : Int).toNat = 3 := rfl
    have n1080 : ((1080 : Nat) : Int).toNat = 1080 := rfl
    rw [n0, n1080] at hh2
    refine ⟨fun c2 x0 x1 x2 x3 x4 x5 x7 x8 x9 x10 => ?_, ⟨?_, ?_, ?_, ?_, ?_, ?_, ?_⟩, ?_, ?_, ?_, ?_, ?_, ?_, ?_⟩
    · rw [zcp_fn x10, zup_fn x0, zcp_fn x9, zcp_fn x8, zup_fn x0, zup_fn x0, hh2, zcp_fn x7]; exact q0 c2 x1 x2 x3 x4 x5
    · rw [zcp_fn (by decide), zup_fn (by decide), zcp_fn (by decide), zcp_fn (by decide), zup_fn (by decide), zup_fn (by decide), hh2, zcp_fn (by decide)]; exact q1
    · rw [zcp_fn (by decide), zup_fn (by decide), zcp_fn (by decide), zcp_fn (by decide), zup_fn (by decide), zup_fn (by decide), hh2, zcp_fn (by decide)]; exact q2
    · rw [zcp_fn (by decide), zup_fn (by decide), zcp_fn (by decide), zcp_fn (by decide), zup_fn (by decide), zup_fn (by decide), hh2, zcp_fn (by decide)]; exact q3
    · rw [zcp_fn (by decide), zup_fn (by decide), zcp_fn (by decide), zcp_fn (by decide), zup_fn (by decide), zup_fn (by decide), hh2, zcp_fn (by decide)]; exact q4
    · rw [zcp_fn (by decide), zup_fn (by decide), zcp_fn (by decide), zcp_fn (by decide), zup_fn (by decide), zup_fn (by decide), hh2, zcp_fn (by decide)]; exact q5
    · rw [zcp_fn (by decide), zup_fn (by decide), zcp_fn (by decide), zcp_fn (by decide), zup_fn (by decide), zup_fn (by decide), hh2, zcp_fn (by decide)]; exact q6
    · rw [zcp_fn (by decide), zup_fn (by decide), zcp_fn (by decide), zcp_fn (by decide), zup_fn (by decide), zup_fn (by decide), hh2, zcp_fn (by decide)]; exact q7
    · rw [zcp_fn (by decide), zup_fn (by decide), zcp_fn (by decide), zcp_fn (by decide), zup_fn (by decide), zup_fn (by decide), hh2]
      refine agn_trans zcp_atN ?_
      rw [q0 49 (by decide) (by decide) (by decide) (by decide) (by decide)]; exact agn_rfl _ _
    · rw [zcp_fn (by decide), zup_fn (by decide), zcp_fn (by decide), n0, n8]
      refine agn_trans zcp_atN ?_
      rw [zup_fn (by decide), zup_fn (by decide), hh2, zcp_fn (by decide), q0 50 (by decide) (by decide) (by decide) (by decide) (by decide)]; exact agn_rfl _ _
    · rw [zcp_fn (by decide), zup_fn (by decide), n0, n8]
      refine agn_trans zcp_atN ?_
      rw [zcp_fn (by decide), zup_fn (by decide), zup_fn (by decide), hh2, zcp_fn (by decide), q0 51 (by decide) (by decide) (by decide) (by decide) (by decide)]; exact agn_rfl _ _
    · rw [n0, n3]
      refine agn_trans zcp_atN ?_
      rw [zup_fn (by decide), zcp_fn (by decide), zcp_fn (by decide), zup_fn (by decide), zup_fn (by decide), hh2, zcp_fn (by decide), q0 52 (by decide) (by decide) (by decide) (by decide) (by decide)]; exact agn_rfl _ _
    · have e : h2 42 = h 42 := by rw [hh2, zcp_fn (by decide), q0 42 (by decide) (by decide) (by decide) (by decide) (by decide)]
      rw [zcp_fn (by decide), zup_at, if_neg (by decide), zcp_fn (by decide), zcp_fn (by decide), zup_at, if_neg (by decide), zup_at, if_pos rfl, e]
    · have e : h2 42 = h 42 := by rw [hh2, zcp_fn (by decide), q0 42 (by decide) (by decide) (by decide) (by decide) (by decide)]
      rw [zcp_fn (by decide), zup_at, if_neg (by decide), zcp_fn (by decide), zcp_fn (by decide), zup_at, if_pos rfl, zup_fn (by decide), e]
    · have e : h2 42 = h 42 := by rw [hh2, zcp_fn (by decide), q0 42 (by decide) (by decide) (by decide) (by decide) (by decide)]
      rw [zcp_fn (by decide), zup_at, if_pos rfl, zcp_fn (by decide), zcp_fn (by decide), zup_fn (by decide), zup_fn (by decide), e]⟩
set_option maxRecDepth 100000 in
theorem c3_opn {E : zE} {h : zH} {t : Nat} (d k : Nat) (hd : 1 ≤ d) (ht : isCourt t) : zCal E mX3_open d k [zrv E 31, zrv E t] h (fun r h' => r = none ∧ ∃ h1, opened h 32 t h1 ∧ h' = zup (zup h1 31 3 0) 31 6 0) (fun _ _ => False) := by
  refine zCal_of (by decide) (Nat.le_of_ble_eq_true rfl) (fun a => ?_)
  show zV _ 0 0 [zrv E 31, zrv E t] [] _
  refine zV_aload_nr dX3_open_0 rfl rfl ?_
  refine gf3_12 rfl (rfl) dX3_open_1 ?_
  refine zV_teq (w := zrv E 32) rfl ?_
  refine zV_aload_nr dX3_open_4 rfl rfl ?_
  refine zV_callV (As := [zrv E t]) lk3_31 (rfl) rfl rfl (c2_opn (d - 1) 0 (Or.inl rfl) ht) ⟨by show _ + 1 ≤ d; omega, by show _ ≤ k; omega⟩ rfl (Nat.le_of_ble_eq_true rfl) dX3_open_5 (fun _ _ z => z.elim) (fun r h1 q => ?_)
  obtain ⟨rfl, q⟩ := q
  refine zV_aload_nr dX3_open_8 rfl rfl ?_
  refine zV_iconst dX3_open_9 ?_
  refine pf3_35 rfl (rfl) dX3_open_10 ?_
  refine zV_aload_nr dX3_open_13 rfl rfl ?_
  refine zV_iconst dX3_open_14 ?_
  refine pf3_39 rfl (rfl) dX3_open_15 ?_
  exact zV_vreturn dX3_open_18 rfl (Nat.zero_le _) ⟨rfl, h1, q, rfl⟩
set_option maxRecDepth 100000 in
theorem c5_image {E : zE} {h : zH} {t n jn : Nat}  (hi : tInv h t n jn) : zCal E mX5_image 12 4 [zrv E 0] h (fun r h' => r = none ∧ ∃ h1, dkCp h 31 42 h1 ∧ h' = zup h1 0 8 1) (fun _ _ => False) := by
  refine zCal_of (by decide) (Nat.le_of_ble_eq_true rfl) (fun a => ?_)
  show zV _ 0 0 [zrv E 0] [] _
  have ht := hi.2.1.1
  have k0 := hi.1
  have hnum := hi.2.2.2.2
  have hn8 := hi.2.1.2.1
  have hjn8 := hi.2.1.2.2.1
  refine zV_aload_nr dX5_image_0 rfl rfl ?_
  refine gf5_45 rfl (rfl) dX5_image_1 ?_
  refine zV_teq (w := zrv E 42) rfl ?_
  refine zV_aload_nr dX5_image_4 rfl rfl ?_
  refine gf5_41 rfl (rfl) dX5_image_5 ?_
  refine zV_teq (w := zrv E 31) rfl ?_
  refine zV_callV (As := [zrv E 31]) lk5_350 (rfl) rfl rfl (c3_copyFromA 11 0 (by decide)) ⟨by show _ + 1 ≤ 12; omega, by show _ ≤ 4; omega⟩ rfl (Nat.le_of_ble_eq_true rfl) dX5_image_8 (fun _ _ z => z.elim) (fun r h1 q => ?_)
  obtain ⟨rfl, q⟩ := q
  refine zV_aload_nr dX5_image_11 rfl rfl ?_
  refine zV_iconst dX5_image_12 ?_
  refine pf5_98 rfl (rfl) (Or.inr rfl) dX5_image_13 ?_
  exact zV_vreturn dX5_image_16 rfl (Nat.le_of_ble_eq_true rfl) ⟨rfl, h1, q, rfl⟩
set_option maxRecDepth 100000 in
theorem c5_restore {E : zE} {h : zH} {t n jn : Nat} (him : h 0 8 = 0 ∨ h 0 8 = 1) (hi : tInv h t n jn) : zCal E mX5_restore 12 4 [zrv E 0] h (fun r h' => if h 0 8 = 0 then r = some (ziv 0) ∧ h' = h else r = some (ziv 1) ∧ dkCp h 42 31 h') (fun _ _ => False) := by
  refine zCal_of (by decide) (Nat.le_of_ble_eq_true rfl) (fun a => ?_)
  show zV _ 0 0 [zrv E 0] [] _
  have ht := hi.2.1.1
  have k0 := hi.1
  have hnum := hi.2.2.2.2
  have hn8 := hi.2.1.2.1
  have hjn8 := hi.2.1.2.2.1
  refine zV_aload_nr dX5_restore_0 rfl rfl ?_
  refine gf5_98 rfl rfl dX5_restore_1 ?_
  refine zR_if_ne (tgt := 9) dX5_restore_4 (by decide) (by omega) (fun h4 => ?_) (fun h4 => ?_)
  · refine zV_aload_nr dX5_restore_9 rfl rfl ?_
    refine gf5_41 rfl (rfl) dX5_restore_10 ?_
    refine zV_teq (w := zrv E 31) rfl ?_
    refine zV_aload_nr dX5_restore_13 rfl rfl ?_
    refine gf5_45 rfl (rfl) dX5_restore_14 ?_
    refine zV_teq (w := zrv E 42) rfl ?_
    refine zV_callV (As := [zrv E 42]) lk5_350 (rfl) rfl rfl (c3_copyFromB 11 0 (by decide)) ⟨by show _ + 1 ≤ 12; omega, by show _ ≤ 4; omega⟩ rfl (Nat.le_of_ble_eq_true rfl) dX5_restore_17 (fun _ _ z => z.elim) (fun r h1 q => ?_)
    obtain ⟨rfl, q⟩ := q
    refine zV_iconst dX5_restore_20 ?_
    exact zV_zreturn dX5_restore_21 rfl (Or.inr rfl) (Nat.le_of_ble_eq_true rfl) (by show ite _ _ _; rw [if_neg h4]; exact ⟨rfl, q⟩)
  · refine zV_iconst dX5_restore_7 ?_
    exact zV_zreturn dX5_restore_8 rfl (Or.inl rfl) (Nat.le_of_ble_eq_true rfl) (by show ite _ _ _; rw [if_pos h4]; exact ⟨rfl, rfl⟩)
