/-! THE LAW'S WRAPPERS -/
section ZWR
variable {C : zC} {hh : List (Nat × Nat × Nat × Nat)} {n pc : Nat} {lv st : List Value} {h : zH}
theorem zH_teq {v w : Value} (e : w = v) (k : zVh C hh n pc lv (w :: st) h) : zVh C hh n pc lv (v :: st) h := e ▸ k
theorem zn_r (x : Int) : -2147483648 ≤ zn x ∧ zn x ≤ 2147483647 := ⟨Int32.le_toInt _, Int32.toInt_le _⟩
theorem zH_i2lz {x : Int} (hd : decode (ccc C) pc = .ok (.i2l, 1)) (k : zVh C hh n (pc + 1) lv (zlv (zn x) :: st) h) : zVh C hh n pc lv (ziv x :: st) h := zH_teq (ziv_zn x) (zH_i2l hd (zn_r x) k)
theorem zH_if_eq {x : Int} {off : Int} {tgt : Nat} (hd : decode (ccc C) pc = .ok (.ifCond .eq off, 3)) (ht : (pc : Int) + off = (tgt : Int)) (kt : zn x = 0 → zVh C hh n tgt lv st h) (kf : ¬ zn x = 0 → zVh C hh n (pc + 3) lv st h) : zVh C hh n pc lv (ziv x :: st) h := fun ok H locs ls hP hS hl =>
  lv_if_eq ok.1 ok.2.1 hd ht (fun q => kt ((zo_eq0 x).mp q) ok H locs ls hP hS hl) (fun q => kf (fun z => q ((zo_eq0 x).mpr z)) ok H locs ls hP hS hl)
end ZWR

theorem kL_13 : Cond.classLink RL 13 IAE ∈ zTs := zTb2 225 (by decide +kernel) rfl
theorem kL_18 : Cond.classLink RL 18 NSE ∈ zTs := zTb4 3 (by decide +kernel) rfl
theorem dL_court_0 : decode cL_court 0 = .ok (.aload_n 2, 1) := by decide +kernel
theorem dL_court_1 : decode cL_court 1 = .ok (.iconst 0, 1) := by decide +kernel
theorem dL_court_2 : decode cL_court 2 = .ok (.aload_n 0, 1) := by decide +kernel
theorem dL_court_3 : decode cL_court 3 = .ok (.iload_n 1, 1) := by decide +kernel
theorem dL_court_4 : decode cL_court 4 = .ok (.invokevirtual 7, 3) := by decide +kernel
theorem dL_court_7 : decode cL_court 7 = .ok (.i2l, 1) := by decide +kernel
theorem dL_court_8 : decode cL_court 8 = .ok (.lastore, 1) := by decide +kernel
theorem dL_court_9 : decode cL_court 9 = .ok (.goto 6, 3) := by decide +kernel
theorem dL_court_12 : decode cL_court 12 = .ok (.astore_n 3, 1) := by decide +kernel
theorem dL_court_13 : decode cL_court 13 = .ok (.iconst 1, 1) := by decide +kernel
theorem dL_court_14 : decode cL_court 14 = .ok (.ireturn, 1) := by decide +kernel
theorem dL_court_15 : decode cL_court 15 = .ok (.iconst 0, 1) := by decide +kernel
theorem dL_court_16 : decode cL_court 16 = .ok (.ireturn, 1) := by decide +kernel
theorem dL_count_0 : decode cL_count 0 = .ok (.aload_n 2, 1) := by decide +kernel
theorem dL_count_1 : decode cL_count 1 = .ok (.iconst 0, 1) := by decide +kernel
theorem dL_count_2 : decode cL_count 2 = .ok (.aload_n 0, 1) := by decide +kernel
theorem dL_count_3 : decode cL_count 3 = .ok (.iload_n 1, 1) := by decide +kernel
theorem dL_count_4 : decode cL_count 4 = .ok (.invokevirtual 15, 3) := by decide +kernel
theorem dL_count_7 : decode cL_count 7 = .ok (.i2l, 1) := by decide +kernel
theorem dL_count_8 : decode cL_count 8 = .ok (.lastore, 1) := by decide +kernel
theorem dL_count_9 : decode cL_count 9 = .ok (.goto 6, 3) := by decide +kernel
theorem dL_count_12 : decode cL_count 12 = .ok (.astore_n 3, 1) := by decide +kernel
theorem dL_count_13 : decode cL_count 13 = .ok (.iconst 1, 1) := by decide +kernel
theorem dL_count_14 : decode cL_count 14 = .ok (.ireturn, 1) := by decide +kernel
theorem dL_count_15 : decode cL_count 15 = .ok (.iconst 0, 1) := by decide +kernel
theorem dL_count_16 : decode cL_count 16 = .ok (.ireturn, 1) := by decide +kernel
theorem dL_leaf_0 : decode cL_leaf 0 = .ok (.aload_n 3, 1) := by decide +kernel
theorem dL_leaf_1 : decode cL_leaf 1 = .ok (.iconst 0, 1) := by decide +kernel
theorem dL_leaf_2 : decode cL_leaf 2 = .ok (.aload_n 0, 1) := by decide +kernel
theorem dL_leaf_3 : decode cL_leaf 3 = .ok (.iload_n 1, 1) := by decide +kernel
theorem dL_leaf_4 : decode cL_leaf 4 = .ok (.iload_n 2, 1) := by decide +kernel
theorem dL_leaf_5 : decode cL_leaf 5 = .ok (.invokevirtual 20, 3) := by decide +kernel
theorem dL_leaf_8 : decode cL_leaf 8 = .ok (.i2l, 1) := by decide +kernel
theorem dL_leaf_9 : decode cL_leaf 9 = .ok (.lastore, 1) := by decide +kernel
theorem dL_leaf_10 : decode cL_leaf 10 = .ok (.goto 7, 3) := by decide +kernel
theorem dL_leaf_13 : decode cL_leaf 13 = .ok (.astore 4, 2) := by decide +kernel
theorem dL_leaf_15 : decode cL_leaf 15 = .ok (.iconst 1, 1) := by decide +kernel
theorem dL_leaf_16 : decode cL_leaf 16 = .ok (.ireturn, 1) := by decide +kernel
theorem dL_leaf_17 : decode cL_leaf 17 = .ok (.iconst 0, 1) := by decide +kernel
theorem dL_leaf_18 : decode cL_leaf 18 = .ok (.ireturn, 1) := by decide +kernel
theorem dL_judge_0 : decode cL_judge 0 = .ok (.aload_n 3, 1) := by decide +kernel
theorem dL_judge_1 : decode cL_judge 1 = .ok (.iconst 0, 1) := by decide +kernel
theorem dL_judge_2 : decode cL_judge 2 = .ok (.aload_n 0, 1) := by decide +kernel
theorem dL_judge_3 : decode cL_judge 3 = .ok (.iload_n 1, 1) := by decide +kernel
theorem dL_judge_4 : decode cL_judge 4 = .ok (.iload_n 2, 1) := by decide +kernel
theorem dL_judge_5 : decode cL_judge 5 = .ok (.invokevirtual 24, 3) := by decide +kernel
theorem dL_judge_8 : decode cL_judge 8 = .ok (.i2l, 1) := by decide +kernel
theorem dL_judge_9 : decode cL_judge 9 = .ok (.lastore, 1) := by decide +kernel
theorem dL_judge_10 : decode cL_judge 10 = .ok (.goto 7, 3) := by decide +kernel
theorem dL_judge_13 : decode cL_judge 13 = .ok (.astore 4, 2) := by decide +kernel
theorem dL_judge_15 : decode cL_judge 15 = .ok (.iconst 1, 1) := by decide +kernel
theorem dL_judge_16 : decode cL_judge 16 = .ok (.ireturn, 1) := by decide +kernel
theorem dL_judge_17 : decode cL_judge 17 = .ok (.iconst 0, 1) := by decide +kernel
theorem dL_judge_18 : decode cL_judge 18 = .ok (.ireturn, 1) := by decide +kernel
theorem dL_seat_0 : decode cL_seat 0 = .ok (.aload_n 2, 1) := by decide +kernel
theorem dL_seat_1 : decode cL_seat 1 = .ok (.iconst 0, 1) := by decide +kernel
theorem dL_seat_2 : decode cL_seat 2 = .ok (.aload_n 0, 1) := by decide +kernel
theorem dL_seat_3 : decode cL_seat 3 = .ok (.iload_n 1, 1) := by decide +kernel
theorem dL_seat_4 : decode cL_seat 4 = .ok (.invokevirtual 27, 3) := by decide +kernel
theorem dL_seat_7 : decode cL_seat 7 = .ok (.i2l, 1) := by decide +kernel
theorem dL_seat_8 : decode cL_seat 8 = .ok (.lastore, 1) := by decide +kernel
theorem dL_seat_9 : decode cL_seat 9 = .ok (.goto 6, 3) := by decide +kernel
theorem dL_seat_12 : decode cL_seat 12 = .ok (.astore_n 3, 1) := by decide +kernel
theorem dL_seat_13 : decode cL_seat 13 = .ok (.iconst 1, 1) := by decide +kernel
theorem dL_seat_14 : decode cL_seat 14 = .ok (.ireturn, 1) := by decide +kernel
theorem dL_seat_15 : decode cL_seat 15 = .ok (.iconst 0, 1) := by decide +kernel
theorem dL_seat_16 : decode cL_seat 16 = .ok (.ireturn, 1) := by decide +kernel
theorem dL_heap_0 : decode cL_heap 0 = .ok (.aload_n 2, 1) := by decide +kernel
theorem dL_heap_1 : decode cL_heap 1 = .ok (.iconst 0, 1) := by decide +kernel
theorem dL_heap_2 : decode cL_heap 2 = .ok (.aload_n 0, 1) := by decide +kernel
theorem dL_heap_3 : decode cL_heap 3 = .ok (.iload_n 1, 1) := by decide +kernel
theorem dL_heap_4 : decode cL_heap 4 = .ok (.invokevirtual 30, 3) := by decide +kernel
theorem dL_heap_7 : decode cL_heap 7 = .ok (.i2l, 1) := by decide +kernel
theorem dL_heap_8 : decode cL_heap 8 = .ok (.lastore, 1) := by decide +kernel
theorem dL_heap_9 : decode cL_heap 9 = .ok (.goto 6, 3) := by decide +kernel
theorem dL_heap_12 : decode cL_heap 12 = .ok (.astore_n 3, 1) := by decide +kernel
theorem dL_heap_13 : decode cL_heap 13 = .ok (.iconst 1, 1) := by decide +kernel
theorem dL_heap_14 : decode cL_heap 14 = .ok (.ireturn, 1) := by decide +kernel
theorem dL_heap_15 : decode cL_heap 15 = .ok (.iconst 0, 1) := by decide +kernel
theorem dL_heap_16 : decode cL_heap 16 = .ok (.ireturn, 1) := by decide +kernel
theorem dL_change_0 : decode cL_change 0 = .ok (.aload_n 3, 1) := by decide +kernel
theorem dL_change_1 : decode cL_change 1 = .ok (.iconst 0, 1) := by decide +kernel
theorem dL_change_2 : decode cL_change 2 = .ok (.aload_n 0, 1) := by decide +kernel
theorem dL_change_3 : decode cL_change 3 = .ok (.iload_n 1, 1) := by decide +kernel
theorem dL_change_4 : decode cL_change 4 = .ok (.iload_n 2, 1) := by decide +kernel
theorem dL_change_5 : decode cL_change 5 = .ok (.invokevirtual 33, 3) := by decide +kernel
theorem dL_change_8 : decode cL_change 8 = .ok (.ifCond .eq 7, 3) := by decide +kernel
theorem dL_change_11 : decode cL_change 11 = .ok (.lconst 1, 1) := by decide +kernel
theorem dL_change_12 : decode cL_change 12 = .ok (.goto 4, 3) := by decide +kernel
theorem dL_change_15 : decode cL_change 15 = .ok (.lconst 0, 1) := by decide +kernel
theorem dL_change_16 : decode cL_change 16 = .ok (.lastore, 1) := by decide +kernel
theorem dL_change_17 : decode cL_change 17 = .ok (.goto 7, 3) := by decide +kernel
theorem dL_change_20 : decode cL_change 20 = .ok (.astore 4, 2) := by decide +kernel
theorem dL_change_22 : decode cL_change 22 = .ok (.iconst 1, 1) := by decide +kernel
theorem dL_change_23 : decode cL_change 23 = .ok (.ireturn, 1) := by decide +kernel
theorem dL_change_24 : decode cL_change 24 = .ok (.iconst 0, 1) := by decide +kernel
theorem dL_change_25 : decode cL_change 25 = .ok (.ireturn, 1) := by decide +kernel
theorem dL_hand_0 : decode cL_hand 0 = .ok (.aload_n 3, 1) := by decide +kernel
theorem dL_hand_1 : decode cL_hand 1 = .ok (.iconst 0, 1) := by decide +kernel
theorem dL_hand_2 : decode cL_hand 2 = .ok (.aload_n 0, 1) := by decide +kernel
theorem dL_hand_3 : decode cL_hand 3 = .ok (.iload_n 1, 1) := by decide +kernel
theorem dL_hand_4 : decode cL_hand 4 = .ok (.iload_n 2, 1) := by decide +kernel
theorem dL_hand_5 : decode cL_hand 5 = .ok (.invokevirtual 37, 3) := by decide +kernel
theorem dL_hand_8 : decode cL_hand 8 = .ok (.i2l, 1) := by decide +kernel
theorem dL_hand_9 : decode cL_hand 9 = .ok (.lastore, 1) := by decide +kernel
theorem dL_hand_10 : decode cL_hand 10 = .ok (.goto 7, 3) := by decide +kernel
theorem dL_hand_13 : decode cL_hand 13 = .ok (.astore 4, 2) := by decide +kernel
theorem dL_hand_15 : decode cL_hand 15 = .ok (.iconst 1, 1) := by decide +kernel
theorem dL_hand_16 : decode cL_hand 16 = .ok (.ireturn, 1) := by decide +kernel
theorem dL_hand_17 : decode cL_hand 17 = .ok (.iconst 0, 1) := by decide +kernel
theorem dL_hand_18 : decode cL_hand 18 = .ok (.ireturn, 1) := by decide +kernel
theorem dL_put_0 : decode cL_put 0 = .ok (.aload_n 3, 1) := by decide +kernel
theorem dL_put_1 : decode cL_put 1 = .ok (.iconst 0, 1) := by decide +kernel
theorem dL_put_2 : decode cL_put 2 = .ok (.aload_n 0, 1) := by decide +kernel
theorem dL_put_3 : decode cL_put 3 = .ok (.iload_n 1, 1) := by decide +kernel
theorem dL_put_4 : decode cL_put 4 = .ok (.iload_n 2, 1) := by decide +kernel
theorem dL_put_5 : decode cL_put 5 = .ok (.invokevirtual 40, 3) := by decide +kernel
theorem dL_put_8 : decode cL_put 8 = .ok (.i2l, 1) := by decide +kernel
theorem dL_put_9 : decode cL_put 9 = .ok (.lastore, 1) := by decide +kernel
theorem dL_put_10 : decode cL_put 10 = .ok (.goto 7, 3) := by decide +kernel
theorem dL_put_13 : decode cL_put 13 = .ok (.astore 4, 2) := by decide +kernel
theorem dL_put_15 : decode cL_put 15 = .ok (.iconst 1, 1) := by decide +kernel
theorem dL_put_16 : decode cL_put 16 = .ok (.ireturn, 1) := by decide +kernel
theorem dL_put_17 : decode cL_put 17 = .ok (.iconst 0, 1) := by decide +kernel
theorem dL_put_18 : decode cL_put 18 = .ok (.ireturn, 1) := by decide +kernel
theorem dL_verdict_0 : decode cL_verdict 0 = .ok (.aload_n 3, 1) := by decide +kernel
theorem dL_verdict_1 : decode cL_verdict 1 = .ok (.iconst 0, 1) := by decide +kernel
theorem dL_verdict_2 : decode cL_verdict 2 = .ok (.aload_n 0, 1) := by decide +kernel
theorem dL_verdict_3 : decode cL_verdict 3 = .ok (.iload_n 1, 1) := by decide +kernel
theorem dL_verdict_4 : decode cL_verdict 4 = .ok (.iload_n 2, 1) := by decide +kernel
theorem dL_verdict_5 : decode cL_verdict 5 = .ok (.invokevirtual 43, 3) := by decide +kernel
theorem dL_verdict_8 : decode cL_verdict 8 = .ok (.i2l, 1) := by decide +kernel
theorem dL_verdict_9 : decode cL_verdict 9 = .ok (.lastore, 1) := by decide +kernel
theorem dL_verdict_10 : decode cL_verdict 10 = .ok (.goto 11, 3) := by decide +kernel
theorem dL_verdict_13 : decode cL_verdict 13 = .ok (.astore 4, 2) := by decide +kernel
theorem dL_verdict_15 : decode cL_verdict 15 = .ok (.iconst 1, 1) := by decide +kernel
theorem dL_verdict_16 : decode cL_verdict 16 = .ok (.ireturn, 1) := by decide +kernel
theorem dL_verdict_17 : decode cL_verdict 17 = .ok (.astore 4, 2) := by decide +kernel
theorem dL_verdict_19 : decode cL_verdict 19 = .ok (.iconst 2, 1) := by decide +kernel
theorem dL_verdict_20 : decode cL_verdict 20 = .ok (.ireturn, 1) := by decide +kernel
theorem dL_verdict_21 : decode cL_verdict 21 = .ok (.iconst 0, 1) := by decide +kernel
theorem dL_verdict_22 : decode cL_verdict 22 = .ok (.ireturn, 1) := by decide +kernel
theorem dL_lies_0 : decode cL_lies 0 = .ok (.aload_n 3, 1) := by decide +kernel
theorem dL_lies_1 : decode cL_lies 1 = .ok (.iconst 0, 1) := by decide +kernel
theorem dL_lies_2 : decode cL_lies 2 = .ok (.aload_n 0, 1) := by decide +kernel
theorem dL_lies_3 : decode cL_lies 3 = .ok (.iload_n 1, 1) := by decide +kernel
theorem dL_lies_4 : decode cL_lies 4 = .ok (.iload_n 2, 1) := by decide +kernel
theorem dL_lies_5 : decode cL_lies 5 = .ok (.invokevirtual 46, 3) := by decide +kernel
theorem dL_lies_8 : decode cL_lies 8 = .ok (.i2l, 1) := by decide +kernel
theorem dL_lies_9 : decode cL_lies 9 = .ok (.lastore, 1) := by decide +kernel
theorem dL_lies_10 : decode cL_lies 10 = .ok (.goto 11, 3) := by decide +kernel
theorem dL_lies_13 : decode cL_lies 13 = .ok (.astore 4, 2) := by decide +kernel
theorem dL_lies_15 : decode cL_lies 15 = .ok (.iconst 1, 1) := by decide +kernel
theorem dL_lies_16 : decode cL_lies 16 = .ok (.ireturn, 1) := by decide +kernel
theorem dL_lies_17 : decode cL_lies 17 = .ok (.astore 4, 2) := by decide +kernel
theorem dL_lies_19 : decode cL_lies 19 = .ok (.iconst 2, 1) := by decide +kernel
theorem dL_lies_20 : decode cL_lies 20 = .ok (.ireturn, 1) := by decide +kernel
theorem dL_lies_21 : decode cL_lies 21 = .ok (.iconst 0, 1) := by decide +kernel
theorem dL_lies_22 : decode cL_lies 22 = .ok (.ireturn, 1) := by decide +kernel
theorem dL_often_0 : decode cL_often 0 = .ok (.aload_n 3, 1) := by decide +kernel
theorem dL_often_1 : decode cL_often 1 = .ok (.iconst 0, 1) := by decide +kernel
theorem dL_often_2 : decode cL_often 2 = .ok (.aload_n 0, 1) := by decide +kernel
theorem dL_often_3 : decode cL_often 3 = .ok (.iload_n 1, 1) := by decide +kernel
theorem dL_often_4 : decode cL_often 4 = .ok (.iload_n 2, 1) := by decide +kernel
theorem dL_often_5 : decode cL_often 5 = .ok (.invokevirtual 49, 3) := by decide +kernel
theorem dL_often_8 : decode cL_often 8 = .ok (.i2l, 1) := by decide +kernel
theorem dL_often_9 : decode cL_often 9 = .ok (.lastore, 1) := by decide +kernel
theorem dL_often_10 : decode cL_often 10 = .ok (.goto 11, 3) := by decide +kernel
theorem dL_often_13 : decode cL_often 13 = .ok (.astore 4, 2) := by decide +kernel
theorem dL_often_15 : decode cL_often 15 = .ok (.iconst 1, 1) := by decide +kernel
theorem dL_often_16 : decode cL_often 16 = .ok (.ireturn, 1) := by decide +kernel
theorem dL_often_17 : decode cL_often 17 = .ok (.astore 4, 2) := by decide +kernel
theorem dL_often_19 : decode cL_often 19 = .ok (.iconst 2, 1) := by decide +kernel
theorem dL_often_20 : decode cL_often 20 = .ok (.ireturn, 1) := by decide +kernel
theorem dL_often_21 : decode cL_often 21 = .ok (.iconst 0, 1) := by decide +kernel
theorem dL_often_22 : decode cL_often 22 = .ok (.ireturn, 1) := by decide +kernel
theorem dL_first_0 : decode cL_first 0 = .ok (.aload_n 2, 1) := by decide +kernel
theorem dL_first_1 : decode cL_first 1 = .ok (.iconst 0, 1) := by decide +kernel
theorem dL_first_2 : decode cL_first 2 = .ok (.aload_n 0, 1) := by decide +kernel
theorem dL_first_3 : decode cL_first 3 = .ok (.iload_n 1, 1) := by decide +kernel
theorem dL_first_4 : decode cL_first 4 = .ok (.invokevirtual 52, 3) := by decide +kernel
theorem dL_first_7 : decode cL_first 7 = .ok (.i2l, 1) := by decide +kernel
theorem dL_first_8 : decode cL_first 8 = .ok (.lastore, 1) := by decide +kernel
theorem dL_first_9 : decode cL_first 9 = .ok (.goto 6, 3) := by decide +kernel
theorem dL_first_12 : decode cL_first 12 = .ok (.astore_n 3, 1) := by decide +kernel
theorem dL_first_13 : decode cL_first 13 = .ok (.iconst 1, 1) := by decide +kernel
theorem dL_first_14 : decode cL_first 14 = .ok (.ireturn, 1) := by decide +kernel
theorem dL_first_15 : decode cL_first 15 = .ok (.iconst 0, 1) := by decide +kernel
theorem dL_first_16 : decode cL_first 16 = .ok (.ireturn, 1) := by decide +kernel
theorem dL_pleased_0 : decode cL_pleased 0 = .ok (.aload_n 2, 1) := by decide +kernel
theorem dL_pleased_1 : decode cL_pleased 1 = .ok (.iconst 0, 1) := by decide +kernel
theorem dL_pleased_2 : decode cL_pleased 2 = .ok (.aload_n 0, 1) := by decide +kernel
theorem dL_pleased_3 : decode cL_pleased 3 = .ok (.iload_n 1, 1) := by decide +kernel
theorem dL_pleased_4 : decode cL_pleased 4 = .ok (.invokevirtual 55, 3) := by decide +kernel
theorem dL_pleased_7 : decode cL_pleased 7 = .ok (.i2l, 1) := by decide +kernel
theorem dL_pleased_8 : decode cL_pleased 8 = .ok (.lastore, 1) := by decide +kernel
theorem dL_pleased_9 : decode cL_pleased 9 = .ok (.goto 6, 3) := by decide +kernel
theorem dL_pleased_12 : decode cL_pleased 12 = .ok (.astore_n 3, 1) := by decide +kernel
theorem dL_pleased_13 : decode cL_pleased 13 = .ok (.iconst 1, 1) := by decide +kernel
theorem dL_pleased_14 : decode cL_pleased 14 = .ok (.ireturn, 1) := by decide +kernel
theorem dL_pleased_15 : decode cL_pleased 15 = .ok (.iconst 0, 1) := by decide +kernel
theorem dL_pleased_16 : decode cL_pleased 16 = .ok (.ireturn, 1) := by decide +kernel
theorem dL_swept_0 : decode cL_swept 0 = .ok (.aload_n 2, 1) := by decide +kernel
theorem dL_swept_1 : decode cL_swept 1 = .ok (.iconst 0, 1) := by decide +kernel
theorem dL_swept_2 : decode cL_swept 2 = .ok (.aload_n 0, 1) := by decide +kernel
theorem dL_swept_3 : decode cL_swept 3 = .ok (.iload_n 1, 1) := by decide +kernel
theorem dL_swept_4 : decode cL_swept 4 = .ok (.invokevirtual 58, 3) := by decide +kernel
theorem dL_swept_7 : decode cL_swept 7 = .ok (.i2l, 1) := by decide +kernel
theorem dL_swept_8 : decode cL_swept 8 = .ok (.lastore, 1) := by decide +kernel
theorem dL_swept_9 : decode cL_swept 9 = .ok (.goto 6, 3) := by decide +kernel
theorem dL_swept_12 : decode cL_swept 12 = .ok (.astore_n 3, 1) := by decide +kernel
theorem dL_swept_13 : decode cL_swept 13 = .ok (.iconst 1, 1) := by decide +kernel
theorem dL_swept_14 : decode cL_swept 14 = .ok (.ireturn, 1) := by decide +kernel
theorem dL_swept_15 : decode cL_swept 15 = .ok (.iconst 0, 1) := by decide +kernel
theorem dL_swept_16 : decode cL_swept 16 = .ok (.ireturn, 1) := by decide +kernel
theorem dL_orders_0 : decode cL_orders 0 = .ok (.aload_n 3, 1) := by decide +kernel
theorem dL_orders_1 : decode cL_orders 1 = .ok (.iconst 0, 1) := by decide +kernel
theorem dL_orders_2 : decode cL_orders 2 = .ok (.aload_n 0, 1) := by decide +kernel
theorem dL_orders_3 : decode cL_orders 3 = .ok (.iload_n 1, 1) := by decide +kernel
theorem dL_orders_4 : decode cL_orders 4 = .ok (.iload_n 2, 1) := by decide +kernel
theorem dL_orders_5 : decode cL_orders 5 = .ok (.invokevirtual 61, 3) := by decide +kernel
theorem dL_orders_8 : decode cL_orders 8 = .ok (.i2l, 1) := by decide +kernel
theorem dL_orders_9 : decode cL_orders 9 = .ok (.lastore, 1) := by decide +kernel
theorem dL_orders_10 : decode cL_orders 10 = .ok (.goto 7, 3) := by decide +kernel
theorem dL_orders_13 : decode cL_orders 13 = .ok (.astore 4, 2) := by decide +kernel
theorem dL_orders_15 : decode cL_orders 15 = .ok (.iconst 1, 1) := by decide +kernel
theorem dL_orders_16 : decode cL_orders 16 = .ok (.ireturn, 1) := by decide +kernel
theorem dL_orders_17 : decode cL_orders 17 = .ok (.iconst 0, 1) := by decide +kernel
theorem dL_orders_18 : decode cL_orders 18 = .ok (.ireturn, 1) := by decide +kernel
theorem dL_toTurn_0 : decode cL_toTurn 0 = .ok (.aload_n 2, 1) := by decide +kernel
theorem dL_toTurn_1 : decode cL_toTurn 1 = .ok (.iconst 0, 1) := by decide +kernel
theorem dL_toTurn_2 : decode cL_toTurn 2 = .ok (.aload_n 0, 1) := by decide +kernel
theorem dL_toTurn_3 : decode cL_toTurn 3 = .ok (.iload_n 1, 1) := by decide +kernel
theorem dL_toTurn_4 : decode cL_toTurn 4 = .ok (.invokevirtual 64, 3) := by decide +kernel
theorem dL_toTurn_7 : decode cL_toTurn 7 = .ok (.i2l, 1) := by decide +kernel
theorem dL_toTurn_8 : decode cL_toTurn 8 = .ok (.lastore, 1) := by decide +kernel
theorem dL_toTurn_9 : decode cL_toTurn 9 = .ok (.goto 6, 3) := by decide +kernel
theorem dL_toTurn_12 : decode cL_toTurn 12 = .ok (.astore_n 3, 1) := by decide +kernel
theorem dL_toTurn_13 : decode cL_toTurn 13 = .ok (.iconst 1, 1) := by decide +kernel
theorem dL_toTurn_14 : decode cL_toTurn 14 = .ok (.ireturn, 1) := by decide +kernel
theorem dL_toTurn_15 : decode cL_toTurn 15 = .ok (.iconst 0, 1) := by decide +kernel
theorem dL_toTurn_16 : decode cL_toTurn 16 = .ok (.ireturn, 1) := by decide +kernel
theorem dL_toDrink_0 : decode cL_toDrink 0 = .ok (.aload_n 3, 1) := by decide +kernel
theorem dL_toDrink_1 : decode cL_toDrink 1 = .ok (.iconst 0, 1) := by decide +kernel
theorem dL_toDrink_2 : decode cL_toDrink 2 = .ok (.aload_n 0, 1) := by decide +kernel
theorem dL_toDrink_3 : decode cL_toDrink 3 = .ok (.iload_n 1, 1) := by decide +kernel
theorem dL_toDrink_4 : decode cL_toDrink 4 = .ok (.iload_n 2, 1) := by decide +kernel
theorem dL_toDrink_5 : decode cL_toDrink 5 = .ok (.invokevirtual 67, 3) := by decide +kernel
theorem dL_toDrink_8 : decode cL_toDrink 8 = .ok (.i2l, 1) := by decide +kernel
theorem dL_toDrink_9 : decode cL_toDrink 9 = .ok (.lastore, 1) := by decide +kernel
theorem dL_toDrink_10 : decode cL_toDrink 10 = .ok (.goto 7, 3) := by decide +kernel
theorem dL_toDrink_13 : decode cL_toDrink 13 = .ok (.astore 4, 2) := by decide +kernel
theorem dL_toDrink_15 : decode cL_toDrink 15 = .ok (.iconst 1, 1) := by decide +kernel
theorem dL_toDrink_16 : decode cL_toDrink 16 = .ok (.ireturn, 1) := by decide +kernel
theorem dL_toDrink_17 : decode cL_toDrink 17 = .ok (.iconst 0, 1) := by decide +kernel
theorem dL_toDrink_18 : decode cL_toDrink 18 = .ok (.ireturn, 1) := by decide +kernel
theorem dL_toPour_0 : decode cL_toPour 0 = .ok (.aload_n 2, 1) := by decide +kernel
theorem dL_toPour_1 : decode cL_toPour 1 = .ok (.iconst 0, 1) := by decide +kernel
theorem dL_toPour_2 : decode cL_toPour 2 = .ok (.aload_n 0, 1) := by decide +kernel
theorem dL_toPour_3 : decode cL_toPour 3 = .ok (.iload_n 1, 1) := by decide +kernel
theorem dL_toPour_4 : decode cL_toPour 4 = .ok (.invokevirtual 70, 3) := by decide +kernel
theorem dL_toPour_7 : decode cL_toPour 7 = .ok (.i2l, 1) := by decide +kernel
theorem dL_toPour_8 : decode cL_toPour 8 = .ok (.lastore, 1) := by decide +kernel
theorem dL_toPour_9 : decode cL_toPour 9 = .ok (.goto 6, 3) := by decide +kernel
theorem dL_toPour_12 : decode cL_toPour 12 = .ok (.astore_n 3, 1) := by decide +kernel
theorem dL_toPour_13 : decode cL_toPour 13 = .ok (.iconst 1, 1) := by decide +kernel
theorem dL_toPour_14 : decode cL_toPour 14 = .ok (.ireturn, 1) := by decide +kernel
theorem dL_toPour_15 : decode cL_toPour 15 = .ok (.iconst 0, 1) := by decide +kernel
theorem dL_toPour_16 : decode cL_toPour 16 = .ok (.ireturn, 1) := by decide +kernel
theorem dL_toLay_0 : decode cL_toLay 0 = .ok (.aload_n 3, 1) := by decide +kernel
theorem dL_toLay_1 : decode cL_toLay 1 = .ok (.iconst 0, 1) := by decide +kernel
theorem dL_toLay_2 : decode cL_toLay 2 = .ok (.aload_n 0, 1) := by decide +kernel
theorem dL_toLay_3 : decode cL_toLay 3 = .ok (.iload_n 1, 1) := by decide +kernel
theorem dL_toLay_4 : decode cL_toLay 4 = .ok (.iload_n 2, 1) := by decide +kernel
theorem dL_toLay_5 : decode cL_toLay 5 = .ok (.invokevirtual 73, 3) := by decide +kernel
theorem dL_toLay_8 : decode cL_toLay 8 = .ok (.i2l, 1) := by decide +kernel
theorem dL_toLay_9 : decode cL_toLay 9 = .ok (.lastore, 1) := by decide +kernel
theorem dL_toLay_10 : decode cL_toLay 10 = .ok (.goto 7, 3) := by decide +kernel
theorem dL_toLay_13 : decode cL_toLay 13 = .ok (.astore 4, 2) := by decide +kernel
theorem dL_toLay_15 : decode cL_toLay 15 = .ok (.iconst 1, 1) := by decide +kernel
theorem dL_toLay_16 : decode cL_toLay 16 = .ok (.ireturn, 1) := by decide +kernel
theorem dL_toLay_17 : decode cL_toLay 17 = .ok (.iconst 0, 1) := by decide +kernel
theorem dL_toLay_18 : decode cL_toLay 18 = .ok (.ireturn, 1) := by decide +kernel
theorem dL_better_0 : decode cL_better 0 = .ok (.aload_n 2, 1) := by decide +kernel
theorem dL_better_1 : decode cL_better 1 = .ok (.iconst 0, 1) := by decide +kernel
theorem dL_better_2 : decode cL_better 2 = .ok (.aload_n 0, 1) := by decide +kernel
theorem dL_better_3 : decode cL_better 3 = .ok (.iload_n 1, 1) := by decide +kernel
theorem dL_better_4 : decode cL_better 4 = .ok (.invokevirtual 76, 3) := by decide +kernel
theorem dL_better_7 : decode cL_better 7 = .ok (.i2l, 1) := by decide +kernel
theorem dL_better_8 : decode cL_better 8 = .ok (.lastore, 1) := by decide +kernel
theorem dL_better_9 : decode cL_better 9 = .ok (.goto 6, 3) := by decide +kernel
theorem dL_better_12 : decode cL_better 12 = .ok (.astore_n 3, 1) := by decide +kernel
theorem dL_better_13 : decode cL_better 13 = .ok (.iconst 1, 1) := by decide +kernel
theorem dL_better_14 : decode cL_better 14 = .ok (.ireturn, 1) := by decide +kernel
theorem dL_better_15 : decode cL_better 15 = .ok (.iconst 0, 1) := by decide +kernel
theorem dL_better_16 : decode cL_better 16 = .ok (.ireturn, 1) := by decide +kernel
theorem dL_stir_0 : decode cL_stir 0 = .ok (.aload 4, 2) := by decide +kernel
theorem dL_stir_2 : decode cL_stir 2 = .ok (.iconst 0, 1) := by decide +kernel
theorem dL_stir_3 : decode cL_stir 3 = .ok (.aload_n 0, 1) := by decide +kernel
theorem dL_stir_4 : decode cL_stir 4 = .ok (.iload_n 1, 1) := by decide +kernel
theorem dL_stir_5 : decode cL_stir 5 = .ok (.iload_n 2, 1) := by decide +kernel
theorem dL_stir_6 : decode cL_stir 6 = .ok (.iload_n 3, 1) := by decide +kernel
theorem dL_stir_7 : decode cL_stir 7 = .ok (.invokevirtual 79, 3) := by decide +kernel
theorem dL_stir_10 : decode cL_stir 10 = .ok (.i2l, 1) := by decide +kernel
theorem dL_stir_11 : decode cL_stir 11 = .ok (.lastore, 1) := by decide +kernel
theorem dL_stir_12 : decode cL_stir 12 = .ok (.goto 11, 3) := by decide +kernel
theorem dL_stir_15 : decode cL_stir 15 = .ok (.astore 5, 2) := by decide +kernel
theorem dL_stir_17 : decode cL_stir 17 = .ok (.iconst 1, 1) := by decide +kernel
theorem dL_stir_18 : decode cL_stir 18 = .ok (.ireturn, 1) := by decide +kernel
theorem dL_stir_19 : decode cL_stir 19 = .ok (.astore 5, 2) := by decide +kernel
theorem dL_stir_21 : decode cL_stir 21 = .ok (.iconst 2, 1) := by decide +kernel
theorem dL_stir_22 : decode cL_stir 22 = .ok (.ireturn, 1) := by decide +kernel
theorem dL_stir_23 : decode cL_stir 23 = .ok (.iconst 0, 1) := by decide +kernel
theorem dL_stir_24 : decode cL_stir 24 = .ok (.ireturn, 1) := by decide +kernel
theorem dL_apart_0 : decode cL_apart 0 = .ok (.aload_n 3, 1) := by decide +kernel
theorem dL_apart_1 : decode cL_apart 1 = .ok (.iconst 0, 1) := by decide +kernel
theorem dL_apart_2 : decode cL_apart 2 = .ok (.aload_n 0, 1) := by decide +kernel
theorem dL_apart_3 : decode cL_apart 3 = .ok (.iload_n 1, 1) := by decide +kernel
theorem dL_apart_4 : decode cL_apart 4 = .ok (.iload_n 2, 1) := by decide +kernel
theorem dL_apart_5 : decode cL_apart 5 = .ok (.invokevirtual 83, 3) := by decide +kernel
theorem dL_apart_8 : decode cL_apart 8 = .ok (.i2l, 1) := by decide +kernel
theorem dL_apart_9 : decode cL_apart 9 = .ok (.lastore, 1) := by decide +kernel
theorem dL_apart_10 : decode cL_apart 10 = .ok (.goto 7, 3) := by decide +kernel
theorem dL_apart_13 : decode cL_apart 13 = .ok (.astore 4, 2) := by decide +kernel
theorem dL_apart_15 : decode cL_apart 15 = .ok (.iconst 1, 1) := by decide +kernel
theorem dL_apart_16 : decode cL_apart 16 = .ok (.ireturn, 1) := by decide +kernel
theorem dL_apart_17 : decode cL_apart 17 = .ok (.iconst 0, 1) := by decide +kernel
theorem dL_apart_18 : decode cL_apart 18 = .ok (.ireturn, 1) := by decide +kernel
theorem dL_drunk_0 : decode cL_drunk 0 = .ok (.aload_n 3, 1) := by decide +kernel
theorem dL_drunk_1 : decode cL_drunk 1 = .ok (.iconst 0, 1) := by decide +kernel
theorem dL_drunk_2 : decode cL_drunk 2 = .ok (.aload_n 0, 1) := by decide +kernel
theorem dL_drunk_3 : decode cL_drunk 3 = .ok (.iload_n 1, 1) := by decide +kernel
theorem dL_drunk_4 : decode cL_drunk 4 = .ok (.iload_n 2, 1) := by decide +kernel
theorem dL_drunk_5 : decode cL_drunk 5 = .ok (.invokevirtual 86, 3) := by decide +kernel
theorem dL_drunk_8 : decode cL_drunk 8 = .ok (.i2l, 1) := by decide +kernel
theorem dL_drunk_9 : decode cL_drunk 9 = .ok (.lastore, 1) := by decide +kernel
theorem dL_drunk_10 : decode cL_drunk 10 = .ok (.goto 11, 3) := by decide +kernel
theorem dL_drunk_13 : decode cL_drunk 13 = .ok (.astore 4, 2) := by decide +kernel
theorem dL_drunk_15 : decode cL_drunk 15 = .ok (.iconst 1, 1) := by decide +kernel
theorem dL_drunk_16 : decode cL_drunk 16 = .ok (.ireturn, 1) := by decide +kernel
theorem dL_drunk_17 : decode cL_drunk 17 = .ok (.astore 4, 2) := by decide +kernel
theorem dL_drunk_19 : decode cL_drunk 19 = .ok (.iconst 2, 1) := by decide +kernel
theorem dL_drunk_20 : decode cL_drunk 20 = .ok (.ireturn, 1) := by decide +kernel
theorem dL_drunk_21 : decode cL_drunk 21 = .ok (.iconst 0, 1) := by decide +kernel
theorem dL_drunk_22 : decode cL_drunk 22 = .ok (.ireturn, 1) := by decide +kernel
theorem dL_thirstiest_0 : decode cL_thirstiest 0 = .ok (.aload_n 2, 1) := by decide +kernel
theorem dL_thirstiest_1 : decode cL_thirstiest 1 = .ok (.iconst 0, 1) := by decide +kernel
theorem dL_thirstiest_2 : decode cL_thirstiest 2 = .ok (.aload_n 0, 1) := by decide +kernel
theorem dL_thirstiest_3 : decode cL_thirstiest 3 = .ok (.iload_n 1, 1) := by decide +kernel
theorem dL_thirstiest_4 : decode cL_thirstiest 4 = .ok (.invokevirtual 89, 3) := by decide +kernel
theorem dL_thirstiest_7 : decode cL_thirstiest 7 = .ok (.i2l, 1) := by decide +kernel
theorem dL_thirstiest_8 : decode cL_thirstiest 8 = .ok (.lastore, 1) := by decide +kernel
theorem dL_thirstiest_9 : decode cL_thirstiest 9 = .ok (.goto 6, 3) := by decide +kernel
theorem dL_thirstiest_12 : decode cL_thirstiest 12 = .ok (.astore_n 3, 1) := by decide +kernel
theorem dL_thirstiest_13 : decode cL_thirstiest 13 = .ok (.iconst 1, 1) := by decide +kernel
theorem dL_thirstiest_14 : decode cL_thirstiest 14 = .ok (.ireturn, 1) := by decide +kernel
theorem dL_thirstiest_15 : decode cL_thirstiest 15 = .ok (.iconst 0, 1) := by decide +kernel
theorem dL_thirstiest_16 : decode cL_thirstiest 16 = .ok (.ireturn, 1) := by decide +kernel
theorem dL_streak_0 : decode cL_streak 0 = .ok (.aload_n 2, 1) := by decide +kernel
theorem dL_streak_1 : decode cL_streak 1 = .ok (.iconst 0, 1) := by decide +kernel
theorem dL_streak_2 : decode cL_streak 2 = .ok (.aload_n 0, 1) := by decide +kernel
theorem dL_streak_3 : decode cL_streak 3 = .ok (.iload_n 1, 1) := by decide +kernel
theorem dL_streak_4 : decode cL_streak 4 = .ok (.invokevirtual 92, 3) := by decide +kernel
theorem dL_streak_7 : decode cL_streak 7 = .ok (.i2l, 1) := by decide +kernel
theorem dL_streak_8 : decode cL_streak 8 = .ok (.lastore, 1) := by decide +kernel
theorem dL_streak_9 : decode cL_streak 9 = .ok (.goto 6, 3) := by decide +kernel
theorem dL_streak_12 : decode cL_streak 12 = .ok (.astore_n 3, 1) := by decide +kernel
theorem dL_streak_13 : decode cL_streak 13 = .ok (.iconst 1, 1) := by decide +kernel
theorem dL_streak_14 : decode cL_streak 14 = .ok (.ireturn, 1) := by decide +kernel
theorem dL_streak_15 : decode cL_streak 15 = .ok (.iconst 0, 1) := by decide +kernel
theorem dL_streak_16 : decode cL_streak 16 = .ok (.ireturn, 1) := by decide +kernel
theorem dL_come_0 : decode cL_come 0 = .ok (.aload_n 2, 1) := by decide +kernel
theorem dL_come_1 : decode cL_come 1 = .ok (.iconst 0, 1) := by decide +kernel
theorem dL_come_2 : decode cL_come 2 = .ok (.aload_n 0, 1) := by decide +kernel
theorem dL_come_3 : decode cL_come 3 = .ok (.iload_n 1, 1) := by decide +kernel
theorem dL_come_4 : decode cL_come 4 = .ok (.invokevirtual 95, 3) := by decide +kernel
theorem dL_come_7 : decode cL_come 7 = .ok (.i2l, 1) := by decide +kernel
theorem dL_come_8 : decode cL_come 8 = .ok (.lastore, 1) := by decide +kernel
theorem dL_come_9 : decode cL_come 9 = .ok (.goto 6, 3) := by decide +kernel
theorem dL_come_12 : decode cL_come 12 = .ok (.astore_n 3, 1) := by decide +kernel
theorem dL_come_13 : decode cL_come 13 = .ok (.iconst 1, 1) := by decide +kernel
theorem dL_come_14 : decode cL_come 14 = .ok (.ireturn, 1) := by decide +kernel
theorem dL_come_15 : decode cL_come 15 = .ok (.iconst 0, 1) := by decide +kernel
theorem dL_come_16 : decode cL_come 16 = .ok (.ireturn, 1) := by decide +kernel
theorem dL_weight_0 : decode cL_weight 0 = .ok (.aload_n 2, 1) := by decide +kernel
theorem dL_weight_1 : decode cL_weight 1 = .ok (.iconst 0, 1) := by decide +kernel
theorem dL_weight_2 : decode cL_weight 2 = .ok (.aload_n 0, 1) := by decide +kernel
theorem dL_weight_3 : decode cL_weight 3 = .ok (.iload_n 1, 1) := by decide +kernel
theorem dL_weight_4 : decode cL_weight 4 = .ok (.invokevirtual 98, 3) := by decide +kernel
theorem dL_weight_7 : decode cL_weight 7 = .ok (.i2l, 1) := by decide +kernel
theorem dL_weight_8 : decode cL_weight 8 = .ok (.lastore, 1) := by decide +kernel
theorem dL_weight_9 : decode cL_weight 9 = .ok (.goto 6, 3) := by decide +kernel
theorem dL_weight_12 : decode cL_weight 12 = .ok (.astore_n 3, 1) := by decide +kernel
theorem dL_weight_13 : decode cL_weight 13 = .ok (.iconst 1, 1) := by decide +kernel
theorem dL_weight_14 : decode cL_weight 14 = .ok (.ireturn, 1) := by decide +kernel
theorem dL_weight_15 : decode cL_weight 15 = .ok (.iconst 0, 1) := by decide +kernel
theorem dL_weight_16 : decode cL_weight 16 = .ok (.ireturn, 1) := by decide +kernel
theorem dL_read_0 : decode cL_read 0 = .ok (.aload_n 3, 1) := by decide +kernel
theorem dL_read_1 : decode cL_read 1 = .ok (.iconst 0, 1) := by decide +kernel
theorem dL_read_2 : decode cL_read 2 = .ok (.aload_n 0, 1) := by decide +kernel
theorem dL_read_3 : decode cL_read 3 = .ok (.iload_n 1, 1) := by decide +kernel
theorem dL_read_4 : decode cL_read 4 = .ok (.iload_n 2, 1) := by decide +kernel
theorem dL_read_5 : decode cL_read 5 = .ok (.invokevirtual 101, 3) := by decide +kernel
theorem dL_read_8 : decode cL_read 8 = .ok (.i2l, 1) := by decide +kernel
theorem dL_read_9 : decode cL_read 9 = .ok (.lastore, 1) := by decide +kernel
theorem dL_read_10 : decode cL_read 10 = .ok (.goto 7, 3) := by decide +kernel
theorem dL_read_13 : decode cL_read 13 = .ok (.astore 4, 2) := by decide +kernel
theorem dL_read_15 : decode cL_read 15 = .ok (.iconst 1, 1) := by decide +kernel
theorem dL_read_16 : decode cL_read 16 = .ok (.ireturn, 1) := by decide +kernel
theorem dL_read_17 : decode cL_read 17 = .ok (.iconst 0, 1) := by decide +kernel
theorem dL_read_18 : decode cL_read 18 = .ok (.ireturn, 1) := by decide +kernel
theorem dL_handed_0 : decode cL_handed 0 = .ok (.aload_n 2, 1) := by decide +kernel
theorem dL_handed_1 : decode cL_handed 1 = .ok (.iconst 0, 1) := by decide +kernel
theorem dL_handed_2 : decode cL_handed 2 = .ok (.aload_n 0, 1) := by decide +kernel
theorem dL_handed_3 : decode cL_handed 3 = .ok (.iload_n 1, 1) := by decide +kernel
theorem dL_handed_4 : decode cL_handed 4 = .ok (.invokevirtual 104, 3) := by decide +kernel
theorem dL_handed_7 : decode cL_handed 7 = .ok (.i2l, 1) := by decide +kernel
theorem dL_handed_8 : decode cL_handed 8 = .ok (.lastore, 1) := by decide +kernel
theorem dL_handed_9 : decode cL_handed 9 = .ok (.goto 6, 3) := by decide +kernel
theorem dL_handed_12 : decode cL_handed 12 = .ok (.astore_n 3, 1) := by decide +kernel
theorem dL_handed_13 : decode cL_handed 13 = .ok (.iconst 1, 1) := by decide +kernel
theorem dL_handed_14 : decode cL_handed 14 = .ok (.ireturn, 1) := by decide +kernel
theorem dL_handed_15 : decode cL_handed 15 = .ok (.iconst 0, 1) := by decide +kernel
theorem dL_handed_16 : decode cL_handed 16 = .ok (.ireturn, 1) := by decide +kernel
theorem dL_look_0 : decode cL_look 0 = .ok (.aload_n 2, 1) := by decide +kernel
theorem dL_look_1 : decode cL_look 1 = .ok (.iconst 0, 1) := by decide +kernel
theorem dL_look_2 : decode cL_look 2 = .ok (.aload_n 0, 1) := by decide +kernel
theorem dL_look_3 : decode cL_look 3 = .ok (.iload_n 1, 1) := by decide +kernel
theorem dL_look_4 : decode cL_look 4 = .ok (.invokevirtual 107, 3) := by decide +kernel
theorem dL_look_7 : decode cL_look 7 = .ok (.i2l, 1) := by decide +kernel
theorem dL_look_8 : decode cL_look 8 = .ok (.lastore, 1) := by decide +kernel
theorem dL_look_9 : decode cL_look 9 = .ok (.goto 6, 3) := by decide +kernel
theorem dL_look_12 : decode cL_look 12 = .ok (.astore_n 3, 1) := by decide +kernel
theorem dL_look_13 : decode cL_look 13 = .ok (.iconst 1, 1) := by decide +kernel
theorem dL_look_14 : decode cL_look 14 = .ok (.ireturn, 1) := by decide +kernel
theorem dL_look_15 : decode cL_look 15 = .ok (.iconst 0, 1) := by decide +kernel
theorem dL_look_16 : decode cL_look 16 = .ok (.ireturn, 1) := by decide +kernel
theorem dL_game_0 : decode cL_game 0 = .ok (.aload 4, 2) := by decide +kernel
theorem dL_game_2 : decode cL_game 2 = .ok (.iconst 0, 1) := by decide +kernel
theorem dL_game_3 : decode cL_game 3 = .ok (.aload_n 0, 1) := by decide +kernel
theorem dL_game_4 : decode cL_game 4 = .ok (.iload_n 1, 1) := by decide +kernel
theorem dL_game_5 : decode cL_game 5 = .ok (.iload_n 2, 1) := by decide +kernel
theorem dL_game_6 : decode cL_game 6 = .ok (.iload_n 3, 1) := by decide +kernel
theorem dL_game_7 : decode cL_game 7 = .ok (.invokevirtual 110, 3) := by decide +kernel
theorem dL_game_10 : decode cL_game 10 = .ok (.i2l, 1) := by decide +kernel
theorem dL_game_11 : decode cL_game 11 = .ok (.lastore, 1) := by decide +kernel
theorem dL_game_12 : decode cL_game 12 = .ok (.goto 11, 3) := by decide +kernel
theorem dL_game_15 : decode cL_game 15 = .ok (.astore 5, 2) := by decide +kernel
theorem dL_game_17 : decode cL_game 17 = .ok (.iconst 1, 1) := by decide +kernel
theorem dL_game_18 : decode cL_game 18 = .ok (.ireturn, 1) := by decide +kernel
theorem dL_game_19 : decode cL_game 19 = .ok (.astore 5, 2) := by decide +kernel
theorem dL_game_21 : decode cL_game 21 = .ok (.iconst 2, 1) := by decide +kernel
theorem dL_game_22 : decode cL_game 22 = .ok (.ireturn, 1) := by decide +kernel
theorem dL_game_23 : decode cL_game 23 = .ok (.iconst 0, 1) := by decide +kernel
theorem dL_game_24 : decode cL_game 24 = .ok (.ireturn, 1) := by decide +kernel
theorem dL_years_0 : decode cL_years 0 = .ok (.aload 4, 2) := by decide +kernel
theorem dL_years_2 : decode cL_years 2 = .ok (.iconst 0, 1) := by decide +kernel
theorem dL_years_3 : decode cL_years 3 = .ok (.aload_n 0, 1) := by decide +kernel
theorem dL_years_4 : decode cL_years 4 = .ok (.iload_n 1, 1) := by decide +kernel
theorem dL_years_5 : decode cL_years 5 = .ok (.iload_n 2, 1) := by decide +kernel
theorem dL_years_6 : decode cL_years 6 = .ok (.iload_n 3, 1) := by decide +kernel
theorem dL_years_7 : decode cL_years 7 = .ok (.invokevirtual 113, 3) := by decide +kernel
theorem dL_years_10 : decode cL_years 10 = .ok (.i2l, 1) := by decide +kernel
theorem dL_years_11 : decode cL_years 11 = .ok (.lastore, 1) := by decide +kernel
theorem dL_years_12 : decode cL_years 12 = .ok (.goto 11, 3) := by decide +kernel
theorem dL_years_15 : decode cL_years 15 = .ok (.astore 5, 2) := by decide +kernel
theorem dL_years_17 : decode cL_years 17 = .ok (.iconst 1, 1) := by decide +kernel
theorem dL_years_18 : decode cL_years 18 = .ok (.ireturn, 1) := by decide +kernel
theorem dL_years_19 : decode cL_years 19 = .ok (.astore 5, 2) := by decide +kernel
theorem dL_years_21 : decode cL_years 21 = .ok (.iconst 2, 1) := by decide +kernel
theorem dL_years_22 : decode cL_years 22 = .ok (.ireturn, 1) := by decide +kernel
theorem dL_years_23 : decode cL_years 23 = .ok (.iconst 0, 1) := by decide +kernel
theorem dL_years_24 : decode cL_years 24 = .ok (.ireturn, 1) := by decide +kernel
abbrev mL_court : zM := (yL_court, cL_court, 4, (some .int))
abbrev hL_court : List (Nat × Nat × Nat × Nat) := [(0, 9, 12, 13)]
set_option maxRecDepth 100000 in
theorem cw_court {E : zE} {h : zH} {x0 : Int} {d k : Nat} {Q : Option Value → zH → Prop} {X : String → zH → Prop} (hM : zCal E mX5_court d k [zrv E 0, ziv x0] h Q X) (hQ : ∀ r h', Q r h' → ∃ v, r = some (ziv v)) (hX : ∀ e h', X e h' → e = IAE) : zCalH E mL_court hL_court (d + 1) k [zrv E 0, ziv x0, zrv E 103] h (fun r h' => (∃ v h1, r = some (ziv 0) ∧ Q (some (ziv v)) h1 ∧ h' = zup h1 103 0 (zn v)) ∨ (∃ e, r = some (ziv 1) ∧ X e h')) (fun _ _ => False) := by
  refine zCalH_of (by decide) (Nat.le_of_ble_eq_true rfl) (fun a => ?_)
  show zVh _ _ 0 0 [zrv E 0, ziv x0, zrv E 103, .null] [] _
  refine zH_aload_nr dL_court_0 rfl rfl ?_
  refine zH_iconst dL_court_1 ?_
  refine zH_aload_nr dL_court_2 rfl rfl ?_
  refine zH_iload_n dL_court_3 rfl rfl ?_
  refine zH_callV (As := [ziv x0]) lkL_7 rfl rfl rfl hM ⟨Nat.le_refl _, by show 0 + k ≤ k; omega⟩ rfl (Nat.le_of_ble_eq_true rfl) dL_court_4 (fun Ex h1 hx => ?_) (fun r h1 hq => ?_)
  · have e9 := hX Ex h1 hx
    subst e9
    refine ⟨12, ⟨[], ⟨0, 9, 12, 13⟩, [], rfl, (fun z hz => absurd hz List.not_mem_nil), by decide, by decide, kL_13, by decide, rfl⟩, fun a9 => ?_⟩
    refine zH_astore_n dL_court_12 rfl (Nat.le_of_ble_eq_true rfl) rfl ?_
    refine zH_iconst dL_court_13 ?_
    exact zH_ireturn dL_court_14 rfl (by show 0 + k ≤ k; omega) (Or.inr ⟨IAE, rfl, hx⟩)
  · obtain ⟨v, rfl⟩ := hQ r h1 hq
    refine zH_i2lz dL_court_7 ?_
    refine zH_lastore (N := 1) rfl (by decide) (by decide) dL_court_8 ?_
    refine zH_goto (tgt := 15) dL_court_9 (by decide) ?_
    refine zH_iconst dL_court_15 ?_
    exact zH_ireturn dL_court_16 rfl (by show 0 + k ≤ k; omega) (Or.inl ⟨v, h1, rfl, hq, rfl⟩)
abbrev mL_count : zM := (yL_count, cL_count, 4, (some .int))
abbrev hL_count : List (Nat × Nat × Nat × Nat) := [(0, 9, 12, 18)]
set_option maxRecDepth 100000 in
theorem cw_count {E : zE} {h : zH} {x0 : Int} {d k : Nat} {Q : Option Value → zH → Prop} {X : String → zH → Prop} (hM : zCal E mX5_count d k [zrv E 0, ziv x0] h Q X) (hQ : ∀ r h', Q r h' → ∃ v, r = some (ziv v)) (hX : ∀ e h', X e h' → e = NSE) : zCalH E mL_count hL_count (d + 1) k [zrv E 0, ziv x0, zrv E 103] h (fun r h' => (∃ v h1, r = some (ziv 0) ∧ Q (some (ziv v)) h1 ∧ h' = zup h1 103 0 (zn v)) ∨ (∃ e, r = some (ziv 1) ∧ X e h')) (fun _ _ => False) := by
  refine zCalH_of (by decide) (Nat.le_of_ble_eq_true rfl) (fun a => ?_)
  show zVh _ _ 0 0 [zrv E 0, ziv x0, zrv E 103, .null] [] _
  refine zH_aload_nr dL_count_0 rfl rfl ?_
  refine zH_iconst dL_count_1 ?_
  refine zH_aload_nr dL_count_2 rfl rfl ?_
  refine zH_iload_n dL_count_3 rfl rfl ?_
  refine zH_callV (As := [ziv x0]) lkL_15 rfl rfl rfl hM ⟨Nat.le_refl _, by show 0 + k ≤ k; omega⟩ rfl (Nat.le_of_ble_eq_true rfl) dL_count_4 (fun Ex h1 hx => ?_) (fun r h1 hq => ?_)
  · have e9 := hX Ex h1 hx
    subst e9
    refine ⟨12, ⟨[], ⟨0, 9, 12, 18⟩, [], rfl, (fun z hz => absurd hz List.not_mem_nil), by decide, by decide, kL_18, by decide, rfl⟩, fun a9 => ?_⟩
    refine zH_astore_n dL_count_12 rfl (Nat.le_of_ble_eq_true rfl) rfl ?_
    refine zH_iconst dL_count_13 ?_
    exact zH_ireturn dL_count_14 rfl (by show 0 + k ≤ k; omega) (Or.inr ⟨NSE, rfl, hx⟩)
  · obtain ⟨v, rfl⟩ := hQ r h1 hq
    refine zH_i2lz dL_count_7 ?_
    refine zH_lastore (N := 1) rfl (by decide) (by decide) dL_count_8 ?_
    refine zH_goto (tgt := 15) dL_count_9 (by decide) ?_
    refine zH_iconst dL_count_15 ?_
    exact zH_ireturn dL_count_16 rfl (by show 0 + k ≤ k; omega) (Or.inl ⟨v, h1, rfl, hq, rfl⟩)
abbrev mL_leaf : zM := (yL_leaf, cL_leaf, 5, (some .int))
abbrev hL_leaf : List (Nat × Nat × Nat × Nat) := [(0, 10, 13, 18)]
set_option maxRecDepth 100000 in
theorem cw_leaf {E : zE} {h : zH} {x0 x1 : Int} {d k : Nat} {Q : Option Value → zH → Prop} {X : String → zH → Prop} (hM : zCal E mX5_leaf d k [zrv E 0, ziv x0, ziv x1] h Q X) (hQ : ∀ r h', Q r h' → ∃ v, r = some (ziv v)) (hX : ∀ e h', X e h' → e = NSE) : zCalH E mL_leaf hL_leaf (d + 1) k [zrv E 0, ziv x0, ziv x1, zrv E 103] h (fun r h' => (∃ v h1, r = some (ziv 0) ∧ Q (some (ziv v)) h1 ∧ h' = zup h1 103 0 (zn v)) ∨ (∃ e, r = some (ziv 1) ∧ X e h')) (fun _ _ => False) := by
  refine zCalH_of (by decide) (Nat.le_of_ble_eq_true rfl) (fun a => ?_)
  show zVh _ _ 0 0 [zrv E 0, ziv x0, ziv x1, zrv E 103, .null] [] _
  refine zH_aload_nr dL_leaf_0 rfl rfl ?_
  refine zH_iconst dL_leaf_1 ?_
  refine zH_aload_nr dL_leaf_2 rfl rfl ?_
  refine zH_iload_n dL_leaf_3 rfl rfl ?_
  refine zH_iload_n dL_leaf_4 rfl rfl ?_
  refine zH_callV (As := [ziv x0, ziv x1]) lkL_20 rfl rfl rfl hM ⟨Nat.le_refl _, by show 0 + k ≤ k; omega⟩ rfl (Nat.le_of_ble_eq_true rfl) dL_leaf_5 (fun Ex h1 hx => ?_) (fun r h1 hq => ?_)
  · have e9 := hX Ex h1 hx
    subst e9
    refine ⟨13, ⟨[], ⟨0, 10, 13, 18⟩, [], rfl, (fun z hz => absurd hz List.not_mem_nil), by decide, by decide, kL_18, by decide, rfl⟩, fun a9 => ?_⟩
    refine zH_astore dL_leaf_13 (Nat.le_of_ble_eq_true rfl) rfl ?_
    refine zH_iconst dL_leaf_15 ?_
    exact zH_ireturn dL_leaf_16 rfl (by show 0 + k ≤ k; omega) (Or.inr ⟨NSE, rfl, hx⟩)
  · obtain ⟨v, rfl⟩ := hQ r h1 hq
    refine zH_i2lz dL_leaf_8 ?_
    refine zH_lastore (N := 1) rfl (by decide) (by decide) dL_leaf_9 ?_
    refine zH_goto (tgt := 17) dL_leaf_10 (by decide) ?_
    refine zH_iconst dL_leaf_17 ?_
    exact zH_ireturn dL_leaf_18 rfl (by show 0 + k ≤ k; omega) (Or.inl ⟨v, h1, rfl, hq, rfl⟩)
abbrev mL_judge : zM := (yL_judge, cL_judge, 5, (some .int))
abbrev hL_judge : List (Nat × Nat × Nat × Nat) := [(0, 10, 13, 18)]
set_option maxRecDepth 100000 in
theorem cw_judge {E : zE} {h : zH} {x0 x1 : Int} {d k : Nat} {Q : Option Value → zH → Prop} {X : String → zH → Prop} (hM : zCal E mX5_judge d k [zrv E 0, ziv x0, ziv x1] h Q X) (hQ : ∀ r h', Q r h' → ∃ v, r = some (ziv v)) (hX : ∀ e h', X e h' → e = NSE) : zCalH E mL_judge hL_judge (d + 1) k [zrv E 0, ziv x0, ziv x1, zrv E 103] h (fun r h' => (∃ v h1, r = some (ziv 0) ∧ Q (some (ziv v)) h1 ∧ h' = zup h1 103 0 (zn v)) ∨ (∃ e, r = some (ziv 1) ∧ X e h')) (fun _ _ => False) := by
  refine zCalH_of (by decide) (Nat.le_of_ble_eq_true rfl) (fun a => ?_)
  show zVh _ _ 0 0 [zrv E 0, ziv x0, ziv x1, zrv E 103, .null] [] _
  refine zH_aload_nr dL_judge_0 rfl rfl ?_
  refine zH_iconst dL_judge_1 ?_
  refine zH_aload_nr dL_judge_2 rfl rfl ?_
  refine zH_iload_n dL_judge_3 rfl rfl ?_
  refine zH_iload_n dL_judge_4 rfl rfl ?_
  refine zH_callV (As := [ziv x0, ziv x1]) lkL_24 rfl rfl rfl hM ⟨Nat.le_refl _, by show 0 + k ≤ k; omega⟩ rfl (Nat.le_of_ble_eq_true rfl) dL_judge_5 (fun Ex h1 hx => ?_) (fun r h1 hq => ?_)
  · have e9 := hX Ex h1 hx
    subst e9
    refine ⟨13, ⟨[], ⟨0, 10, 13, 18⟩, [], rfl, (fun z hz => absurd hz List.not_mem_nil), by decide, by decide, kL_18, by decide, rfl⟩, fun a9 => ?_⟩
    refine zH_astore dL_judge_13 (Nat.le_of_ble_eq_true rfl) rfl ?_
    refine zH_iconst dL_judge_15 ?_
    exact zH_ireturn dL_judge_16 rfl (by show 0 + k ≤ k; omega) (Or.inr ⟨NSE, rfl, hx⟩)
  · obtain ⟨v, rfl⟩ := hQ r h1 hq
    refine zH_i2lz dL_judge_8 ?_
    refine zH_lastore (N := 1) rfl (by decide) (by decide) dL_judge_9 ?_
    refine zH_goto (tgt := 17) dL_judge_10 (by decide) ?_
    refine zH_iconst dL_judge_17 ?_
    exact zH_ireturn dL_judge_18 rfl (by show 0 + k ≤ k; omega) (Or.inl ⟨v, h1, rfl, hq, rfl⟩)
abbrev mL_seat : zM := (yL_seat, cL_seat, 4, (some .int))
abbrev hL_seat : List (Nat × Nat × Nat × Nat) := [(0, 9, 12, 18)]
set_option maxRecDepth 100000 in
theorem cw_seat {E : zE} {h : zH} {x0 : Int} {d k : Nat} {Q : Option Value → zH → Prop} {X : String → zH → Prop} (hM : zCal E mX5_seat d k [zrv E 0, ziv x0] h Q X) (hQ : ∀ r h', Q r h' → ∃ v, r = some (ziv v)) (hX : ∀ e h', X e h' → e = NSE) : zCalH E mL_seat hL_seat (d + 1) k [zrv E 0, ziv x0, zrv E 103] h (fun r h' => (∃ v h1, r = some (ziv 0) ∧ Q (some (ziv v)) h1 ∧ h' = zup h1 103 0 (zn v)) ∨ (∃ e, r = some (ziv 1) ∧ X e h')) (fun _ _ => False) := by
  refine zCalH_of (by decide) (Nat.le_of_ble_eq_true rfl) (fun a => ?_)
  show zVh _ _ 0 0 [zrv E 0, ziv x0, zrv E 103, .null] [] _
  refine zH_aload_nr dL_seat_0 rfl rfl ?_
  refine zH_iconst dL_seat_1 ?_
  refine zH_aload_nr dL_seat_2 rfl rfl ?_
  refine zH_iload_n dL_seat_3 rfl rfl ?_
  refine zH_callV (As := [ziv x0]) lkL_27 rfl rfl rfl hM ⟨Nat.le_refl _, by show 0 + k ≤ k; omega⟩ rfl (Nat.le_of_ble_eq_true rfl) dL_seat_4 (fun Ex h1 hx => ?_) (fun r h1 hq => ?_)
  · have e9 := hX Ex h1 hx
    subst e9
    refine ⟨12, ⟨[], ⟨0, 9, 12, 18⟩, [], rfl, (fun z hz => absurd hz List.not_mem_nil), by decide, by decide, kL_18, by decide, rfl⟩, fun a9 => ?_⟩
    refine zH_astore_n dL_seat_12 rfl (Nat.le_of_ble_eq_true rfl) rfl ?_
    refine zH_iconst dL_seat_13 ?_
    exact zH_ireturn dL_seat_14 rfl (by show 0 + k ≤ k; omega) (Or.inr ⟨NSE, rfl, hx⟩)
  · obtain ⟨v, rfl⟩ := hQ r h1 hq
    refine zH_i2lz dL_seat_7 ?_
    refine zH_lastore (N := 1) rfl (by decide) (by decide) dL_seat_8 ?_
    refine zH_goto (tgt := 15) dL_seat_9 (by decide) ?_
    refine zH_iconst dL_seat_15 ?_
    exact zH_ireturn dL_seat_16 rfl (by show 0 + k ≤ k; omega) (Or.inl ⟨v, h1, rfl, hq, rfl⟩)
abbrev mL_heap : zM := (yL_heap, cL_heap, 4, (some .int))
abbrev hL_heap : List (Nat × Nat × Nat × Nat) := [(0, 9, 12, 18)]
set_option maxRecDepth 100000 in
theorem cw_heap {E : zE} {h : zH} {x0 : Int} {d k : Nat} {Q : Option Value → zH → Prop} {X : String → zH → Prop} (hM : zCal E mX5_heap d k [zrv E 0, ziv x0] h Q X) (hQ : ∀ r h', Q r h' → ∃ v, r = some (ziv v)) (hX : ∀ e h', X e h' → e = NSE) : zCalH E mL_heap hL_heap (d + 1) k [zrv E 0, ziv x0, zrv E 103] h (fun r h' => (∃ v h1, r = some (ziv 0) ∧ Q (some (ziv v)) h1 ∧ h' = zup h1 103 0 (zn v)) ∨ (∃ e, r = some (ziv 1) ∧ X e h')) (fun _ _ => False) := by
  refine zCalH_of (by decide) (Nat.le_of_ble_eq_true rfl) (fun a => ?_)
  show zVh _ _ 0 0 [zrv E 0, ziv x0, zrv E 103, .null] [] _
  refine zH_aload_nr dL_heap_0 rfl rfl ?_
  refine zH_iconst dL_heap_1 ?_
  refine zH_aload_nr dL_heap_2 rfl rfl ?_
  refine zH_iload_n dL_heap_3 rfl rfl ?_
  refine zH_callV (As := [ziv x0]) lkL_30 rfl rfl rfl hM ⟨Nat.le_refl _, by show 0 + k ≤ k; omega⟩ rfl (Nat.le_of_ble_eq_true rfl) dL_heap_4 (fun Ex h1 hx => ?_) (fun r h1 hq => ?_)
  · have e9 := hX Ex h1 hx
    subst e9
    refine ⟨12, ⟨[], ⟨0, 9, 12, 18⟩, [], rfl, (fun z hz => absurd hz List.not_mem_nil), by decide, by decide, kL_18, by decide, rfl⟩, fun a9 => ?_⟩
    refine zH_astore_n dL_heap_12 rfl (Nat.le_of_ble_eq_true rfl) rfl ?_
    refine zH_iconst dL_heap_13 ?_
    exact zH_ireturn dL_heap_14 rfl (by show 0 + k ≤ k; omega) (Or.inr ⟨NSE, rfl, hx⟩)
  · obtain ⟨v, rfl⟩ := hQ r h1 hq
    refine zH_i2lz dL_heap_7 ?_
    refine zH_lastore (N := 1) rfl (by decide) (by decide) dL_heap_8 ?_
    refine zH_goto (tgt := 15) dL_heap_9 (by decide) ?_
    refine zH_iconst dL_heap_15 ?_
    exact zH_ireturn dL_heap_16 rfl (by show 0 + k ≤ k; omega) (Or.inl ⟨v, h1, rfl, hq, rfl⟩)
abbrev mL_change : zM := (yL_change, cL_change, 5, (some .int))
abbrev hL_change : List (Nat × Nat × Nat × Nat) := [(0, 17, 20, 18)]
set_option maxRecDepth 100000 in
theorem cw_change {E : zE} {h : zH} {x0 x1 : Int} {d k : Nat} {Q : Option Value → zH → Prop} {X : String → zH → Prop} (hM : zCal E mX5_change d k [zrv E 0, ziv x0, ziv x1] h Q X) (hQ : ∀ r h', Q r h' → ∃ v, r = some (ziv v)) (hX : ∀ e h', X e h' → e = NSE) : zCalH E mL_change hL_change (d + 1) k [zrv E 0, ziv x0, ziv x1, zrv E 103] h (fun r h' => (∃ v h1, r = some (ziv 0) ∧ Q (some (ziv v)) h1 ∧ h' = zup h1 103 0 (if zn v = 0 then 0 else 1)) ∨ (∃ e, r = some (ziv 1) ∧ X e h')) (fun _ _ => False) := by
  refine zCalH_of (by decide) (Nat.le_of_ble_eq_true rfl) (fun a => ?_)
  show zVh _ _ 0 0 [zrv E 0, ziv x0, ziv x1, zrv E 103, .null] [] _
  refine zH_aload_nr dL_change_0 rfl rfl ?_
  refine zH_iconst dL_change_1 ?_
  refine zH_aload_nr dL_change_2 rfl rfl ?_
  refine zH_iload_n dL_change_3 rfl rfl ?_
  refine zH_iload_n dL_change_4 rfl rfl ?_
  refine zH_callV (As := [ziv x0, ziv x1]) lkL_33 rfl rfl rfl hM ⟨Nat.le_refl _, by show 0 + k ≤ k; omega⟩ rfl (Nat.le_of_ble_eq_true rfl) dL_change_5 (fun Ex h1 hx => ?_) (fun r h1 hq => ?_)
  · have e9 := hX Ex h1 hx
    subst e9
    refine ⟨20, ⟨[], ⟨0, 17, 20, 18⟩, [], rfl, (fun z hz => absurd hz List.not_mem_nil), by decide, by decide, kL_18, by decide, rfl⟩, fun a9 => ?_⟩
    refine zH_astore dL_change_20 (Nat.le_of_ble_eq_true rfl) rfl ?_
    refine zH_iconst dL_change_22 ?_
    exact zH_ireturn dL_change_23 rfl (by show 0 + k ≤ k; omega) (Or.inr ⟨NSE, rfl, hx⟩)
  · obtain ⟨v, rfl⟩ := hQ r h1 hq
    refine zH_if_eq (tgt := 15) dL_change_8 (by decide) (fun z9 => ?_) (fun z9 => ?_)
    · refine zH_lconst dL_change_15 ?_
      refine zH_lastore (N := 1) rfl (by decide) (by decide) dL_change_16 ?_
      refine zH_goto (tgt := 24) dL_change_17 (by decide) ?_
      refine zH_iconst dL_change_24 ?_
      exact zH_ireturn dL_change_25 rfl (by show 0 + k ≤ k; omega) (Or.inl ⟨v, h1, rfl, hq, by rw [if_pos z9]; rfl⟩)
    · refine zH_lconst dL_change_11 ?_
      refine zH_goto (tgt := 16) dL_change_12 (by decide) ?_
      refine zH_lastore (N := 1) rfl (by decide) (by decide) dL_change_16 ?_
      refine zH_goto (tgt := 24) dL_change_17 (by decide) ?_
      refine zH_iconst dL_change_24 ?_
      exact zH_ireturn dL_change_25 rfl (by show 0 + k ≤ k; omega) (Or.inl ⟨v, h1, rfl, hq, by rw [if_neg z9]; rfl⟩)
abbrev mL_hand : zM := (yL_hand, cL_hand, 5, (some .int))
abbrev hL_hand : List (Nat × Nat × Nat × Nat) := [(0, 10, 13, 18)]
set_option maxRecDepth 100000 in
theorem cw_hand {E : zE} {h : zH} {x0 x1 : Int} {d k : Nat} {Q : Option Value → zH → Prop} {X : String → zH → Prop} (hM : zCal E mX5_hand d k [zrv E 0, ziv x0, ziv x1] h Q X) (hQ : ∀ r h', Q r h' → ∃ v, r = some (ziv v)) (hX : ∀ e h', X e h' → e = NSE) : zCalH E mL_hand hL_hand (d + 1) k [zrv E 0, ziv x0, ziv x1, zrv E 103] h (fun r h' => (∃ v h1, r = some (ziv 0) ∧ Q (some (ziv v)) h1 ∧ h' = zup h1 103 0 (zn v)) ∨ (∃ e, r = some (ziv 1) ∧ X e h')) (fun _ _ => False) := by
  refine zCalH_of (by decide) (Nat.le_of_ble_eq_true rfl) (fun a => ?_)
  show zVh _ _ 0 0 [zrv E 0, ziv x0, ziv x1, zrv E 103, .null] [] _
  refine zH_aload_nr dL_hand_0 rfl rfl ?_
  refine zH_iconst dL_hand_1 ?_
  refine zH_aload_nr dL_hand_2 rfl rfl ?_
  refine zH_iload_n dL_hand_3 rfl rfl ?_
  refine zH_iload_n dL_hand_4 rfl rfl ?_
  refine zH_callV (As := [ziv x0, ziv x1]) lkL_37 rfl rfl rfl hM ⟨Nat.le_refl _, by show 0 + k ≤ k; omega⟩ rfl (Nat.le_of_ble_eq_true rfl) dL_hand_5 (fun Ex h1 hx => ?_) (fun r h1 hq => ?_)
  · have e9 := hX Ex h1 hx
    subst e9
    refine ⟨13, ⟨[], ⟨0, 10, 13, 18⟩, [], rfl, (fun z hz => absurd hz List.not_mem_nil), by decide, by decide, kL_18, by decide, rfl⟩, fun a9 => ?_⟩
    refine zH_astore dL_hand_13 (Nat.le_of_ble_eq_true rfl) rfl ?_
    refine zH_iconst dL_hand_15 ?_
    exact zH_ireturn dL_hand_16 rfl (by show 0 + k ≤ k; omega) (Or.inr ⟨NSE, rfl, hx⟩)
  · obtain ⟨v, rfl⟩ := hQ r h1 hq
    refine zH_i2lz dL_hand_8 ?_
    refine zH_lastore (N := 1) rfl (by decide) (by decide) dL_hand_9 ?_
    refine zH_goto (tgt := 17) dL_hand_10 (by decide) ?_
    refine zH_iconst dL_hand_17 ?_
    exact zH_ireturn dL_hand_18 rfl (by show 0 + k ≤ k; omega) (Or.inl ⟨v, h1, rfl, hq, rfl⟩)
abbrev mL_put : zM := (yL_put, cL_put, 5, (some .int))
abbrev hL_put : List (Nat × Nat × Nat × Nat) := [(0, 10, 13, 18)]
set_option maxRecDepth 100000 in
theorem cw_put {E : zE} {h : zH} {x0 x1 : Int} {d k : Nat} {Q : Option Value → zH → Prop} {X : String → zH → Prop} (hM : zCal E mX5_put d k [zrv E 0, ziv x0, ziv x1] h Q X) (hQ : ∀ r h', Q r h' → ∃ v, r = some (ziv v)) (hX : ∀ e h', X e h' → e = NSE) : zCalH E mL_put hL_put (d + 1) k [zrv E 0, ziv x0, ziv x1, zrv E 103] h (fun r h' => (∃ v h1, r = some (ziv 0) ∧ Q (some (ziv v)) h1 ∧ h' = zup h1 103 0 (zn v)) ∨ (∃ e, r = some (ziv 1) ∧ X e h')) (fun _ _ => False) := by
  refine zCalH_of (by decide) (Nat.le_of_ble_eq_true rfl) (fun a => ?_)
  show zVh _ _ 0 0 [zrv E 0, ziv x0, ziv x1, zrv E 103, .null] [] _
  refine zH_aload_nr dL_put_0 rfl rfl ?_
  refine zH_iconst dL_put_1 ?_
  refine zH_aload_nr dL_put_2 rfl rfl ?_
  refine zH_iload_n dL_put_3 rfl rfl ?_
  refine zH_iload_n dL_put_4 rfl rfl ?_
  refine zH_callV (As := [ziv x0, ziv x1]) lkL_40 rfl rfl rfl hM ⟨Nat.le_refl _, by show 0 + k ≤ k; omega⟩ rfl (Nat.le_of_ble_eq_true rfl) dL_put_5 (fun Ex h1 hx => ?_) (fun r h1 hq => ?_)
  · have e9 := hX Ex h1 hx
    subst e9
    refine ⟨13, ⟨[], ⟨0, 10, 13, 18⟩, [], rfl, (fun z hz => absurd hz List.not_mem_nil), by decide, by decide, kL_18, by decide, rfl⟩, fun a9 => ?_⟩
    refine zH_astore dL_put_13 (Nat.le_of_ble_eq_true rfl) rfl ?_
    refine zH_iconst dL_put_15 ?_
    exact zH_ireturn dL_put_16 rfl (by show 0 + k ≤ k; omega) (Or.inr ⟨NSE, rfl, hx⟩)
  · obtain ⟨v, rfl⟩ := hQ r h1 hq
    refine zH_i2lz dL_put_8 ?_
    refine zH_lastore (N := 1) rfl (by decide) (by decide) dL_put_9 ?_
    refine zH_goto (tgt := 17) dL_put_10 (by decide) ?_
    refine zH_iconst dL_put_17 ?_
    exact zH_ireturn dL_put_18 rfl (by show 0 + k ≤ k; omega) (Or.inl ⟨v, h1, rfl, hq, rfl⟩)
abbrev mL_verdict : zM := (yL_verdict, cL_verdict, 5, (some .int))
abbrev hL_verdict : List (Nat × Nat × Nat × Nat) := [(0, 10, 13, 18), (0, 10, 17, 13)]
set_option maxRecDepth 100000 in
theorem cw_verdict {E : zE} {h : zH} {x0 x1 : Int} {d k : Nat} {Q : Option Value → zH → Prop} {X : String → zH → Prop} (hM : zCal E mX5_verdict d k [zrv E 0, ziv x0, ziv x1] h Q X) (hQ : ∀ r h', Q r h' → ∃ v, r = some (ziv v)) (hX : ∀ e h', X e h' → e = NSE ∨ e = IAE) : zCalH E mL_verdict hL_verdict (d + 1) k [zrv E 0, ziv x0, ziv x1, zrv E 103] h (fun r h' => (∃ v h1, r = some (ziv 0) ∧ Q (some (ziv v)) h1 ∧ h' = zup h1 103 0 (zn v)) ∨ (∃ e, r = some (ziv (if e = NSE then 1 else 2)) ∧ X e h')) (fun _ _ => False) := by
  refine zCalH_of (by decide) (Nat.le_of_ble_eq_true rfl) (fun a => ?_)
  show zVh _ _ 0 0 [zrv E 0, ziv x0, ziv x1, zrv E 103, .null] [] _
  refine zH_aload_nr dL_verdict_0 rfl rfl ?_
  refine zH_iconst dL_verdict_1 ?_
  refine zH_aload_nr dL_verdict_2 rfl rfl ?_
  refine zH_iload_n dL_verdict_3 rfl rfl ?_
  refine zH_iload_n dL_verdict_4 rfl rfl ?_
  refine zH_callV (As := [ziv x0, ziv x1]) lkL_43 rfl rfl rfl hM ⟨Nat.le_refl _, by show 0 + k ≤ k; omega⟩ rfl (Nat.le_of_ble_eq_true rfl) dL_verdict_5 (fun Ex h1 hx => ?_) (fun r h1 hq => ?_)
  · rcases hX Ex h1 hx with e9 | e9
    · subst e9
      refine ⟨13, ⟨[], ⟨0, 10, 13, 18⟩, [⟨0, 10, 17, 13⟩], rfl, (fun z hz => absurd hz List.not_mem_nil), by decide, by decide, kL_18, by decide, rfl⟩, fun a9 => ?_⟩
      refine zH_astore dL_verdict_13 (Nat.le_of_ble_eq_true rfl) rfl ?_
      refine zH_iconst dL_verdict_15 ?_
      exact zH_ireturn dL_verdict_16 rfl (by show 0 + k ≤ k; omega) (Or.inr ⟨NSE, rfl, hx⟩)
    · subst e9
      refine ⟨17, ⟨[⟨0, 10, 13, 18⟩], ⟨0, 10, 17, 13⟩, [], rfl, (fun z hz => by rw [List.mem_singleton.mp hz]; exact Or.inr ⟨by decide, rfl, kL_18⟩), by decide, by decide, kL_13, by decide, rfl⟩, fun a9 => ?_⟩
      refine zH_astore dL_verdict_17 (Nat.le_of_ble_eq_true rfl) rfl ?_
      refine zH_iconst dL_verdict_19 ?_
      exact zH_ireturn dL_verdict_20 rfl (by show 0 + k ≤ k; omega) (Or.inr ⟨IAE, rfl, hx⟩)
  · obtain ⟨v, rfl⟩ := hQ r h1 hq
    refine zH_i2lz dL_verdict_8 ?_
    refine zH_lastore (N := 1) rfl (by decide) (by decide) dL_verdict_9 ?_
    refine zH_goto (tgt := 21) dL_verdict_10 (by decide) ?_
    refine zH_iconst dL_verdict_21 ?_
    exact zH_ireturn dL_verdict_22 rfl (by show 0 + k ≤ k; omega) (Or.inl ⟨v, h1, rfl, hq, rfl⟩)
abbrev mL_lies : zM := (yL_lies, cL_lies, 5, (some .int))
abbrev hL_lies : List (Nat × Nat × Nat × Nat) := [(0, 10, 13, 18), (0, 10, 17, 13)]
set_option maxRecDepth 100000 in
theorem cw_lies {E : zE} {h : zH} {x0 x1 : Int} {d k : Nat} {Q : Option Value → zH → Prop} {X : String → zH → Prop} (hM : zCal E mX5_lies d k [zrv E 0, ziv x0, ziv x1] h Q X) (hQ : ∀ r h', Q r h' → ∃ v, r = some (ziv v)) (hX : ∀ e h', X e h' → e = NSE ∨ e = IAE) : zCalH E mL_lies hL_lies (d + 1) k [zrv E 0, ziv x0, ziv x1, zrv E 103] h (fun r h' => (∃ v h1, r = some (ziv 0) ∧ Q (some (ziv v)) h1 ∧ h' = zup h1 103 0 (zn v)) ∨ (∃ e, r = some (ziv (if e = NSE then 1 else 2)) ∧ X e h')) (fun _ _ => False) := by
  refine zCalH_of (by decide) (Nat.le_of_ble_eq_true rfl) (fun a => ?_)
  show zVh _ _ 0 0 [zrv E 0, ziv x0, ziv x1, zrv E 103, .null] [] _
  refine zH_aload_nr dL_lies_0 rfl rfl ?_
  refine zH_iconst dL_lies_1 ?_
  refine zH_aload_nr dL_lies_2 rfl rfl ?_
  refine zH_iload_n dL_lies_3 rfl rfl ?_
  refine zH_iload_n dL_lies_4 rfl rfl ?_
  refine zH_callV (As := [ziv x0, ziv x1]) lkL_46 rfl rfl rfl hM ⟨Nat.le_refl _, by show 0 + k ≤ k; omega⟩ rfl (Nat.le_of_ble_eq_true rfl) dL_lies_5 (fun Ex h1 hx => ?_) (fun r h1 hq => ?_)
  · rcases hX Ex h1 hx with e9 | e9
    · subst e9
      refine ⟨13, ⟨[], ⟨0, 10, 13, 18⟩, [⟨0, 10, 17, 13⟩], rfl, (fun z hz => absurd hz List.not_mem_nil), by decide, by decide, kL_18, by decide, rfl⟩, fun a9 => ?_⟩
      refine zH_astore dL_lies_13 (Nat.le_of_ble_eq_true rfl) rfl ?_
      refine zH_iconst dL_lies_15 ?_
      exact zH_ireturn dL_lies_16 rfl (by show 0 + k ≤ k; omega) (Or.inr ⟨NSE, rfl, hx⟩)
    · subst e9
      refine ⟨17, ⟨[⟨0, 10, 13, 18⟩], ⟨0, 10, 17, 13⟩, [], rfl, (fun z hz => by rw [List.mem_singleton.mp hz]; exact Or.inr ⟨by decide, rfl, kL_18⟩), by decide, by decide, kL_13, by decide, rfl⟩, fun a9 => ?_⟩
      refine zH_astore dL_lies_17 (Nat.le_of_ble_eq_true rfl) rfl ?_
      refine zH_iconst dL_lies_19 ?_
      exact zH_ireturn dL_lies_20 rfl (by show 0 + k ≤ k; omega) (Or.inr ⟨IAE, rfl, hx⟩)
  · obtain ⟨v, rfl⟩ := hQ r h1 hq
    refine zH_i2lz dL_lies_8 ?_
    refine zH_lastore (N := 1) rfl (by decide) (by decide) dL_lies_9 ?_
    refine zH_goto (tgt := 21) dL_lies_10 (by decide) ?_
    refine zH_iconst dL_lies_21 ?_
    exact zH_ireturn dL_lies_22 rfl (by show 0 + k ≤ k; omega) (Or.inl ⟨v, h1, rfl, hq, rfl⟩)
abbrev mL_often : zM := (yL_often, cL_often, 5, (some .int))
abbrev hL_often : List (Nat × Nat × Nat × Nat) := [(0, 10, 13, 18), (0, 10, 17, 13)]
set_option maxRecDepth 100000 in
theorem cw_often {E : zE} {h : zH} {x0 x1 : Int} {d k : Nat} {Q : Option Value → zH → Prop} {X : String → zH → Prop} (hM : zCal E mX5_often d k [zrv E 0, ziv x0, ziv x1] h Q X) (hQ : ∀ r h', Q r h' → ∃ v, r = some (ziv v)) (hX : ∀ e h', X e h' → e = NSE ∨ e = IAE) : zCalH E mL_often hL_often (d + 1) k [zrv E 0, ziv x0, ziv x1, zrv E 103] h (fun r h' => (∃ v h1, r = some (ziv 0) ∧ Q (some (ziv v)) h1 ∧ h' = zup h1 103 0 (zn v)) ∨ (∃ e, r = some (ziv (if e = NSE then 1 else 2)) ∧ X e h')) (fun _ _ => False) := by
  refine zCalH_of (by decide) (Nat.le_of_ble_eq_true rfl) (fun a => ?_)
  show zVh _ _ 0 0 [zrv E 0, ziv x0, ziv x1, zrv E 103, .null] [] _
  refine zH_aload_nr dL_often_0 rfl rfl ?_
  refine zH_iconst dL_often_1 ?_
  refine zH_aload_nr dL_often_2 rfl rfl ?_
  refine zH_iload_n dL_often_3 rfl rfl ?_
  refine zH_iload_n dL_often_4 rfl rfl ?_
  refine zH_callV (As := [ziv x0, ziv x1]) lkL_49 rfl rfl rfl hM ⟨Nat.le_refl _, by show 0 + k ≤ k; omega⟩ rfl (Nat.le_of_ble_eq_true rfl) dL_often_5 (fun Ex h1 hx => ?_) (fun r h1 hq => ?_)
  · rcases hX Ex h1 hx with e9 | e9
    · subst e9
      refine ⟨13, ⟨[], ⟨0, 10, 13, 18⟩, [⟨0, 10, 17, 13⟩], rfl, (fun z hz => absurd hz List.not_mem_nil), by decide, by decide, kL_18, by decide, rfl⟩, fun a9 => ?_⟩
      refine zH_astore dL_often_13 (Nat.le_of_ble_eq_true rfl) rfl ?_
      refine zH_iconst dL_often_15 ?_
      exact zH_ireturn dL_often_16 rfl (by show 0 + k ≤ k; omega) (Or.inr ⟨NSE, rfl, hx⟩)
    · subst e9
      refine ⟨17, ⟨[⟨0, 10, 13, 18⟩], ⟨0, 10, 17, 13⟩, [], rfl, (fun z hz => by rw [List.mem_singleton.mp hz]; exact Or.inr ⟨by decide, rfl, kL_18⟩), by decide, by decide, kL_13, by decide, rfl⟩, fun a9 => ?_⟩
      refine zH_astore dL_often_17 (Nat.le_of_ble_eq_true rfl) rfl ?_
      refine zH_iconst dL_often_19 ?_
      exact zH_ireturn dL_often_20 rfl (by show 0 + k ≤ k; omega) (Or.inr ⟨IAE, rfl, hx⟩)
  · obtain ⟨v, rfl⟩ := hQ r h1 hq
    refine zH_i2lz dL_often_8 ?_
    refine zH_lastore (N := 1) rfl (by decide) (by decide) dL_often_9 ?_
    refine zH_goto (tgt := 21) dL_often_10 (by decide) ?_
    refine zH_iconst dL_often_21 ?_
    exact zH_ireturn dL_often_22 rfl (by show 0 + k ≤ k; omega) (Or.inl ⟨v, h1, rfl, hq, rfl⟩)
abbrev mL_first : zM := (yL_first, cL_first, 4, (some .int))
abbrev hL_first : List (Nat × Nat × Nat × Nat) := [(0, 9, 12, 18)]
set_option maxRecDepth 100000 in
theorem cw_first {E : zE} {h : zH} {x0 : Int} {d k : Nat} {Q : Option Value → zH → Prop} {X : String → zH → Prop} (hM : zCal E mX5_first d k [zrv E 0, ziv x0] h Q X) (hQ : ∀ r h', Q r h' → ∃ v, r = some (ziv v)) (hX : ∀ e h', X e h' → e = NSE) : zCalH E mL_first hL_first (d + 1) k [zrv E 0, ziv x0, zrv E 103] h (fun r h' => (∃ v h1, r = some (ziv 0) ∧ Q (some (ziv v)) h1 ∧ h' = zup h1 103 0 (zn v)) ∨ (∃ e, r = some (ziv 1) ∧ X e h')) (fun _ _ => False) := by
  refine zCalH_of (by decide) (Nat.le_of_ble_eq_true rfl) (fun a => ?_)
  show zVh _ _ 0 0 [zrv E 0, ziv x0, zrv E 103, .null] [] _
  refine zH_aload_nr dL_first_0 rfl rfl ?_
  refine zH_iconst dL_first_1 ?_
  refine zH_aload_nr dL_first_2 rfl rfl ?_
  refine zH_iload_n dL_first_3 rfl rfl ?_
  refine zH_callV (As := [ziv x0]) lkL_52 rfl rfl rfl hM ⟨Nat.le_refl _, by show 0 + k ≤ k; omega⟩ rfl (Nat.le_of_ble_eq_true rfl) dL_first_4 (fun Ex h1 hx => ?_) (fun r h1 hq => ?_)
  · have e9 := hX Ex h1 hx
    subst e9
    refine ⟨12, ⟨[], ⟨0, 9, 12, 18⟩, [], rfl, (fun z hz => absurd hz List.not_mem_nil), by decide, by decide, kL_18, by decide, rfl⟩, fun a9 => ?_⟩
    refine zH_astore_n dL_first_12 rfl (Nat.le_of_ble_eq_true rfl) rfl ?_
    refine zH_iconst dL_first_13 ?_
    exact zH_ireturn dL_first_14 rfl (by show 0 + k ≤ k; omega) (Or.inr ⟨NSE, rfl, hx⟩)
  · obtain ⟨v, rfl⟩ := hQ r h1 hq
    refine zH_i2lz dL_first_7 ?_
    refine zH_lastore (N := 1) rfl (by decide) (by decide) dL_first_8 ?_
    refine zH_goto (tgt := 15) dL_first_9 (by decide) ?_
    refine zH_iconst dL_first_15 ?_
    exact zH_ireturn dL_first_16 rfl (by show 0 + k ≤ k; omega) (Or.inl ⟨v, h1, rfl, hq, rfl⟩)
abbrev mL_pleased : zM := (yL_pleased, cL_pleased, 4, (some .int))
abbrev hL_pleased : List (Nat × Nat × Nat × Nat) := [(0, 9, 12, 13)]
set_option maxRecDepth 100000 in
theorem cw_pleased {E : zE} {h : zH} {x0 : Int} {d k : Nat} {Q : Option Value → zH → Prop} {X : String → zH → Prop} (hM : zCal E mX5_pleased d k [zrv E 0, ziv x0] h Q X) (hQ : ∀ r h', Q r h' → ∃ v, r = some (ziv v)) (hX : ∀ e h', X e h' → e = IAE) : zCalH E mL_pleased hL_pleased (d + 1) k [zrv E 0, ziv x0, zrv E 103] h (fun r h' => (∃ v h1, r = some (ziv 0) ∧ Q (some (ziv v)) h1 ∧ h' = zup h1 103 0 (zn v)) ∨ (∃ e, r = some (ziv 1) ∧ X e h')) (fun _ _ => False) := by
  refine zCalH_of (by decide) (Nat.le_of_ble_eq_true rfl) (fun a => ?_)
  show zVh _ _ 0 0 [zrv E 0, ziv x0, zrv E 103, .null] [] _
  refine zH_aload_nr dL_pleased_0 rfl rfl ?_
  refine zH_iconst dL_pleased_1 ?_
  refine zH_aload_nr dL_pleased_2 rfl rfl ?_
  refine zH_iload_n dL_pleased_3 rfl rfl ?_
  refine zH_callV (As := [ziv x0]) lkL_55 rfl rfl rfl hM ⟨Nat.le_refl _, by show 0 + k ≤ k; omega⟩ rfl (Nat.le_of_ble_eq_true rfl) dL_pleased_4 (fun Ex h1 hx => ?_) (fun r h1 hq => ?_)
  · have e9 := hX Ex h1 hx
    subst e9
    refine ⟨12, ⟨[], ⟨0, 9, 12, 13⟩, [], rfl, (fun z hz => absurd hz List.not_mem_nil), by decide, by decide, kL_13, by decide, rfl⟩, fun a9 => ?_⟩
    refine zH_astore_n dL_pleased_12 rfl (Nat.le_of_ble_eq_true rfl) rfl ?_
    refine zH_iconst dL_pleased_13 ?_
    exact zH_ireturn dL_pleased_14 rfl (by show 0 + k ≤ k; omega) (Or.inr ⟨IAE, rfl, hx⟩)
  · obtain ⟨v, rfl⟩ := hQ r h1 hq
    refine zH_i2lz dL_pleased_7 ?_
    refine zH_lastore (N := 1) rfl (by decide) (by decide) dL_pleased_8 ?_
    refine zH_goto (tgt := 15) dL_pleased_9 (by decide) ?_
    refine zH_iconst dL_pleased_15 ?_
    exact zH_ireturn dL_pleased_16 rfl (by show 0 + k ≤ k; omega) (Or.inl ⟨v, h1, rfl, hq, rfl⟩)
abbrev mL_swept : zM := (yL_swept, cL_swept, 4, (some .int))
abbrev hL_swept : List (Nat × Nat × Nat × Nat) := [(0, 9, 12, 13)]
set_option maxRecDepth 100000 in
theorem cw_swept {E : zE} {h : zH} {x0 : Int} {d k : Nat} {Q : Option Value → zH → Prop} {X : String → zH → Prop} (hM : zCal E mX5_swept d k [zrv E 0, ziv x0] h Q X) (hQ : ∀ r h', Q r h' → ∃ v, r = some (ziv v)) (hX : ∀ e h', X e h' → e = IAE) : zCalH E mL_swept hL_swept (d + 1) k [zrv E 0, ziv x0, zrv E 103] h (fun r h' => (∃ v h1, r = some (ziv 0) ∧ Q (some (ziv v)) h1 ∧ h' = zup h1 103 0 (zn v)) ∨ (∃ e, r = some (ziv 1) ∧ X e h')) (fun _ _ => False) := by
  refine zCalH_of (by decide) (Nat.le_of_ble_eq_true rfl) (fun a => ?_)
  show zVh _ _ 0 0 [zrv E 0, ziv x0, zrv E 103, .null] [] _
  refine zH_aload_nr dL_swept_0 rfl rfl ?_
  refine zH_iconst dL_swept_1 ?_
  refine zH_aload_nr dL_swept_2 rfl rfl ?_
  refine zH_iload_n dL_swept_3 rfl rfl ?_
  refine zH_callV (As := [ziv x0]) lkL_58 rfl rfl rfl hM ⟨Nat.le_refl _, by show 0 + k ≤ k; omega⟩ rfl (Nat.le_of_ble_eq_true rfl) dL_swept_4 (fun Ex h1 hx => ?_) (fun r h1 hq => ?_)
  · have e9 := hX Ex h1 hx
    subst e9
    refine ⟨12, ⟨[], ⟨0, 9, 12, 13⟩, [], rfl, (fun z hz => absurd hz List.not_mem_nil), by decide, by decide, kL_13, by decide, rfl⟩, fun a9 => ?_⟩
    refine zH_astore_n dL_swept_12 rfl (Nat.le_of_ble_eq_true rfl) rfl ?_
    refine zH_iconst dL_swept_13 ?_
    exact zH_ireturn dL_swept_14 rfl (by show 0 + k ≤ k; omega) (Or.inr ⟨IAE, rfl, hx⟩)
  · obtain ⟨v, rfl⟩ := hQ r h1 hq
    refine zH_i2lz dL_swept_7 ?_
    refine zH_lastore (N := 1) rfl (by decide) (by decide) dL_swept_8 ?_
    refine zH_goto (tgt := 15) dL_swept_9 (by decide) ?_
    refine zH_iconst dL_swept_15 ?_
    exact zH_ireturn dL_swept_16 rfl (by show 0 + k ≤ k; omega) (Or.inl ⟨v, h1, rfl, hq, rfl⟩)
abbrev mL_orders : zM := (yL_orders, cL_orders, 5, (some .int))
abbrev hL_orders : List (Nat × Nat × Nat × Nat) := [(0, 10, 13, 18)]
set_option maxRecDepth 100000 in
theorem cw_orders {E : zE} {h : zH} {x0 x1 : Int} {d k : Nat} {Q : Option Value → zH → Prop} {X : String → zH → Prop} (hM : zCal E mX5_orders d k [zrv E 0, ziv x0, ziv x1] h Q X) (hQ : ∀ r h', Q r h' → ∃ v, r = some (ziv v)) (hX : ∀ e h', X e h' → e = NSE) : zCalH E mL_orders hL_orders (d + 1) k [zrv E 0, ziv x0, ziv x1, zrv E 103] h (fun r h' => (∃ v h1, r = some (ziv 0) ∧ Q (some (ziv v)) h1 ∧ h' = zup h1 103 0 (zn v)) ∨ (∃ e, r = some (ziv 1) ∧ X e h')) (fun _ _ => False) := by
  refine zCalH_of (by decide) (Nat.le_of_ble_eq_true rfl) (fun a => ?_)
  show zVh _ _ 0 0 [zrv E 0, ziv x0, ziv x1, zrv E 103, .null] [] _
  refine zH_aload_nr dL_orders_0 rfl rfl ?_
  refine zH_iconst dL_orders_1 ?_
  refine zH_aload_nr dL_orders_2 rfl rfl ?_
  refine zH_iload_n dL_orders_3 rfl rfl ?_
  refine zH_iload_n dL_orders_4 rfl rfl ?_
  refine zH_callV (As := [ziv x0, ziv x1]) lkL_61 rfl rfl rfl hM ⟨Nat.le_refl _, by show 0 + k ≤ k; omega⟩ rfl (Nat.le_of_ble_eq_true rfl) dL_orders_5 (fun Ex h1 hx => ?_) (fun r h1 hq => ?_)
  · have e9 := hX Ex h1 hx
    subst e9
    refine ⟨13, ⟨[], ⟨0, 10, 13, 18⟩, [], rfl, (fun z hz => absurd hz List.not_mem_nil), by decide, by decide, kL_18, by decide, rfl⟩, fun a9 => ?_⟩
    refine zH_astore dL_orders_13 (Nat.le_of_ble_eq_true rfl) rfl ?_
    refine zH_iconst dL_orders_15 ?_
    exact zH_ireturn dL_orders_16 rfl (by show 0 + k ≤ k; omega) (Or.inr ⟨NSE, rfl, hx⟩)
  · obtain ⟨v, rfl⟩ := hQ r h1 hq
    refine zH_i2lz dL_orders_8 ?_
    refine zH_lastore (N := 1) rfl (by decide) (by decide) dL_orders_9 ?_
    refine zH_goto (tgt := 17) dL_orders_10 (by decide) ?_
    refine zH_iconst dL_orders_17 ?_
    exact zH_ireturn dL_orders_18 rfl (by show 0 + k ≤ k; omega) (Or.inl ⟨v, h1, rfl, hq, rfl⟩)
abbrev mL_toTurn : zM := (yL_toTurn, cL_toTurn, 4, (some .int))
abbrev hL_toTurn : List (Nat × Nat × Nat × Nat) := [(0, 9, 12, 18)]
set_option maxRecDepth 100000 in
theorem cw_toTurn {E : zE} {h : zH} {x0 : Int} {d k : Nat} {Q : Option Value → zH → Prop} {X : String → zH → Prop} (hM : zCal E mX5_toTurn d k [zrv E 0, ziv x0] h Q X) (hQ : ∀ r h', Q r h' → ∃ v, r = some (ziv v)) (hX : ∀ e h', X e h' → e = NSE) : zCalH E mL_toTurn hL_toTurn (d + 1) k [zrv E 0, ziv x0, zrv E 103] h (fun r h' => (∃ v h1, r = some (ziv 0) ∧ Q (some (ziv v)) h1 ∧ h' = zup h1 103 0 (zn v)) ∨ (∃ e, r = some (ziv 1) ∧ X e h')) (fun _ _ => False) := by
  refine zCalH_of (by decide) (Nat.le_of_ble_eq_true rfl) (fun a => ?_)
  show zVh _ _ 0 0 [zrv E 0, ziv x0, zrv E 103, .null] [] _
  refine zH_aload_nr dL_toTurn_0 rfl rfl ?_
  refine zH_iconst dL_toTurn_1 ?_
  refine zH_aload_nr dL_toTurn_2 rfl rfl ?_
  refine zH_iload_n dL_toTurn_3 rfl rfl ?_
  refine zH_callV (As := [ziv x0]) lkL_64 rfl rfl rfl hM ⟨Nat.le_refl _, by show 0 + k ≤ k; omega⟩ rfl (Nat.le_of_ble_eq_true rfl) dL_toTurn_4 (fun Ex h1 hx => ?_) (fun r h1 hq => ?_)
  · have e9 := hX Ex h1 hx
    subst e9
    refine ⟨12, ⟨[], ⟨0, 9, 12, 18⟩, [], rfl, (fun z hz => absurd hz List.not_mem_nil), by decide, by decide, kL_18, by decide, rfl⟩, fun a9 => ?_⟩
    refine zH_astore_n dL_toTurn_12 rfl (Nat.le_of_ble_eq_true rfl) rfl ?_
    refine zH_iconst dL_toTurn_13 ?_
    exact zH_ireturn dL_toTurn_14 rfl (by show 0 + k ≤ k; omega) (Or.inr ⟨NSE, rfl, hx⟩)
  · obtain ⟨v, rfl⟩ := hQ r h1 hq
    refine zH_i2lz dL_toTurn_7 ?_
    refine zH_lastore (N := 1) rfl (by decide) (by decide) dL_toTurn_8 ?_
    refine zH_goto (tgt := 15) dL_toTurn_9 (by decide) ?_
    refine zH_iconst dL_toTurn_15 ?_
    exact zH_ireturn dL_toTurn_16 rfl (by show 0 + k ≤ k; omega) (Or.inl ⟨v, h1, rfl, hq, rfl⟩)
abbrev mL_toDrink : zM := (yL_toDrink, cL_toDrink, 5, (some .int))
abbrev hL_toDrink : List (Nat × Nat × Nat × Nat) := [(0, 10, 13, 18)]
set_option maxRecDepth 100000 in
theorem cw_toDrink {E : zE} {h : zH} {x0 x1 : Int} {d k : Nat} {Q : Option Value → zH → Prop} {X : String → zH → Prop} (hM : zCal E mX5_toDrink d k [zrv E 0, ziv x0, ziv x1] h Q X) (hQ : ∀ r h', Q r h' → ∃ v, r = some (ziv v)) (hX : ∀ e h', X e h' → e = NSE) : zCalH E mL_toDrink hL_toDrink (d + 1) k [zrv E 0, ziv x0, ziv x1, zrv E 103] h (fun r h' => (∃ v h1, r = some (ziv 0) ∧ Q (some (ziv v)) h1 ∧ h' = zup h1 103 0 (zn v)) ∨ (∃ e, r = some (ziv 1) ∧ X e h')) (fun _ _ => False) := by
  refine zCalH_of (by decide) (Nat.le_of_ble_eq_true rfl) (fun a => ?_)
  show zVh _ _ 0 0 [zrv E 0, ziv x0, ziv x1, zrv E 103, .null] [] _
  refine zH_aload_nr dL_toDrink_0 rfl rfl ?_
  refine zH_iconst dL_toDrink_1 ?_
  refine zH_aload_nr dL_toDrink_2 rfl rfl ?_
  refine zH_iload_n dL_toDrink_3 rfl rfl ?_
  refine zH_iload_n dL_toDrink_4 rfl rfl ?_
  refine zH_callV (As := [ziv x0, ziv x1]) lkL_67 rfl rfl rfl hM ⟨Nat.le_refl _, by show 0 + k ≤ k; omega⟩ rfl (Nat.le_of_ble_eq_true rfl) dL_toDrink_5 (fun Ex h1 hx => ?_) (fun r h1 hq => ?_)
  · have e9 := hX Ex h1 hx
    subst e9
    refine ⟨13, ⟨[], ⟨0, 10, 13, 18⟩, [], rfl, (fun z hz => absurd hz List.not_mem_nil), by decide, by decide, kL_18, by decide, rfl⟩, fun a9 => ?_⟩
    refine zH_astore dL_toDrink_13 (Nat.le_of_ble_eq_true rfl) rfl ?_
    refine zH_iconst dL_toDrink_15 ?_
    exact zH_ireturn dL_toDrink_16 rfl (by show 0 + k ≤ k; omega) (Or.inr ⟨NSE, rfl, hx⟩)
  · obtain ⟨v, rfl⟩ := hQ r h1 hq
    refine zH_i2lz dL_toDrink_8 ?_
    refine zH_lastore (N := 1) rfl (by decide) (by decide) dL_toDrink_9 ?_
    refine zH_goto (tgt := 17) dL_toDrink_10 (by decide) ?_
    refine zH_iconst dL_toDrink_17 ?_
    exact zH_ireturn dL_toDrink_18 rfl (by show 0 + k ≤ k; omega) (Or.inl ⟨v, h1, rfl, hq, rfl⟩)
abbrev mL_toPour : zM := (yL_toPour, cL_toPour, 4, (some .int))
abbrev hL_toPour : List (Nat × Nat × Nat × Nat) := [(0, 9, 12, 18)]
set_option maxRecDepth 100000 in
theorem cw_toPour {E : zE} {h : zH} {x0 : Int} {d k : Nat} {Q : Option Value → zH → Prop} {X : String → zH → Prop} (hM : zCal E mX5_toPour d k [zrv E 0, ziv x0] h Q X) (hQ : ∀ r h', Q r h' → ∃ v, r = some (ziv v)) (hX : ∀ e h', X e h' → e = NSE) : zCalH E mL_toPour hL_toPour (d + 1) k [zrv E 0, ziv x0, zrv E 103] h (fun r h' => (∃ v h1, r = some (ziv 0) ∧ Q (some (ziv v)) h1 ∧ h' = zup h1 103 0 (zn v)) ∨ (∃ e, r = some (ziv 1) ∧ X e h')) (fun _ _ => False) := by
  refine zCalH_of (by decide) (Nat.le_of_ble_eq_true rfl) (fun a => ?_)
  show zVh _ _ 0 0 [zrv E 0, ziv x0, zrv E 103, .null] [] _
  refine zH_aload_nr dL_toPour_0 rfl rfl ?_
  refine zH_iconst dL_toPour_1 ?_
  refine zH_aload_nr dL_toPour_2 rfl rfl ?_
  refine zH_iload_n dL_toPour_3 rfl rfl ?_
  refine zH_callV (As := [ziv x0]) lkL_70 rfl rfl rfl hM ⟨Nat.le_refl _, by show 0 + k ≤ k; omega⟩ rfl (Nat.le_of_ble_eq_true rfl) dL_toPour_4 (fun Ex h1 hx => ?_) (fun r h1 hq => ?_)
  · have e9 := hX Ex h1 hx
    subst e9
    refine ⟨12, ⟨[], ⟨0, 9, 12, 18⟩, [], rfl, (fun z hz => absurd hz List.not_mem_nil), by decide, by decide, kL_18, by decide, rfl⟩, fun a9 => ?_⟩
    refine zH_astore_n dL_toPour_12 rfl (Nat.le_of_ble_eq_true rfl) rfl ?_
    refine zH_iconst dL_toPour_13 ?_
    exact zH_ireturn dL_toPour_14 rfl (by show 0 + k ≤ k; omega) (Or.inr ⟨NSE, rfl, hx⟩)
  · obtain ⟨v, rfl⟩ := hQ r h1 hq
    refine zH_i2lz dL_toPour_7 ?_
    refine zH_lastore (N := 1) rfl (by decide) (by decide) dL_toPour_8 ?_
    refine zH_goto (tgt := 15) dL_toPour_9 (by decide) ?_
    refine zH_iconst dL_toPour_15 ?_
    exact zH_ireturn dL_toPour_16 rfl (by show 0 + k ≤ k; omega) (Or.inl ⟨v, h1, rfl, hq, rfl⟩)
abbrev mL_toLay : zM := (yL_toLay, cL_toLay, 5, (some .int))
abbrev hL_toLay : List (Nat × Nat × Nat × Nat) := [(0, 10, 13, 18)]
set_option maxRecDepth 100000 in
theorem cw_toLay {E : zE} {h : zH} {x0 x1 : Int} {d k : Nat} {Q : Option Value → zH → Prop} {X : String → zH → Prop} (hM : zCal E mX5_toLay d k [zrv E 0, ziv x0, ziv x1] h Q X) (hQ : ∀ r h', Q r h' → ∃ v, r = some (ziv v)) (hX : ∀ e h', X e h' → e = NSE) : zCalH E mL_toLay hL_toLay (d + 1) k [zrv E 0, ziv x0, ziv x1, zrv E 103] h (fun r h' => (∃ v h1, r = some (ziv 0) ∧ Q (some (ziv v)) h1 ∧ h' = zup h1 103 0 (zn v)) ∨ (∃ e, r = some (ziv 1) ∧ X e h')) (fun _ _ => False) := by
  refine zCalH_of (by decide) (Nat.le_of_ble_eq_true rfl) (fun a => ?_)
  show zVh _ _ 0 0 [zrv E 0, ziv x0, ziv x1, zrv E 103, .null] [] _
  refine zH_aload_nr dL_toLay_0 rfl rfl ?_
  refine zH_iconst dL_toLay_1 ?_
  refine zH_aload_nr dL_toLay_2 rfl rfl ?_
  refine zH_iload_n dL_toLay_3 rfl rfl ?_
  refine zH_iload_n dL_toLay_4 rfl rfl ?_
  refine zH_callV (As := [ziv x0, ziv x1]) lkL_73 rfl rfl rfl hM ⟨Nat.le_refl _, by show 0 + k ≤ k; omega⟩ rfl (Nat.le_of_ble_eq_true rfl) dL_toLay_5 (fun Ex h1 hx => ?_) (fun r h1 hq => ?_)
  · have e9 := hX Ex h1 hx
    subst e9
    refine ⟨13, ⟨[], ⟨0, 10, 13, 18⟩, [], rfl, (fun z hz => absurd hz List.not_mem_nil), by decide, by decide, kL_18, by decide, rfl⟩, fun a9 => ?_⟩
    refine zH_astore dL_toLay_13 (Nat.le_of_ble_eq_true rfl) rfl ?_
    refine zH_iconst dL_toLay_15 ?_
    exact zH_ireturn dL_toLay_16 rfl (by show 0 + k ≤ k; omega) (Or.inr ⟨NSE, rfl, hx⟩)
  · obtain ⟨v, rfl⟩ := hQ r h1 hq
    refine zH_i2lz dL_toLay_8 ?_
    refine zH_lastore (N := 1) rfl (by decide) (by decide) dL_toLay_9 ?_
    refine zH_goto (tgt := 17) dL_toLay_10 (by decide) ?_
    refine zH_iconst dL_toLay_17 ?_
    exact zH_ireturn dL_toLay_18 rfl (by show 0 + k ≤ k; omega) (Or.inl ⟨v, h1, rfl, hq, rfl⟩)
abbrev mL_better : zM := (yL_better, cL_better, 4, (some .int))
abbrev hL_better : List (Nat × Nat × Nat × Nat) := [(0, 9, 12, 18)]
set_option maxRecDepth 100000 in
theorem cw_better {E : zE} {h : zH} {x0 : Int} {d k : Nat} {Q : Option Value → zH → Prop} {X : String → zH → Prop} (hM : zCal E mX5_better d k [zrv E 0, ziv x0] h Q X) (hQ : ∀ r h', Q r h' → ∃ v, r = some (ziv v)) (hX : ∀ e h', X e h' → e = NSE) : zCalH E mL_better hL_better (d + 1) k [zrv E 0, ziv x0, zrv E 103] h (fun r h' => (∃ v h1, r = some (ziv 0) ∧ Q (some (ziv v)) h1 ∧ h' = zup h1 103 0 (zn v)) ∨ (∃ e, r = some (ziv 1) ∧ X e h')) (fun _ _ => False) := by
  refine zCalH_of (by decide) (Nat.le_of_ble_eq_true rfl) (fun a => ?_)
  show zVh _ _ 0 0 [zrv E 0, ziv x0, zrv E 103, .null] [] _
  refine zH_aload_nr dL_better_0 rfl rfl ?_
  refine zH_iconst dL_better_1 ?_
  refine zH_aload_nr dL_better_2 rfl rfl ?_
  refine zH_iload_n dL_better_3 rfl rfl ?_
  refine zH_callV (As := [ziv x0]) lkL_76 rfl rfl rfl hM ⟨Nat.le_refl _, by show 0 + k ≤ k; omega⟩ rfl (Nat.le_of_ble_eq_true rfl) dL_better_4 (fun Ex h1 hx => ?_) (fun r h1 hq => ?_)
  · have e9 := hX Ex h1 hx
    subst e9
    refine ⟨12, ⟨[], ⟨0, 9, 12, 18⟩, [], rfl, (fun z hz => absurd hz List.not_mem_nil), by decide, by decide, kL_18, by decide, rfl⟩, fun a9 => ?_⟩
    refine zH_astore_n dL_better_12 rfl (Nat.le_of_ble_eq_true rfl) rfl ?_
    refine zH_iconst dL_better_13 ?_
    exact zH_ireturn dL_better_14 rfl (by show 0 + k ≤ k; omega) (Or.inr ⟨NSE, rfl, hx⟩)
  · obtain ⟨v, rfl⟩ := hQ r h1 hq
    refine zH_i2lz dL_better_7 ?_
    refine zH_lastore (N := 1) rfl (by decide) (by decide) dL_better_8 ?_
    refine zH_goto (tgt := 15) dL_better_9 (by decide) ?_
    refine zH_iconst dL_better_15 ?_
    exact zH_ireturn dL_better_16 rfl (by show 0 + k ≤ k; omega) (Or.inl ⟨v, h1, rfl, hq, rfl⟩)
abbrev mL_stir : zM := (yL_stir, cL_stir, 6, (some .int))
abbrev hL_stir : List (Nat × Nat × Nat × Nat) := [(0, 12, 15, 18), (0, 12, 19, 13)]
set_option maxRecDepth 100000 in
theorem cw_stir {E : zE} {h : zH} {x0 x1 x2 : Int} {d k : Nat} {Q : Option Value → zH → Prop} {X : String → zH → Prop} (hM : zCal E mX5_stir d k [zrv E 0, ziv x0, ziv x1, ziv x2] h Q X) (hQ : ∀ r h', Q r h' → ∃ v, r = some (ziv v)) (hX : ∀ e h', X e h' → e = NSE ∨ e = IAE) : zCalH E mL_stir hL_stir (d + 1) k [zrv E 0, ziv x0, ziv x1, ziv x2, zrv E 103] h (fun r h' => (∃ v h1, r = some (ziv 0) ∧ Q (some (ziv v)) h1 ∧ h' = zup h1 103 0 (zn v)) ∨ (∃ e, r = some (ziv (if e = NSE then 1 else 2)) ∧ X e h')) (fun _ _ => False) := by
  refine zCalH_of (by decide) (Nat.le_of_ble_eq_true rfl) (fun a => ?_)
  show zVh _ _ 0 0 [zrv E 0, ziv x0, ziv x1, ziv x2, zrv E 103, .null] [] _
  refine zH_aload_r dL_stir_0 rfl ?_
  refine zH_iconst dL_stir_2 ?_
  refine zH_aload_nr dL_stir_3 rfl rfl ?_
  refine zH_iload_n dL_stir_4 rfl rfl ?_
  refine zH_iload_n dL_stir_5 rfl rfl ?_
  refine zH_iload_n dL_stir_6 rfl rfl ?_
  refine zH_callV (As := [ziv x0, ziv x1, ziv x2]) lkL_79 rfl rfl rfl hM ⟨Nat.le_refl _, by show 0 + k ≤ k; omega⟩ rfl (Nat.le_of_ble_eq_true rfl) dL_stir_7 (fun Ex h1 hx => ?_) (fun r h1 hq => ?_)
  · rcases hX Ex h1 hx with e9 | e9
    · subst e9
      refine ⟨15, ⟨[], ⟨0, 12, 15, 18⟩, [⟨0, 12, 19, 13⟩], rfl, (fun z hz => absurd hz List.not_mem_nil), by decide, by decide, kL_18, by decide, rfl⟩, fun a9 => ?_⟩
      refine zH_astore dL_stir_15 (Nat.le_of_ble_eq_true rfl) rfl ?_
      refine zH_iconst dL_stir_17 ?_
      exact zH_ireturn dL_stir_18 rfl (by show 0 + k ≤ k; omega) (Or.inr ⟨NSE, rfl, hx⟩)
    · subst e9
      refine ⟨19, ⟨[⟨0, 12, 15, 18⟩], ⟨0, 12, 19, 13⟩, [], rfl, (fun z hz => by rw [List.mem_singleton.mp hz]; exact Or.inr ⟨by decide, rfl, kL_18⟩), by decide, by decide, kL_13, by decide, rfl⟩, fun a9 => ?_⟩
      refine zH_astore dL_stir_19 (Nat.le_of_ble_eq_true rfl) rfl ?_
      refine zH_iconst dL_stir_21 ?_
      exact zH_ireturn dL_stir_22 rfl (by show 0 + k ≤ k; omega) (Or.inr ⟨IAE, rfl, hx⟩)
  · obtain ⟨v, rfl⟩ := hQ r h1 hq
    refine zH_i2lz dL_stir_10 ?_
    refine zH_lastore (N := 1) rfl (by decide) (by decide) dL_stir_11 ?_
    refine zH_goto (tgt := 23) dL_stir_12 (by decide) ?_
    refine zH_iconst dL_stir_23 ?_
    exact zH_ireturn dL_stir_24 rfl (by show 0 + k ≤ k; omega) (Or.inl ⟨v, h1, rfl, hq, rfl⟩)
abbrev mL_apart : zM := (yL_apart, cL_apart, 5, (some .int))
abbrev hL_apart : List (Nat × Nat × Nat × Nat) := [(0, 10, 13, 18)]
set_option maxRecDepth 100000 in
theorem cw_apart {E : zE} {h : zH} {x0 x1 : Int} {d k : Nat} {Q : Option Value → zH → Prop} {X : String → zH → Prop} (hM : zCal E mX5_apart d k [zrv E 0, ziv x0, ziv x1] h Q X) (hQ : ∀ r h', Q r h' → ∃ v, r = some (ziv v)) (hX : ∀ e h', X e h' → e = NSE) : zCalH E mL_apart hL_apart (d + 1) k [zrv E 0, ziv x0, ziv x1, zrv E 103] h (fun r h' => (∃ v h1, r = some (ziv 0) ∧ Q (some (ziv v)) h1 ∧ h' = zup h1 103 0 (zn v)) ∨ (∃ e, r = some (ziv 1) ∧ X e h')) (fun _ _ => False) := by
  refine zCalH_of (by decide) (Nat.le_of_ble_eq_true rfl) (fun a => ?_)
  show zVh _ _ 0 0 [zrv E 0, ziv x0, ziv x1, zrv E 103, .null] [] _
  refine zH_aload_nr dL_apart_0 rfl rfl ?_
  refine zH_iconst dL_apart_1 ?_
  refine zH_aload_nr dL_apart_2 rfl rfl ?_
  refine zH_iload_n dL_apart_3 rfl rfl ?_
  refine zH_iload_n dL_apart_4 rfl rfl ?_
  refine zH_callV (As := [ziv x0, ziv x1]) lkL_83 rfl rfl rfl hM ⟨Nat.le_refl _, by show 0 + k ≤ k; omega⟩ rfl (Nat.le_of_ble_eq_true rfl) dL_apart_5 (fun Ex h1 hx => ?_) (fun r h1 hq => ?_)
  · have e9 := hX Ex h1 hx
    subst e9
    refine ⟨13, ⟨[], ⟨0, 10, 13, 18⟩, [], rfl, (fun z hz => absurd hz List.not_mem_nil), by decide, by decide, kL_18, by decide, rfl⟩, fun a9 => ?_⟩
    refine zH_astore dL_apart_13 (Nat.le_of_ble_eq_true rfl) rfl ?_
    refine zH_iconst dL_apart_15 ?_
    exact zH_ireturn dL_apart_16 rfl (by show 0 + k ≤ k; omega) (Or.inr ⟨NSE, rfl, hx⟩)
  · obtain ⟨v, rfl⟩ := hQ r h1 hq
    refine zH_i2lz dL_apart_8 ?_
    refine zH_lastore (N := 1) rfl (by decide) (by decide) dL_apart_9 ?_
    refine zH_goto (tgt := 17) dL_apart_10 (by decide) ?_
    refine zH_iconst dL_apart_17 ?_
    exact zH_ireturn dL_apart_18 rfl (by show 0 + k ≤ k; omega) (Or.inl ⟨v, h1, rfl, hq, rfl⟩)
abbrev mL_drunk : zM := (yL_drunk, cL_drunk, 5, (some .int))
abbrev hL_drunk : List (Nat × Nat × Nat × Nat) := [(0, 10, 13, 18), (0, 10, 17, 13)]
set_option maxRecDepth 100000 in
theorem cw_drunk {E : zE} {h : zH} {x0 x1 : Int} {d k : Nat} {Q : Option Value → zH → Prop} {X : String → zH → Prop} (hM : zCal E mX5_drunk d k [zrv E 0, ziv x0, ziv x1] h Q X) (hQ : ∀ r h', Q r h' → ∃ v, r = some (ziv v)) (hX : ∀ e h', X e h' → e = NSE ∨ e = IAE) : zCalH E mL_drunk hL_drunk (d + 1) k [zrv E 0, ziv x0, ziv x1, zrv E 103] h (fun r h' => (∃ v h1, r = some (ziv 0) ∧ Q (some (ziv v)) h1 ∧ h' = zup h1 103 0 (zn v)) ∨ (∃ e, r = some (ziv (if e = NSE then 1 else 2)) ∧ X e h')) (fun _ _ => False) := by
  refine zCalH_of (by decide) (Nat.le_of_ble_eq_true rfl) (fun a => ?_)
  show zVh _ _ 0 0 [zrv E 0, ziv x0, ziv x1, zrv E 103, .null] [] _
  refine zH_aload_nr dL_drunk_0 rfl rfl ?_
  refine zH_iconst dL_drunk_1 ?_
  refine zH_aload_nr dL_drunk_2 rfl rfl ?_
  refine zH_iload_n dL_drunk_3 rfl rfl ?_
  refine zH_iload_n dL_drunk_4 rfl rfl ?_
  refine zH_callV (As := [ziv x0, ziv x1]) lkL_86 rfl rfl rfl hM ⟨Nat.le_refl _, by show 0 + k ≤ k; omega⟩ rfl (Nat.le_of_ble_eq_true rfl) dL_drunk_5 (fun Ex h1 hx => ?_) (fun r h1 hq => ?_)
  · rcases hX Ex h1 hx with e9 | e9
    · subst e9
      refine ⟨13, ⟨[], ⟨0, 10, 13, 18⟩, [⟨0, 10, 17, 13⟩], rfl, (fun z hz => absurd hz List.not_mem_nil), by decide, by decide, kL_18, by decide, rfl⟩, fun a9 => ?_⟩
      refine zH_astore dL_drunk_13 (Nat.le_of_ble_eq_true rfl) rfl ?_
      refine zH_iconst dL_drunk_15 ?_
      exact zH_ireturn dL_drunk_16 rfl (by show 0 + k ≤ k; omega) (Or.inr ⟨NSE, rfl, hx⟩)
    · subst e9
      refine ⟨17, ⟨[⟨0, 10, 13, 18⟩], ⟨0, 10, 17, 13⟩, [], rfl, (fun z hz => by rw [List.mem_singleton.mp hz]; exact Or.inr ⟨by decide, rfl, kL_18⟩), by decide, by decide, kL_13, by decide, rfl⟩, fun a9 => ?_⟩
      refine zH_astore dL_drunk_17 (Nat.le_of_ble_eq_true rfl) rfl ?_
      refine zH_iconst dL_drunk_19 ?_
      exact zH_ireturn dL_drunk_20 rfl (by show 0 + k ≤ k; omega) (Or.inr ⟨IAE, rfl, hx⟩)
  · obtain ⟨v, rfl⟩ := hQ r h1 hq
    refine zH_i2lz dL_drunk_8 ?_
    refine zH_lastore (N := 1) rfl (by decide) (by decide) dL_drunk_9 ?_
    refine zH_goto (tgt := 21) dL_drunk_10 (by decide) ?_
    refine zH_iconst dL_drunk_21 ?_
    exact zH_ireturn dL_drunk_22 rfl (by show 0 + k ≤ k; omega) (Or.inl ⟨v, h1, rfl, hq, rfl⟩)
abbrev mL_thirstiest : zM := (yL_thirstiest, cL_thirstiest, 4, (some .int))
abbrev hL_thirstiest : List (Nat × Nat × Nat × Nat) := [(0, 9, 12, 13)]
set_option maxRecDepth 100000 in
theorem cw_thirstiest {E : zE} {h : zH} {x0 : Int} {d k : Nat} {Q : Option Value → zH → Prop} {X : String → zH → Prop} (hM : zCal E mX5_thirstiest d k [zrv E 0, ziv x0] h Q X) (hQ : ∀ r h', Q r h' → ∃ v, r = some (ziv v)) (hX : ∀ e h', X e h' → e = IAE) : zCalH E mL_thirstiest hL_thirstiest (d + 1) k [zrv E 0, ziv x0, zrv E 103] h (fun r h' => (∃ v h1, r = some (ziv 0) ∧ Q (some (ziv v)) h1 ∧ h' = zup h1 103 0 (zn v)) ∨ (∃ e, r = some (ziv 1) ∧ X e h')) (fun _ _ => False) := by
  refine zCalH_of (by decide) (Nat.le_of_ble_eq_true rfl) (fun a => ?_)
  show zVh _ _ 0 0 [zrv E 0, ziv x0, zrv E 103, .null] [] _
  refine zH_aload_nr dL_thirstiest_0 rfl rfl ?_
  refine zH_iconst dL_thirstiest_1 ?_
  refine zH_aload_nr dL_thirstiest_2 rfl rfl ?_
  refine zH_iload_n dL_thirstiest_3 rfl rfl ?_
  refine zH_callV (As := [ziv x0]) lkL_89 rfl rfl rfl hM ⟨Nat.le_refl _, by show 0 + k ≤ k; omega⟩ rfl (Nat.le_of_ble_eq_true rfl) dL_thirstiest_4 (fun Ex h1 hx => ?_) (fun r h1 hq => ?_)
  · have e9 := hX Ex h1 hx
    subst e9
    refine ⟨12, ⟨[], ⟨0, 9, 12, 13⟩, [], rfl, (fun z hz => absurd hz List.not_mem_nil), by decide, by decide, kL_13, by decide, rfl⟩, fun a9 => ?_⟩
    refine zH_astore_n dL_thirstiest_12 rfl (Nat.le_of_ble_eq_true rfl) rfl ?_
    refine zH_iconst dL_thirstiest_13 ?_
    exact zH_ireturn dL_thirstiest_14 rfl (by show 0 + k ≤ k; omega) (Or.inr ⟨IAE, rfl, hx⟩)
  · obtain ⟨v, rfl⟩ := hQ r h1 hq
    refine zH_i2lz dL_thirstiest_7 ?_
    refine zH_lastore (N := 1) rfl (by decide) (by decide) dL_thirstiest_8 ?_
    refine zH_goto (tgt := 15) dL_thirstiest_9 (by decide) ?_
    refine zH_iconst dL_thirstiest_15 ?_
    exact zH_ireturn dL_thirstiest_16 rfl (by show 0 + k ≤ k; omega) (Or.inl ⟨v, h1, rfl, hq, rfl⟩)
abbrev mL_streak : zM := (yL_streak, cL_streak, 4, (some .int))
abbrev hL_streak : List (Nat × Nat × Nat × Nat) := [(0, 9, 12, 13)]
set_option maxRecDepth 100000 in
theorem cw_streak {E : zE} {h : zH} {x0 : Int} {d k : Nat} {Q : Option Value → zH → Prop} {X : String → zH → Prop} (hM : zCal E mX5_streak d k [zrv E 0, ziv x0] h Q X) (hQ : ∀ r h', Q r h' → ∃ v, r = some (ziv v)) (hX : ∀ e h', X e h' → e = IAE) : zCalH E mL_streak hL_streak (d + 1) k [zrv E 0, ziv x0, zrv E 103] h (fun r h' => (∃ v h1, r = some (ziv 0) ∧ Q (some (ziv v)) h1 ∧ h' = zup h1 103 0 (zn v)) ∨ (∃ e, r = some (ziv 1) ∧ X e h')) (fun _ _ => False) := by
  refine zCalH_of (by decide) (Nat.le_of_ble_eq_true rfl) (fun a => ?_)
  show zVh _ _ 0 0 [zrv E 0, ziv x0, zrv E 103, .null] [] _
  refine zH_aload_nr dL_streak_0 rfl rfl ?_
  refine zH_iconst dL_streak_1 ?_
  refine zH_aload_nr dL_streak_2 rfl rfl ?_
  refine zH_iload_n dL_streak_3 rfl rfl ?_
  refine zH_callV (As := [ziv x0]) lkL_92 rfl rfl rfl hM ⟨Nat.le_refl _, by show 0 + k ≤ k; omega⟩ rfl (Nat.le_of_ble_eq_true rfl) dL_streak_4 (fun Ex h1 hx => ?_) (fun r h1 hq => ?_)
  · have e9 := hX Ex h1 hx
    subst e9
    refine ⟨12, ⟨[], ⟨0, 9, 12, 13⟩, [], rfl, (fun z hz => absurd hz List.not_mem_nil), by decide, by decide, kL_13, by decide, rfl⟩, fun a9 => ?_⟩
    refine zH_astore_n dL_streak_12 rfl (Nat.le_of_ble_eq_true rfl) rfl ?_
    refine zH_iconst dL_streak_13 ?_
    exact zH_ireturn dL_streak_14 rfl (by show 0 + k ≤ k; omega) (Or.inr ⟨IAE, rfl, hx⟩)
  · obtain ⟨v, rfl⟩ := hQ r h1 hq
    refine zH_i2lz dL_streak_7 ?_
    refine zH_lastore (N := 1) rfl (by decide) (by decide) dL_streak_8 ?_
    refine zH_goto (tgt := 15) dL_streak_9 (by decide) ?_
    refine zH_iconst dL_streak_15 ?_
    exact zH_ireturn dL_streak_16 rfl (by show 0 + k ≤ k; omega) (Or.inl ⟨v, h1, rfl, hq, rfl⟩)
abbrev mL_come : zM := (yL_come, cL_come, 4, (some .int))
abbrev hL_come : List (Nat × Nat × Nat × Nat) := [(0, 9, 12, 13)]
set_option maxRecDepth 100000 in
theorem cw_come {E : zE} {h : zH} {x0 : Int} {d k : Nat} {Q : Option Value → zH → Prop} {X : String → zH → Prop} (hM : zCal E mX5_come d k [zrv E 0, ziv x0] h Q X) (hQ : ∀ r h', Q r h' → ∃ v, r = some (ziv v)) (hX : ∀ e h', X e h' → e = IAE) : zCalH E mL_come hL_come (d + 1) k [zrv E 0, ziv x0, zrv E 103] h (fun r h' => (∃ v h1, r = some (ziv 0) ∧ Q (some (ziv v)) h1 ∧ h' = zup h1 103 0 (zn v)) ∨ (∃ e, r = some (ziv 1) ∧ X e h')) (fun _ _ => False) := by
  refine zCalH_of (by decide) (Nat.le_of_ble_eq_true rfl) (fun a => ?_)
  show zVh _ _ 0 0 [zrv E 0, ziv x0, zrv E 103, .null] [] _
  refine zH_aload_nr dL_come_0 rfl rfl ?_
  refine zH_iconst dL_come_1 ?_
  refine zH_aload_nr dL_come_2 rfl rfl ?_
  refine zH_iload_n dL_come_3 rfl rfl ?_
  refine zH_callV (As := [ziv x0]) lkL_95 rfl rfl rfl hM ⟨Nat.le_refl _, by show 0 + k ≤ k; omega⟩ rfl (Nat.le_of_ble_eq_true rfl) dL_come_4 (fun Ex h1 hx => ?_) (fun r h1 hq => ?_)
  · have e9 := hX Ex h1 hx
    subst e9
    refine ⟨12, ⟨[], ⟨0, 9, 12, 13⟩, [], rfl, (fun z hz => absurd hz List.not_mem_nil), by decide, by decide, kL_13, by decide, rfl⟩, fun a9 => ?_⟩
    refine zH_astore_n dL_come_12 rfl (Nat.le_of_ble_eq_true rfl) rfl ?_
    refine zH_iconst dL_come_13 ?_
    exact zH_ireturn dL_come_14 rfl (by show 0 + k ≤ k; omega) (Or.inr ⟨IAE, rfl, hx⟩)
  · obtain ⟨v, rfl⟩ := hQ r h1 hq
    refine zH_i2lz dL_come_7 ?_
    refine zH_lastore (N := 1) rfl (by decide) (by decide) dL_come_8 ?_
    refine zH_goto (tgt := 15) dL_come_9 (by decide) ?_
    refine zH_iconst dL_come_15 ?_
    exact zH_ireturn dL_come_16 rfl (by show 0 + k ≤ k; omega) (Or.inl ⟨v, h1, rfl, hq, rfl⟩)
abbrev mL_weight : zM := (yL_weight, cL_weight, 4, (some .int))
abbrev hL_weight : List (Nat × Nat × Nat × Nat) := [(0, 9, 12, 18)]
set_option maxRecDepth 100000 in
theorem cw_weight {E : zE} {h : zH} {x0 : Int} {d k : Nat} {Q : Option Value → zH → Prop} {X : String → zH → Prop} (hM : zCal E mX5_weight d k [zrv E 0, ziv x0] h Q X) (hQ : ∀ r h', Q r h' → ∃ v, r = some (ziv v)) (hX : ∀ e h', X e h' → e = NSE) : zCalH E mL_weight hL_weight (d + 1) k [zrv E 0, ziv x0, zrv E 103] h (fun r h' => (∃ v h1, r = some (ziv 0) ∧ Q (some (ziv v)) h1 ∧ h' = zup h1 103 0 (zn v)) ∨ (∃ e, r = some (ziv 1) ∧ X e h')) (fun _ _ => False) := by
  refine zCalH_of (by decide) (Nat.le_of_ble_eq_true rfl) (fun a => ?_)
  show zVh _ _ 0 0 [zrv E 0, ziv x0, zrv E 103, .null] [] _
  refine zH_aload_nr dL_weight_0 rfl rfl ?_
  refine zH_iconst dL_weight_1 ?_
  refine zH_aload_nr dL_weight_2 rfl rfl ?_
  refine zH_iload_n dL_weight_3 rfl rfl ?_
  refine zH_callV (As := [ziv x0]) lkL_98 rfl rfl rfl hM ⟨Nat.le_refl _, by show 0 + k ≤ k; omega⟩ rfl (Nat.le_of_ble_eq_true rfl) dL_weight_4 (fun Ex h1 hx => ?_) (fun r h1 hq => ?_)
  · have e9 := hX Ex h1 hx
    subst e9
    refine ⟨12, ⟨[], ⟨0, 9, 12, 18⟩, [], rfl, (fun z hz => absurd hz List.not_mem_nil), by decide, by decide, kL_18, by decide, rfl⟩, fun a9 => ?_⟩
    refine zH_astore_n dL_weight_12 rfl (Nat.le_of_ble_eq_true rfl) rfl ?_
    refine zH_iconst dL_weight_13 ?_
    exact zH_ireturn dL_weight_14 rfl (by show 0 + k ≤ k; omega) (Or.inr ⟨NSE, rfl, hx⟩)
  · obtain ⟨v, rfl⟩ := hQ r h1 hq
    refine zH_i2lz dL_weight_7 ?_
    refine zH_lastore (N := 1) rfl (by decide) (by decide) dL_weight_8 ?_
    refine zH_goto (tgt := 15) dL_weight_9 (by decide) ?_
    refine zH_iconst dL_weight_15 ?_
    exact zH_ireturn dL_weight_16 rfl (by show 0 + k ≤ k; omega) (Or.inl ⟨v, h1, rfl, hq, rfl⟩)
abbrev mL_read : zM := (yL_read, cL_read, 5, (some .int))
abbrev hL_read : List (Nat × Nat × Nat × Nat) := [(0, 10, 13, 18)]
set_option maxRecDepth 100000 in
theorem cw_read {E : zE} {h : zH} {x0 x1 : Int} {d k : Nat} {Q : Option Value → zH → Prop} {X : String → zH → Prop} (hM : zCal E mX5_read d k [zrv E 0, ziv x0, ziv x1] h Q X) (hQ : ∀ r h', Q r h' → ∃ v, r = some (ziv v)) (hX : ∀ e h', X e h' → e = NSE) : zCalH E mL_read hL_read (d + 1) k [zrv E 0, ziv x0, ziv x1, zrv E 103] h (fun r h' => (∃ v h1, r = some (ziv 0) ∧ Q (some (ziv v)) h1 ∧ h' = zup h1 103 0 (zn v)) ∨ (∃ e, r = some (ziv 1) ∧ X e h')) (fun _ _ => False) := by
  refine zCalH_of (by decide) (Nat.le_of_ble_eq_true rfl) (fun a => ?_)
  show zVh _ _ 0 0 [zrv E 0, ziv x0, ziv x1, zrv E 103, .null] [] _
  refine zH_aload_nr dL_read_0 rfl rfl ?_
  refine zH_iconst dL_read_1 ?_
  refine zH_aload_nr dL_read_2 rfl rfl ?_
  refine zH_iload_n dL_read_3 rfl rfl ?_
  refine zH_iload_n dL_read_4 rfl rfl ?_
  refine zH_callV (As := [ziv x0, ziv x1]) lkL_101 rfl rfl rfl hM ⟨Nat.le_refl _, by show 0 + k ≤ k; omega⟩ rfl (Nat.le_of_ble_eq_true rfl) dL_read_5 (fun Ex h1 hx => ?_) (fun r h1 hq => ?_)
  · have e9 := hX Ex h1 hx
    subst e9
    refine ⟨13, ⟨[], ⟨0, 10, 13, 18⟩, [], rfl, (fun z hz => absurd hz List.not_mem_nil), by decide, by decide, kL_18, by decide, rfl⟩, fun a9 => ?_⟩
    refine zH_astore dL_read_13 (Nat.le_of_ble_eq_true rfl) rfl ?_
    refine zH_iconst dL_read_15 ?_
    exact zH_ireturn dL_read_16 rfl (by show 0 + k ≤ k; omega) (Or.inr ⟨NSE, rfl, hx⟩)
  · obtain ⟨v, rfl⟩ := hQ r h1 hq
    refine zH_i2lz dL_read_8 ?_
    refine zH_lastore (N := 1) rfl (by decide) (by decide) dL_read_9 ?_
    refine zH_goto (tgt := 17) dL_read_10 (by decide) ?_
    refine zH_iconst dL_read_17 ?_
    exact zH_ireturn dL_read_18 rfl (by show 0 + k ≤ k; omega) (Or.inl ⟨v, h1, rfl, hq, rfl⟩)
abbrev mL_handed : zM := (yL_handed, cL_handed, 4, (some .int))
abbrev hL_handed : List (Nat × Nat × Nat × Nat) := [(0, 9, 12, 18)]
set_option maxRecDepth 100000 in
theorem cw_handed {E : zE} {h : zH} {x0 : Int} {d k : Nat} {Q : Option Value → zH → Prop} {X : String → zH → Prop} (hM : zCal E mX5_handed d k [zrv E 0, ziv x0] h Q X) (hQ : ∀ r h', Q r h' → ∃ v, r = some (ziv v)) (hX : ∀ e h', X e h' → e = NSE) : zCalH E mL_handed hL_handed (d + 1) k [zrv E 0, ziv x0, zrv E 103] h (fun r h' => (∃ v h1, r = some (ziv 0) ∧ Q (some (ziv v)) h1 ∧ h' = zup h1 103 0 (zn v)) ∨ (∃ e, r = some (ziv 1) ∧ X e h')) (fun _ _ => False) := by
  refine zCalH_of (by decide) (Nat.le_of_ble_eq_true rfl) (fun a => ?_)
  show zVh _ _ 0 0 [zrv E 0, ziv x0, zrv E 103, .null] [] _
  refine zH_aload_nr dL_handed_0 rfl rfl ?_
  refine zH_iconst dL_handed_1 ?_
  refine zH_aload_nr dL_handed_2 rfl rfl ?_
  refine zH_iload_n dL_handed_3 rfl rfl ?_
  refine zH_callV (As := [ziv x0]) lkL_104 rfl rfl rfl hM ⟨Nat.le_refl _, by show 0 + k ≤ k; omega⟩ rfl (Nat.le_of_ble_eq_true rfl) dL_handed_4 (fun Ex h1 hx => ?_) (fun r h1 hq => ?_)
  · have e9 := hX Ex h1 hx
    subst e9
    refine ⟨12, ⟨[], ⟨0, 9, 12, 18⟩, [], rfl, (fun z hz => absurd hz List.not_mem_nil), by decide, by decide, kL_18, by decide, rfl⟩, fun a9 => ?_⟩
    refine zH_astore_n dL_handed_12 rfl (Nat.le_of_ble_eq_true rfl) rfl ?_
    refine zH_iconst dL_handed_13 ?_
    exact zH_ireturn dL_handed_14 rfl (by show 0 + k ≤ k; omega) (Or.inr ⟨NSE, rfl, hx⟩)
  · obtain ⟨v, rfl⟩ := hQ r h1 hq
    refine zH_i2lz dL_handed_7 ?_
    refine zH_lastore (N := 1) rfl (by decide) (by decide) dL_handed_8 ?_
    refine zH_goto (tgt := 15) dL_handed_9 (by decide) ?_
    refine zH_iconst dL_handed_15 ?_
    exact zH_ireturn dL_handed_16 rfl (by show 0 + k ≤ k; omega) (Or.inl ⟨v, h1, rfl, hq, rfl⟩)
abbrev mL_look : zM := (yL_look, cL_look, 4, (some .int))
abbrev hL_look : List (Nat × Nat × Nat × Nat) := [(0, 9, 12, 18)]
set_option maxRecDepth 100000 in
theorem cw_look {E : zE} {h : zH} {x0 : Int} {d k : Nat} {Q : Option Value → zH → Prop} {X : String → zH → Prop} (hM : zCal E mX5_look d k [zrv E 0, ziv x0] h Q X) (hQ : ∀ r h', Q r h' → ∃ v, r = some (ziv v)) (hX : ∀ e h', X e h' → e = NSE) : zCalH E mL_look hL_look (d + 1) k [zrv E 0, ziv x0, zrv E 103] h (fun r h' => (∃ v h1, r = some (ziv 0) ∧ Q (some (ziv v)) h1 ∧ h' = zup h1 103 0 (zn v)) ∨ (∃ e, r = some (ziv 1) ∧ X e h')) (fun _ _ => False) := by
  refine zCalH_of (by decide) (Nat.le_of_ble_eq_true rfl) (fun a => ?_)
  show zVh _ _ 0 0 [zrv E 0, ziv x0, zrv E 103, .null] [] _
  refine zH_aload_nr dL_look_0 rfl rfl ?_
  refine zH_iconst dL_look_1 ?_
  refine zH_aload_nr dL_look_2 rfl rfl ?_
  refine zH_iload_n dL_look_3 rfl rfl ?_
  refine zH_callV (As := [ziv x0]) lkL_107 rfl rfl rfl hM ⟨Nat.le_refl _, by show 0 + k ≤ k; omega⟩ rfl (Nat.le_of_ble_eq_true rfl) dL_look_4 (fun Ex h1 hx => ?_) (fun r h1 hq => ?_)
  · have e9 := hX Ex h1 hx
    subst e9
    refine ⟨12, ⟨[], ⟨0, 9, 12, 18⟩, [], rfl, (fun z hz => absurd hz List.not_mem_nil), by decide, by decide, kL_18, by decide, rfl⟩, fun a9 => ?_⟩
    refine zH_astore_n dL_look_12 rfl (Nat.le_of_ble_eq_true rfl) rfl ?_
    refine zH_iconst dL_look_13 ?_
    exact zH_ireturn dL_look_14 rfl (by show 0 + k ≤ k; omega) (Or.inr ⟨NSE, rfl, hx⟩)
  · obtain ⟨v, rfl⟩ := hQ r h1 hq
    refine zH_i2lz dL_look_7 ?_
    refine zH_lastore (N := 1) rfl (by decide) (by decide) dL_look_8 ?_
    refine zH_goto (tgt := 15) dL_look_9 (by decide) ?_
    refine zH_iconst dL_look_15 ?_
    exact zH_ireturn dL_look_16 rfl (by show 0 + k ≤ k; omega) (Or.inl ⟨v, h1, rfl, hq, rfl⟩)
abbrev mL_game : zM := (yL_game, cL_game, 6, (some .int))
abbrev hL_game : List (Nat × Nat × Nat × Nat) := [(0, 12, 15, 18), (0, 12, 19, 13)]
set_option maxRecDepth 100000 in
theorem cw_game {E : zE} {h : zH} {x0 x1 x2 : Int} {d k : Nat} {Q : Option Value → zH → Prop} {X : String → zH → Prop} (hM : zCal E mX5_game d k [zrv E 0, ziv x0, ziv x1, ziv x2] h Q X) (hQ : ∀ r h', Q r h' → ∃ v, r = some (ziv v)) (hX : ∀ e h', X e h' → e = NSE ∨ e = IAE) : zCalH E mL_game hL_game (d + 1) k [zrv E 0, ziv x0, ziv x1, ziv x2, zrv E 103] h (fun r h' => (∃ v h1, r = some (ziv 0) ∧ Q (some (ziv v)) h1 ∧ h' = zup h1 103 0 (zn v)) ∨ (∃ e, r = some (ziv (if e = NSE then 1 else 2)) ∧ X e h')) (fun _ _ => False) := by
  refine zCalH_of (by decide) (Nat.le_of_ble_eq_true rfl) (fun a => ?_)
  show zVh _ _ 0 0 [zrv E 0, ziv x0, ziv x1, ziv x2, zrv E 103, .null] [] _
  refine zH_aload_r dL_game_0 rfl ?_
  refine zH_iconst dL_game_2 ?_
  refine zH_aload_nr dL_game_3 rfl rfl ?_
  refine zH_iload_n dL_game_4 rfl rfl ?_
  refine zH_iload_n dL_game_5 rfl rfl ?_
  refine zH_iload_n dL_game_6 rfl rfl ?_
  refine zH_callV (As := [ziv x0, ziv x1, ziv x2]) lkL_110 rfl rfl rfl hM ⟨Nat.le_refl _, by show 0 + k ≤ k; omega⟩ rfl (Nat.le_of_ble_eq_true rfl) dL_game_7 (fun Ex h1 hx => ?_) (fun r h1 hq => ?_)
  · rcases hX Ex h1 hx with e9 | e9
    · subst e9
      refine ⟨15, ⟨[], ⟨0, 12, 15, 18⟩, [⟨0, 12, 19, 13⟩], rfl, (fun z hz => absurd hz List.not_mem_nil), by decide, by decide, kL_18, by decide, rfl⟩, fun a9 => ?_⟩
      refine zH_astore dL_game_15 (Nat.le_of_ble_eq_true rfl) rfl ?_
      refine zH_iconst dL_game_17 ?_
      exact zH_ireturn dL_game_18 rfl (by show 0 + k ≤ k; omega) (Or.inr ⟨NSE, rfl, hx⟩)
    · subst e9
      refine ⟨19, ⟨[⟨0, 12, 15, 18⟩], ⟨0, 12, 19, 13⟩, [], rfl, (fun z hz => by rw [List.mem_singleton.mp hz]; exact Or.inr ⟨by decide, rfl, kL_18⟩), by decide, by decide, kL_13, by decide, rfl⟩, fun a9 => ?_⟩
      refine zH_astore dL_game_19 (Nat.le_of_ble_eq_true rfl) rfl ?_
      refine zH_iconst dL_game_21 ?_
      exact zH_ireturn dL_game_22 rfl (by show 0 + k ≤ k; omega) (Or.inr ⟨IAE, rfl, hx⟩)
  · obtain ⟨v, rfl⟩ := hQ r h1 hq
    refine zH_i2lz dL_game_10 ?_
    refine zH_lastore (N := 1) rfl (by decide) (by decide) dL_game_11 ?_
    refine zH_goto (tgt := 23) dL_game_12 (by decide) ?_
    refine zH_iconst dL_game_23 ?_
    exact zH_ireturn dL_game_24 rfl (by show 0 + k ≤ k; omega) (Or.inl ⟨v, h1, rfl, hq, rfl⟩)
abbrev mL_years : zM := (yL_years, cL_years, 6, (some .int))
abbrev hL_years : List (Nat × Nat × Nat × Nat) := [(0, 12, 15, 18), (0, 12, 19, 13)]
set_option maxRecDepth 100000 in
theorem cw_years {E : zE} {h : zH} {x0 x1 x2 : Int} {d k : Nat} {Q : Option Value → zH → Prop} {X : String → zH → Prop} (hM : zCal E mX5_years d k [zrv E 0, ziv x0, ziv x1, ziv x2] h Q X) (hQ : ∀ r h', Q r h' → ∃ v, r = some (ziv v)) (hX : ∀ e h', X e h' → e = NSE ∨ e = IAE) : zCalH E mL_years hL_years (d + 1) k [zrv E 0, ziv x0, ziv x1, ziv x2, zrv E 103] h (fun r h' => (∃ v h1, r = some (ziv 0) ∧ Q (some (ziv v)) h1 ∧ h' = zup h1 103 0 (zn v)) ∨ (∃ e, r = some (ziv (if e = NSE then 1 else 2)) ∧ X e h')) (fun _ _ => False) := by
  refine zCalH_of (by decide) (Nat.le_of_ble_eq_true rfl) (fun a => ?_)
  show zVh _ _ 0 0 [zrv E 0, ziv x0, ziv x1, ziv x2, zrv E 103, .null] [] _
  refine zH_aload_r dL_years_0 rfl ?_
  refine zH_iconst dL_years_2 ?_
  refine zH_aload_nr dL_years_3 rfl rfl ?_
  refine zH_iload_n dL_years_4 rfl rfl ?_
  refine zH_iload_n dL_years_5 rfl rfl ?_
  refine zH_iload_n dL_years_6 rfl rfl ?_
  refine zH_callV (As := [ziv x0, ziv x1, ziv x2]) lkL_113 rfl rfl rfl hM ⟨Nat.le_refl _, by show 0 + k ≤ k; omega⟩ rfl (Nat.le_of_ble_eq_true rfl) dL_years_7 (fun Ex h1 hx => ?_) (fun r h1 hq => ?_)
  · rcases hX Ex h1 hx with e9 | e9
    · subst e9
      refine ⟨15, ⟨[], ⟨0, 12, 15, 18⟩, [⟨0, 12, 19, 13⟩], rfl, (fun z hz => absurd hz List.not_mem_nil), by decide, by decide, kL_18, by decide, rfl⟩, fun a9 => ?_⟩
      refine zH_astore dL_years_15 (Nat.le_of_ble_eq_true rfl) rfl ?_
      refine zH_iconst dL_years_17 ?_
      exact zH_ireturn dL_years_18 rfl (by show 0 + k ≤ k; omega) (Or.inr ⟨NSE, rfl, hx⟩)
    · subst e9
      refine ⟨19, ⟨[⟨0, 12, 15, 18⟩], ⟨0, 12, 19, 13⟩, [], rfl, (fun z hz => by rw [List.mem_singleton.mp hz]; exact Or.inr ⟨by decide, rfl, kL_18⟩), by decide, by decide, kL_13, by decide, rfl⟩, fun a9 => ?_⟩
      refine zH_astore dL_years_19 (Nat.le_of_ble_eq_true rfl) rfl ?_
      refine zH_iconst dL_years_21 ?_
      exact zH_ireturn dL_years_22 rfl (by show 0 + k ≤ k; omega) (Or.inr ⟨IAE, rfl, hx⟩)
  · obtain ⟨v, rfl⟩ := hQ r h1 hq
    refine zH_i2lz dL_years_10 ?_
    refine zH_lastore (N := 1) rfl (by decide) (by decide) dL_years_11 ?_
    refine zH_goto (tgt := 23) dL_years_12 (by decide) ?_
    refine zH_iconst dL_years_23 ?_
    exact zH_ireturn dL_years_24 rfl (by show 0 + k ≤ k; omega) (Or.inl ⟨v, h1, rfl, hq, rfl⟩)
