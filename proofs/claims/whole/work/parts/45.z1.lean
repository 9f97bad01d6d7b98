
-- == X4_init ==
theorem dX4_init_0 : xd cX4_init 0 (.aload_n 0) 1 1 := ⟨by decide +kernel, rfl⟩
theorem dX4_init_1 : xd cX4_init 1 (.invokespecial 3) 3 4 := ⟨by decide +kernel, rfl⟩
theorem dX4_init_4 : xd cX4_init 4 (.aload_n 0) 1 5 := ⟨by decide +kernel, rfl⟩
theorem dX4_init_5 : xd cX4_init 5 (.bipush 40) 2 7 := ⟨by decide +kernel, rfl⟩
theorem dX4_init_7 : xd cX4_init 7 (.newarray .long) 2 9 := ⟨by decide +kernel, rfl⟩
theorem dX4_init_9 : xd cX4_init 9 (.putfield 9) 3 12 := ⟨by decide +kernel, rfl⟩
theorem dX4_init_12 : xd cX4_init 12 .return_ 1 13 := ⟨by decide +kernel, rfl⟩

set_option maxRecDepth 100000 in
set_option maxHeartbeats 4000000 in
theorem ct_X4_init (l : Launch) (g : XG) (a : Nat) : Ct l g 2 1 40 yX4_init cX4_init 1 none [.ref a] [(a, .inr (4, [.null, .int 0, .int 0]))] (fun vv_ ww_ => ∃ (q1_ : Nat), vv_ = none ∧ ww_ = [(a, .inr (4, [.ref q1_, .int 0, .int 0])), (q1_, .inl (g.2.1 2, 40, .inr (.inl (fun _ => 0))))]) := by
  refine Ct.ofX (lv := [some (.ref a)]) (by decide) rfl (Nat.le_of_ble_eq_true rfl) (fun κ => ?_)
  generalize hQ : xQ κ g 1 40 _ = Q
  refine x_aload_n dX4_init_0 rfl ?_
  refine x_objInit dX4_init_1 ml_X4_3 (Nat.le_of_ble_eq_true rfl) (by decide) ?_
  refine x_aload_n dX4_init_4 rfl ?_
  refine x_bipush 40 dX4_init_5 (by decide) ?_
  refine x_newa (a0 := (40, .inr (.inl (fun _ => 0)))) dX4_init_7 2 ac_long rfl rfl (fun _ _ => rfl) (fun _ => rfl) (by decide) (by decide) (Nat.le_of_ble_eq_true rfl) (Nat.le_of_ble_eq_true rfl) (Nat.le_of_ble_eq_true rfl) (fun q1 => ?_)
  refine x_putF (ws' := [(a, .inr (4, [.ref q1, .int 0, .int 0])), (q1, .inl (g.2.1 2, 40, .inr (.inl (fun _ => 0))))]) dX4_init_9 0 0 inX4 tyX4_ok nmX4 fl_X4_9 rfl rfl (by decide) rfl rfl rfl (rfl) rfl (xlt rfl) rfl ?_
  rw [← hQ]
  refine x_vret dX4_init_12 rfl (Nat.le_of_ble_eq_true rfl) (Nat.le_of_ble_eq_true rfl) ?_
  exact ⟨_, rfl, rfl⟩

-- == X1_init ==
theorem dX1_init_0 : xd cX1_init 0 (.aload_n 0) 1 1 := ⟨by decide +kernel, rfl⟩
theorem dX1_init_1 : xd cX1_init 1 (.invokespecial 3) 3 4 := ⟨by decide +kernel, rfl⟩
theorem dX1_init_4 : xd cX1_init 4 (.aload_n 0) 1 5 := ⟨by decide +kernel, rfl⟩
theorem dX1_init_5 : xd cX1_init 5 (.bipush 60) 2 7 := ⟨by decide +kernel, rfl⟩
theorem dX1_init_7 : xd cX1_init 7 (.newarray .byte) 2 9 := ⟨by decide +kernel, rfl⟩
theorem dX1_init_9 : xd cX1_init 9 (.putfield 9) 3 12 := ⟨by decide +kernel, rfl⟩
theorem dX1_init_12 : xd cX1_init 12 (.aload_n 0) 1 13 := ⟨by decide +kernel, rfl⟩
theorem dX1_init_13 : xd cX1_init 13 (.bipush 60) 2 15 := ⟨by decide +kernel, rfl⟩
theorem dX1_init_15 : xd cX1_init 15 (.newarray .int) 2 17 := ⟨by decide +kernel, rfl⟩
theorem dX1_init_17 : xd cX1_init 17 (.putfield 15) 3 20 := ⟨by decide +kernel, rfl⟩
theorem dX1_init_20 : xd cX1_init 20 .return_ 1 21 := ⟨by decide +kernel, rfl⟩

set_option maxRecDepth 100000 in
set_option maxHeartbeats 4000000 in
theorem ct_X1_init (l : Launch) (g : XG) (a : Nat) : Ct l g 2 2 120 yX1_init cX1_init 1 none [.ref a] [(a, .inr (1, [.null, .null, .int 0, .int 0, .int 0, .int 0]))] (fun vv_ ww_ => ∃ (q1_ : Nat) (q2_ : Nat), vv_ = none ∧ ww_ = [(a, .inr (1, [.ref q1_, .ref q2_, .int 0, .int 0, .int 0, .int 0])), (q1_, .inl (g.2.1 1, 60, .inl (fun _ => 0))), (q2_, .inl (g.2.1 0, 60, .inl (fun _ => 0)))]) := by
  refine Ct.ofX (lv := [some (.ref a)]) (by decide) rfl (Nat.le_of_ble_eq_true rfl) (fun κ => ?_)
  generalize hQ : xQ κ g 2 120 _ = Q
  refine x_aload_n dX1_init_0 rfl ?_
  refine x_objInit dX1_init_1 ml_X1_3 (Nat.le_of_ble_eq_true rfl) (by decide) ?_
  refine x_aload_n dX1_init_4 rfl ?_
  refine x_bipush 60 dX1_init_5 (by decide) ?_
  refine x_newa (a0 := (60, .inl (fun _ => 0))) dX1_init_7 1 ac_byte rfl rfl (fun _ _ => rfl) (fun _ => rfl) (by decide) (by decide) (Nat.le_of_ble_eq_true rfl) (Nat.le_of_ble_eq_true rfl) (Nat.le_of_ble_eq_true rfl) (fun q1 => ?_)
  refine x_putF (ws' := [(a, .inr (1, [.ref q1, .null, .int 0, .int 0, .int 0, .int 0])), (q1, .inl (g.2.1 1, 60, .inl (fun _ => 0)))]) dX1_init_9 0 0 inX1 tyX1_ok nmX1 fl_X1_9 rfl rfl (by decide) rfl rfl rfl (rfl) rfl (xlt rfl) rfl ?_
  refine x_aload_n dX1_init_12 rfl ?_
  refine x_bipush 60 dX1_init_13 (by decide) ?_
  refine x_newa (a0 := (60, .inl (fun _ => 0))) dX1_init_15 0 ac_int rfl rfl (fun _ _ => rfl) (fun _ => rfl) (by decide) (by decide) (Nat.le_of_ble_eq_true rfl) (Nat.le_of_ble_eq_true rfl) (Nat.le_of_ble_eq_true rfl) (fun q2 => ?_)
  refine x_putF (ws' := [(a, .inr (1, [.ref q1, .ref q2, .int 0, .int 0, .int 0, .int 0])), (q1, .inl (g.2.1 1, 60, .inl (fun _ => 0))), (q2, .inl (g.2.1 0, 60, .inl (fun _ => 0)))]) dX1_init_17 0 1 inX1 tyX1_ok nmX1 fl_X1_15 rfl rfl (by decide) rfl rfl rfl (rfl) rfl (xlt rfl) rfl ?_
  rw [← hQ]
  refine x_vret dX1_init_20 rfl (Nat.le_of_ble_eq_true rfl) (Nat.le_of_ble_eq_true rfl) ?_
  exact ⟨_, _, rfl, rfl⟩

-- == X2_init ==
theorem dX2_init_0 : xd cX2_init 0 (.aload_n 0) 1 1 := ⟨by decide +kernel, rfl⟩
theorem dX2_init_1 : xd cX2_init 1 (.invokespecial 3) 3 4 := ⟨by decide +kernel, rfl⟩
theorem dX2_init_4 : xd cX2_init 4 (.aload_n 0) 1 5 := ⟨by decide +kernel, rfl⟩
theorem dX2_init_5 : xd cX2_init 5 (.bipush 60) 2 7 := ⟨by decide +kernel, rfl⟩
theorem dX2_init_7 : xd cX2_init 7 (.newarray .int) 2 9 := ⟨by decide +kernel, rfl⟩
theorem dX2_init_9 : xd cX2_init 9 (.putfield 9) 3 12 := ⟨by decide +kernel, rfl⟩
theorem dX2_init_12 : xd cX2_init 12 (.aload_n 0) 1 13 := ⟨by decide +kernel, rfl⟩
theorem dX2_init_13 : xd cX2_init 13 (.aload_n 1) 1 14 := ⟨by decide +kernel, rfl⟩
theorem dX2_init_14 : xd cX2_init 14 (.putfield 15) 3 17 := ⟨by decide +kernel, rfl⟩
theorem dX2_init_17 : xd cX2_init 17 .return_ 1 18 := ⟨by decide +kernel, rfl⟩

set_option maxRecDepth 100000 in
set_option maxHeartbeats 4000000 in
theorem ct_X2_init (l : Launch) (g : XG) (a aS : Nat) : Ct l g 2 1 60 yX2_init cX2_init 2 none [.ref a, .ref aS] [(a, .inr (2, [.null, .null]))] (fun vv_ ww_ => ∃ (q1_ : Nat), vv_ = none ∧ ww_ = [(a, .inr (2, [.ref aS, .ref q1_])), (q1_, .inl (g.2.1 0, 60, .inl (fun _ => 0)))]) := by
  refine Ct.ofX (lv := [some (.ref a), some (.ref aS)]) (by decide) rfl (Nat.le_of_ble_eq_true rfl) (fun κ => ?_)
  generalize hQ : xQ κ g 1 60 _ = Q
  refine x_aload_n dX2_init_0 rfl ?_
  refine x_objInit dX2_init_1 ml_X2_3 (Nat.le_of_ble_eq_true rfl) (by decide) ?_
  refine x_aload_n dX2_init_4 rfl ?_
  refine x_bipush 60 dX2_init_5 (by decide) ?_
  refine x_newa (a0 := (60, .inl (fun _ => 0))) dX2_init_7 0 ac_int rfl rfl (fun _ _ => rfl) (fun _ => rfl) (by decide) (by decide) (Nat.le_of_ble_eq_true rfl) (Nat.le_of_ble_eq_true rfl) (Nat.le_of_ble_eq_true rfl) (fun q1 => ?_)
  refine x_putF (ws' := [(a, .inr (2, [.null, .ref q1])), (q1, .inl (g.2.1 0, 60, .inl (fun _ => 0)))]) dX2_init_9 0 1 inX2 tyX2_ok nmX2 fl_X2_9 rfl rfl (by decide) rfl rfl rfl (rfl) rfl (xlt rfl) rfl ?_
  refine x_aload_n dX2_init_12 rfl ?_
  refine x_aload_n dX2_init_13 rfl ?_
  refine x_putF (ws' := [(a, .inr (2, [.ref aS, .ref q1])), (q1, .inl (g.2.1 0, 60, .inl (fun _ => 0)))]) dX2_init_14 0 0 inX2 tyX2_ok nmX2 fl_X2_15 rfl rfl (by decide) rfl rfl rfl (rfl) rfl (xlt rfl) rfl ?_
  rw [← hQ]
  refine x_vret dX2_init_17 rfl (Nat.le_of_ble_eq_true rfl) (Nat.le_of_ble_eq_true rfl) ?_
  exact ⟨_, rfl, rfl⟩

-- == X3_init ==
theorem dX3_init_0 : xd cX3_init 0 (.aload_n 0) 1 1 := ⟨by decide +kernel, rfl⟩
theorem dX3_init_1 : xd cX3_init 1 (.invokespecial 3) 3 4 := ⟨by decide +kernel, rfl⟩
theorem dX3_init_4 : xd cX3_init 4 (.aload_n 0) 1 5 := ⟨by decide +kernel, rfl⟩
theorem dX3_init_5 : xd cX3_init 5 (.sipush 495) 3 8 := ⟨by decide +kernel, rfl⟩
theorem dX3_init_8 : xd cX3_init 8 (.newarray .long) 2 10 := ⟨by decide +kernel, rfl⟩
theorem dX3_init_10 : xd cX3_init 10 (.putfield 9) 3 13 := ⟨by decide +kernel, rfl⟩
theorem dX3_init_13 : xd cX3_init 13 (.aload_n 0) 1 14 := ⟨by decide +kernel, rfl⟩
theorem dX3_init_14 : xd cX3_init 14 (.sipush 286) 3 17 := ⟨by decide +kernel, rfl⟩
theorem dX3_init_17 : xd cX3_init 17 (.newarray .long) 2 19 := ⟨by decide +kernel, rfl⟩
theorem dX3_init_19 : xd cX3_init 19 (.putfield 15) 3 22 := ⟨by decide +kernel, rfl⟩
theorem dX3_init_22 : xd cX3_init 22 (.aload_n 0) 1 23 := ⟨by decide +kernel, rfl⟩
theorem dX3_init_23 : xd cX3_init 23 (.bipush 10) 2 25 := ⟨by decide +kernel, rfl⟩
theorem dX3_init_25 : xd cX3_init 25 (.newarray .int) 2 27 := ⟨by decide +kernel, rfl⟩
theorem dX3_init_27 : xd cX3_init 27 (.putfield 18) 3 30 := ⟨by decide +kernel, rfl⟩
theorem dX3_init_30 : xd cX3_init 30 (.aload_n 0) 1 31 := ⟨by decide +kernel, rfl⟩
theorem dX3_init_31 : xd cX3_init 31 (.aload_n 1) 1 32 := ⟨by decide +kernel, rfl⟩
theorem dX3_init_32 : xd cX3_init 32 (.putfield 22) 3 35 := ⟨by decide +kernel, rfl⟩
theorem dX3_init_35 : xd cX3_init 35 .return_ 1 36 := ⟨by decide +kernel, rfl⟩

set_option maxRecDepth 100000 in
set_option maxHeartbeats 4000000 in
theorem ct_X3_init (l : Launch) (g : XG) (a aL : Nat) : Ct l g 2 3 791 yX3_init cX3_init 2 none [.ref a, .ref aL] [(a, .inr (3, [.null, .null, .null, .null]))] (fun vv_ ww_ => ∃ (q1_ : Nat) (q2_ : Nat) (q3_ : Nat), vv_ = none ∧ ww_ = [(a, .inr (3, [.ref q1_, .ref q2_, .ref q3_, .ref aL])), (q1_, .inl (g.2.1 2, 495, .inr (.inl (fun _ => 0)))), (q2_, .inl (g.2.1 2, 286, .inr (.inl (fun _ => 0)))), (q3_, .inl (g.2.1 0, 10, .inl (fun _ => 0)))]) := by
  refine Ct.ofX (lv := [some (.ref a), some (.ref aL)]) (by decide) rfl (Nat.le_of_ble_eq_true rfl) (fun κ => ?_)
  generalize hQ : xQ κ g 3 791 _ = Q
  refine x_aload_n dX3_init_0 rfl ?_
  refine x_objInit dX3_init_1 ml_X3_3 (Nat.le_of_ble_eq_true rfl) (by decide) ?_
  refine x_aload_n dX3_init_4 rfl ?_
  refine x_sipush 495 dX3_init_5 (by decide) ?_
  refine x_newa (a0 := (495, .inr (.inl (fun _ => 0)))) dX3_init_8 2 ac_long rfl rfl (fun _ _ => rfl) (fun _ => rfl) (by decide) (by decide) (Nat.le_of_ble_eq_true rfl) (Nat.le_of_ble_eq_true rfl) (Nat.le_of_ble_eq_true rfl) (fun q1 => ?_)
  refine x_putF (ws' := [(a, .inr (3, [.ref q1, .null, .null, .null])), (q1, .inl (g.2.1 2, 495, .inr (.inl (fun _ => 0))))]) dX3_init_10 0 0 inX3 tyX3_ok nmX3 fl_X3_9 rfl rfl (by decide) rfl rfl rfl (rfl) rfl (xlt rfl) rfl ?_
  refine x_aload_n dX3_init_13 rfl ?_
  refine x_sipush 286 dX3_init_14 (by decide) ?_
  refine x_newa (a0 := (286, .inr (.inl (fun _ => 0)))) dX3_init_17 2 ac_long rfl rfl (fun _ _ => rfl) (fun _ => rfl) (by decide) (by decide) (Nat.le_of_ble_eq_true rfl) (Nat.le_of_ble_eq_true rfl) (Nat.le_of_ble_eq_true rfl) (fun q2 => ?_)
  refine x_putF (ws' := [(a, .inr (3, [.ref q1, .ref q2, .null, .null])), (q1, .inl (g.2.1 2, 495, .inr (.inl (fun _ => 0)))), (q2, .inl (g.2.1 2, 286, .inr (.inl (fun _ => 0))))]) dX3_init_19 0 1 inX3 tyX3_ok nmX3 fl_X3_15 rfl rfl (by decide) rfl rfl rfl (rfl) rfl (xlt rfl) rfl ?_
  refine x_aload_n dX3_init_22 rfl ?_
  refine x_bipush 10 dX3_init_23 (by decide) ?_
  refine x_newa (a0 := (10, .inl (fun _ => 0))) dX3_init_25 0 ac_int rfl rfl (fun _ _ => rfl) (fun _ => rfl) (by decide) (by decide) (Nat.le_of_ble_eq_true rfl) (Nat.le_of_ble_eq_true rfl) (Nat.le_of_ble_eq_true rfl) (fun q3 => ?_)
  refine x_putF (ws' := [(a, .inr (3, [.ref q1, .ref q2, .ref q3, .null])), (q1, .inl (g.2.1 2, 495, .inr (.inl (fun _ => 0)))), (q2, .inl (g.2.1 2, 286, .inr (.inl (fun _ => 0)))), (q3, .inl (g.2.1 0, 10, .inl (fun _ => 0)))]) dX3_init_27 0 2 inX3 tyX3_ok nmX3 fl_X3_18 rfl rfl (by decide) rfl rfl rfl (rfl) rfl (xlt rfl) rfl ?_
  refine x_aload_n dX3_init_30 rfl ?_
  refine x_aload_n dX3_init_31 rfl ?_
  refine x_putF (ws' := [(a, .inr (3, [.ref q1, .ref q2, .ref q3, .ref aL])), (q1, .inl (g.2.1 2, 495, .inr (.inl (fun _ => 0)))), (q2, .inl (g.2.1 2, 286, .inr (.inl (fun _ => 0)))), (q3, .inl (g.2.1 0, 10, .inl (fun _ => 0)))]) dX3_init_32 0 3 inX3 tyX3_ok nmX3 fl_X3_22 rfl rfl (by decide) rfl rfl rfl (rfl) rfl (xlt rfl) rfl ?_
  rw [← hQ]
  refine x_vret dX3_init_35 rfl (Nat.le_of_ble_eq_true rfl) (Nat.le_of_ble_eq_true rfl) ?_
  exact ⟨_, _, _, rfl, rfl⟩

-- == X7_init ==
theorem dX7_init_0 : xd cX7_init 0 (.aload_n 0) 1 1 := ⟨by decide +kernel, rfl⟩
theorem dX7_init_1 : xd cX7_init 1 (.invokespecial 3) 3 4 := ⟨by decide +kernel, rfl⟩
theorem dX7_init_4 : xd cX7_init 4 (.aload_n 0) 1 5 := ⟨by decide +kernel, rfl⟩
theorem dX7_init_5 : xd cX7_init 5 (.sipush 495) 3 8 := ⟨by decide +kernel, rfl⟩
theorem dX7_init_8 : xd cX7_init 8 (.newarray .long) 2 10 := ⟨by decide +kernel, rfl⟩
theorem dX7_init_10 : xd cX7_init 10 (.putfield 9) 3 13 := ⟨by decide +kernel, rfl⟩
theorem dX7_init_13 : xd cX7_init 13 (.aload_n 0) 1 14 := ⟨by decide +kernel, rfl⟩
theorem dX7_init_14 : xd cX7_init 14 (.sipush 495) 3 17 := ⟨by decide +kernel, rfl⟩
theorem dX7_init_17 : xd cX7_init 17 (.newarray .int) 2 19 := ⟨by decide +kernel, rfl⟩
theorem dX7_init_19 : xd cX7_init 19 (.putfield 15) 3 22 := ⟨by decide +kernel, rfl⟩
theorem dX7_init_22 : xd cX7_init 22 (.aload_n 0) 1 23 := ⟨by decide +kernel, rfl⟩
theorem dX7_init_23 : xd cX7_init 23 (.aload_n 1) 1 24 := ⟨by decide +kernel, rfl⟩
theorem dX7_init_24 : xd cX7_init 24 (.putfield 19) 3 27 := ⟨by decide +kernel, rfl⟩
theorem dX7_init_27 : xd cX7_init 27 (.aload_n 0) 1 28 := ⟨by decide +kernel, rfl⟩
theorem dX7_init_28 : xd cX7_init 28 (.aload_n 2) 1 29 := ⟨by decide +kernel, rfl⟩
theorem dX7_init_29 : xd cX7_init 29 (.putfield 23) 3 32 := ⟨by decide +kernel, rfl⟩
theorem dX7_init_32 : xd cX7_init 32 (.aload_n 0) 1 33 := ⟨by decide +kernel, rfl⟩
theorem dX7_init_33 : xd cX7_init 33 (.aload_n 3) 1 34 := ⟨by decide +kernel, rfl⟩
theorem dX7_init_34 : xd cX7_init 34 (.putfield 27) 3 37 := ⟨by decide +kernel, rfl⟩
theorem dX7_init_37 : xd cX7_init 37 (.aload_n 0) 1 38 := ⟨by decide +kernel, rfl⟩
theorem dX7_init_38 : xd cX7_init 38 (.aload 4) 2 40 := ⟨by decide +kernel, rfl⟩
theorem dX7_init_40 : xd cX7_init 40 (.putfield 31) 3 43 := ⟨by decide +kernel, rfl⟩
theorem dX7_init_43 : xd cX7_init 43 .return_ 1 44 := ⟨by decide +kernel, rfl⟩

set_option maxRecDepth 100000 in
set_option maxHeartbeats 4000000 in
theorem ct_X7_init (l : Launch) (g : XG) (a aS aL aC aO : Nat) : Ct l g 2 2 990 yX7_init cX7_init 5 none [.ref a, .ref aS, .ref aL, .ref aC, .ref aO] [(a, .inr (7, [.null, .null, .null, .null, .null, .null]))] (fun vv_ ww_ => ∃ (q1_ : Nat) (q2_ : Nat), vv_ = none ∧ ww_ = [(a, .inr (7, [.ref aS, .ref aL, .ref aC, .ref aO, .ref q1_, .ref q2_])), (q1_, .inl (g.2.1 2, 495, .inr (.inl (fun _ => 0)))), (q2_, .inl (g.2.1 0, 495, .inl (fun _ => 0)))]) := by
  refine Ct.ofX (lv := [some (.ref a), some (.ref aS), some (.ref aL), some (.ref aC), some (.ref aO)]) (by decide) rfl (Nat.le_of_ble_eq_true rfl) (fun κ => ?_)
  generalize hQ : xQ κ g 2 990 _ = Q
  refine x_aload_n dX7_init_0 rfl ?_
  refine x_objInit dX7_init_1 ml_X7_3 (Nat.le_of_ble_eq_true rfl) (by decide) ?_
  refine x_aload_n dX7_init_4 rfl ?_
  refine x_sipush 495 dX7_init_5 (by decide) ?_
  refine x_newa (a0 := (495, .inr (.inl (fun _ => 0)))) dX7_init_8 2 ac_long rfl rfl (fun _ _ => rfl) (fun _ => rfl) (by decide) (by decide) (Nat.le_of_ble_eq_true rfl) (Nat.le_of_ble_eq_true rfl) (Nat.le_of_ble_eq_true rfl) (fun q1 => ?_)
  refine x_putF (ws' := [(a, .inr (7, [.null, .null, .null, .null, .ref q1, .null])), (q1, .inl (g.2.1 2, 495, .inr (.inl (fun _ => 0))))]) dX7_init_10 0 4 inX7 tyX7_ok nmX7 fl_X7_9 rfl rfl (by decide) rfl rfl rfl (rfl) rfl (xlt rfl) rfl ?_
  refine x_aload_n dX7_init_13 rfl ?_
  refine x_sipush 495 dX7_init_14 (by decide) ?_
  refine x_newa (a0 := (495, .inl (fun _ => 0))) dX7_init_17 0 ac_int rfl rfl (fun _ _ => rfl) (fun _ => rfl) (by decide) (by decide) (Nat.le_of_ble_eq_true rfl) (Nat.le_of_ble_eq_true rfl) (Nat.le_of_ble_eq_true rfl) (fun q2 => ?_)
  refine x_putF (ws' := [(a, .inr (7, [.null, .null, .null, .null, .ref q1, .ref q2])), (q1, .inl (g.2.1 2, 495, .inr (.inl (fun _ => 0)))), (q2, .inl (g.2.1 0, 495, .inl (fun _ => 0)))]) dX7_init_19 0 5 inX7 tyX7_ok nmX7 fl_X7_15 rfl rfl (by decide) rfl rfl rfl (rfl) rfl (xlt rfl) rfl ?_
  refine x_aload_n dX7_init_22 rfl ?_
  refine x_aload_n dX7_init_23 rfl ?_
  refine x_putF (ws' := [(a, .inr (7, [.ref aS, .null, .null, .null, .ref q1, .ref q2])), (q1, .inl (g.2.1 2, 495, .inr (.inl (fun _ => 0)))), (q2, .inl (g.2.1 0, 495, .inl (fun _ => 0)))]) dX7_init_24 0 0 inX7 tyX7_ok nmX7 fl_X7_19 rfl rfl (by decide) rfl rfl rfl (rfl) rfl (xlt rfl) rfl ?_
  refine x_aload_n dX7_init_27 rfl ?_
  refine x_aload_n dX7_init_28 rfl ?_
  refine x_putF (ws' := [(a, .inr (7, [.ref aS, .ref aL, .null, .null, .ref q1, .ref q2])), (q1, .inl (g.2.1 2, 495, .inr (.inl (fun _ => 0)))), (q2, .inl (g.2.1 0, 495, .inl (fun _ => 0)))]) dX7_init_29 0 1 inX7 tyX7_ok nmX7 fl_X7_23 rfl rfl (by decide) rfl rfl rfl (rfl) rfl (xlt rfl) rfl ?_
  refine x_aload_n dX7_init_32 rfl ?_
  refine x_aload_n dX7_init_33 rfl ?_
  refine x_putF (ws' := [(a, .inr (7, [.ref aS, .ref aL, .ref aC, .null, .ref q1, .ref q2])), (q1, .inl (g.2.1 2, 495, .inr (.inl (fun _ => 0)))), (q2, .inl (g.2.1 0, 495, .inl (fun _ => 0)))]) dX7_init_34 0 2 inX7 tyX7_ok nmX7 fl_X7_27 rfl rfl (by decide) rfl rfl rfl (rfl) rfl (xlt rfl) rfl ?_
  refine x_aload_n dX7_init_37 rfl ?_
  refine x_aload dX7_init_38 rfl ?_
  refine x_putF (ws' := [(a, .inr (7, [.ref aS, .ref aL, .ref aC, .ref aO, .ref q1, .ref q2])), (q1, .inl (g.2.1 2, 495, .inr (.inl (fun _ => 0)))), (q2, .inl (g.2.1 0, 495, .inl (fun _ => 0)))]) dX7_init_40 0 3 inX7 tyX7_ok nmX7 fl_X7_31 rfl rfl (by decide) rfl rfl rfl (rfl) rfl (xlt rfl) rfl ?_
  rw [← hQ]
  refine x_vret dX7_init_43 rfl (Nat.le_of_ble_eq_true rfl) (Nat.le_of_ble_eq_true rfl) ?_
  exact ⟨_, _, rfl, rfl⟩

