
-- == X6_init ==
theorem dX6_init_0 : xd cX6_init 0 (.aload_n 0) 1 1 := ⟨by decide +kernel, rfl⟩
theorem dX6_init_1 : xd cX6_init 1 (.invokespecial 3) 3 4 := ⟨by decide +kernel, rfl⟩
theorem dX6_init_4 : xd cX6_init 4 (.aload_n 0) 1 5 := ⟨by decide +kernel, rfl⟩
theorem dX6_init_5 : xd cX6_init 5 (.bipush 12) 2 7 := ⟨by decide +kernel, rfl⟩
theorem dX6_init_7 : xd cX6_init 7 (.newarray .int) 2 9 := ⟨by decide +kernel, rfl⟩
theorem dX6_init_9 : xd cX6_init 9 (.putfield 9) 3 12 := ⟨by decide +kernel, rfl⟩
theorem dX6_init_12 : xd cX6_init 12 (.aload_n 0) 1 13 := ⟨by decide +kernel, rfl⟩
theorem dX6_init_13 : xd cX6_init 13 (.bipush 12) 2 15 := ⟨by decide +kernel, rfl⟩
theorem dX6_init_15 : xd cX6_init 15 (.newarray .int) 2 17 := ⟨by decide +kernel, rfl⟩
theorem dX6_init_17 : xd cX6_init 17 (.putfield 15) 3 20 := ⟨by decide +kernel, rfl⟩
theorem dX6_init_20 : xd cX6_init 20 (.aload_n 0) 1 21 := ⟨by decide +kernel, rfl⟩
theorem dX6_init_21 : xd cX6_init 21 (.bipush 40) 2 23 := ⟨by decide +kernel, rfl⟩
theorem dX6_init_23 : xd cX6_init 23 (.newarray .int) 2 25 := ⟨by decide +kernel, rfl⟩
theorem dX6_init_25 : xd cX6_init 25 (.putfield 18) 3 28 := ⟨by decide +kernel, rfl⟩
theorem dX6_init_28 : xd cX6_init 28 (.aload_n 0) 1 29 := ⟨by decide +kernel, rfl⟩
theorem dX6_init_29 : xd cX6_init 29 (.bipush 40) 2 31 := ⟨by decide +kernel, rfl⟩
theorem dX6_init_31 : xd cX6_init 31 (.newarray .int) 2 33 := ⟨by decide +kernel, rfl⟩
theorem dX6_init_33 : xd cX6_init 33 (.putfield 21) 3 36 := ⟨by decide +kernel, rfl⟩
theorem dX6_init_36 : xd cX6_init 36 (.aload_n 0) 1 37 := ⟨by decide +kernel, rfl⟩
theorem dX6_init_37 : xd cX6_init 37 (.bipush 60) 2 39 := ⟨by decide +kernel, rfl⟩
theorem dX6_init_39 : xd cX6_init 39 (.newarray .int) 2 41 := ⟨by decide +kernel, rfl⟩
theorem dX6_init_41 : xd cX6_init 41 (.putfield 24) 3 44 := ⟨by decide +kernel, rfl⟩
theorem dX6_init_44 : xd cX6_init 44 (.aload_n 0) 1 45 := ⟨by decide +kernel, rfl⟩
theorem dX6_init_45 : xd cX6_init 45 (.bipush 8) 2 47 := ⟨by decide +kernel, rfl⟩
theorem dX6_init_47 : xd cX6_init 47 (.newarray .int) 2 49 := ⟨by decide +kernel, rfl⟩
theorem dX6_init_49 : xd cX6_init 49 (.putfield 27) 3 52 := ⟨by decide +kernel, rfl⟩
theorem dX6_init_52 : xd cX6_init 52 (.aload_n 0) 1 53 := ⟨by decide +kernel, rfl⟩
theorem dX6_init_53 : xd cX6_init 53 (.sipush 320) 3 56 := ⟨by decide +kernel, rfl⟩
theorem dX6_init_56 : xd cX6_init 56 (.newarray .int) 2 58 := ⟨by decide +kernel, rfl⟩
theorem dX6_init_58 : xd cX6_init 58 (.putfield 30) 3 61 := ⟨by decide +kernel, rfl⟩
theorem dX6_init_61 : xd cX6_init 61 (.aload_n 0) 1 62 := ⟨by decide +kernel, rfl⟩
theorem dX6_init_62 : xd cX6_init 62 (.iconst 1) 1 63 := ⟨by decide +kernel, rfl⟩
theorem dX6_init_63 : xd cX6_init 63 (.putfield 33) 3 66 := ⟨by decide +kernel, rfl⟩
theorem dX6_init_66 : xd cX6_init 66 (.getstatic 37) 3 69 := ⟨by decide +kernel, rfl⟩
theorem dX6_init_69 : xd cX6_init 69 (.iconst 0) 1 70 := ⟨by decide +kernel, rfl⟩
theorem dX6_init_70 : xd cX6_init 70 (.aload_n 0) 1 71 := ⟨by decide +kernel, rfl⟩
theorem dX6_init_71 : xd cX6_init 71 (.getfield 27) 3 74 := ⟨by decide +kernel, rfl⟩
theorem dX6_init_74 : xd cX6_init 74 (.iconst 0) 1 75 := ⟨by decide +kernel, rfl⟩
theorem dX6_init_75 : xd cX6_init 75 (.bipush 8) 2 77 := ⟨by decide +kernel, rfl⟩
theorem dX6_init_77 : xd cX6_init 77 (.invokestatic 40) 3 80 := ⟨by decide +kernel, rfl⟩
theorem dX6_init_80 : xd cX6_init 80 .return_ 1 81 := ⟨by decide +kernel, rfl⟩

set_option maxRecDepth 100000 in
set_option maxHeartbeats 4000000 in
theorem ct_X6_init (l : Launch) (g : XG) (a : Nat) : Ct l g 2 8 492 yX6_init cX6_init 1 none [.ref a] [(a, .inr (6, [.null, .null, .null, .null, .null, .null, .null, .int 0, .int 0, .int 0, .int 0, .int 0]))] (fun vv_ ww_ => ∃ (q1_ : Nat) (q2_ : Nat) (q3_ : Nat) (q4_ : Nat) (q5_ : Nat) (q6_ : Nat) (q7_ : Nat), vv_ = none ∧ ww_ = [(a, .inr (6, [.ref q1_, .ref q2_, .ref q3_, .ref q4_, .ref q5_, .ref q6_, .ref q7_, .int 0, .int 0, .int 0, .int 0, .int 1])), (q1_, .inl (g.2.1 0, 12, .inl (fun _ => 0))), (q2_, .inl (g.2.1 0, 12, .inl (fun _ => 0))), (q3_, .inl (g.2.1 0, 40, .inl (fun _ => 0))), (q4_, .inl (g.2.1 0, 40, .inl (fun _ => 0))), (q5_, .inl (g.2.1 0, 60, .inl (fun _ => 0))), (q6_, .inl (g.2.1 0, 8, .inl (nIf rfN))), (q7_, .inl (g.2.1 0, 320, .inl (fun _ => 0)))]) := by
  refine Ct.ofX (lv := [some (.ref a)]) (by decide) rfl (Nat.le_of_ble_eq_true rfl) (fun κ => ?_)
  generalize hQ : xQ κ g 8 492 _ = Q
  refine x_aload_n dX6_init_0 rfl ?_
  refine x_objInit dX6_init_1 ml_X6_3 (Nat.le_of_ble_eq_true rfl) (by decide) ?_
  refine x_aload_n dX6_init_4 rfl ?_
  refine x_bipush 12 dX6_init_5 (by decide) ?_
  refine x_newa (a0 := (12, .inl (fun _ => 0))) dX6_init_7 0 ac_int rfl rfl (fun _ _ => rfl) (fun _ => rfl) (by decide) (by decide) (Nat.le_of_ble_eq_true rfl) (Nat.le_of_ble_eq_true rfl) (Nat.le_of_ble_eq_true rfl) (fun q1 => ?_)
  refine x_putF (ws' := [(a, .inr (6, [.ref q1, .null, .null, .null, .null, .null, .null, .int 0, .int 0, .int 0, .int 0, .int 0])), (q1, .inl (g.2.1 0, 12, .inl (fun _ => 0)))]) dX6_init_9 0 0 inX6 tyX6_ok nmX6 fl_X6_9 rfl rfl (by decide) rfl rfl rfl (rfl) rfl (xlt rfl) rfl ?_
  refine x_aload_n dX6_init_12 rfl ?_
  refine x_bipush 12 dX6_init_13 (by decide) ?_
  refine x_newa (a0 := (12, .inl (fun _ => 0))) dX6_init_15 0 ac_int rfl rfl (fun _ _ => rfl) (fun _ => rfl) (by decide) (by decide) (Nat.le_of_ble_eq_true rfl) (Nat.le_of_ble_eq_true rfl) (Nat.le_of_ble_eq_true rfl) (fun q2 => ?_)
  refine x_putF (ws' := [(a, .inr (6, [.ref q1, .ref q2, .null, .null, .null, .null, .null, .int 0, .int 0, .int 0, .int 0, .int 0])), (q1, .inl (g.2.1 0, 12, .inl (fun _ => 0))), (q2, .inl (g.2.1 0, 12, .inl (fun _ => 0)))]) dX6_init_17 0 1 inX6 tyX6_ok nmX6 fl_X6_15 rfl rfl (by decide) rfl rfl rfl (rfl) rfl (xlt rfl) rfl ?_
  refine x_aload_n dX6_init_20 rfl ?_
  refine x_bipush 40 dX6_init_21 (by decide) ?_
  refine x_newa (a0 := (40, .inl (fun _ => 0))) dX6_init_23 0 ac_int rfl rfl (fun _ _ => rfl) (fun _ => rfl) (by decide) (by decide) (Nat.le_of_ble_eq_true rfl) (Nat.le_of_ble_eq_true rfl) (Nat.le_of_ble_eq_true rfl) (fun q3 => ?_)
  refine x_putF (ws' := [(a, .inr (6, [.ref q1, .ref q2, .ref q3, .null, .null, .null, .null, .int 0, .int 0, .int 0, .int 0, .int 0])), (q1, .inl (g.2.1 0, 12, .inl (fun _ => 0))), (q2, .inl (g.2.1 0, 12, .inl (fun _ => 0))), (q3, .inl (g.2.1 0, 40, .inl (fun _ => 0)))]) dX6_init_25 0 2 inX6 tyX6_ok nmX6 fl_X6_18 rfl rfl (by decide) rfl rfl rfl (rfl) rfl (xlt rfl) rfl ?_
  refine x_aload_n dX6_init_28 rfl ?_
  refine x_bipush 40 dX6_init_29 (by decide) ?_
  refine x_newa (a0 := (40, .inl (fun _ => 0))) dX6_init_31 0 ac_int rfl rfl (fun _ _ => rfl) (fun _ => rfl) (by decide) (by decide) (Nat.le_of_ble_eq_true rfl) (Nat.le_of_ble_eq_true rfl) (Nat.le_of_ble_eq_true rfl) (fun q4 => ?_)
  refine x_putF (ws' := [(a, .inr (6, [.ref q1, .ref q2, .ref q3, .ref q4, .null, .null, .null, .int 0, .int 0, .int 0, .int 0, .int 0])), (q1, .inl (g.2.1 0, 12, .inl (fun _ => 0))), (q2, .inl (g.2.1 0, 12, .inl (fun _ => 0))), (q3, .inl (g.2.1 0, 40, .inl (fun _ => 0))), (q4, .inl (g.2.1 0, 40, .inl (fun _ => 0)))]) dX6_init_33 0 3 inX6 tyX6_ok nmX6 fl_X6_21 rfl rfl (by decide) rfl rfl rfl (rfl) rfl (xlt rfl) rfl ?_
  refine x_aload_n dX6_init_36 rfl ?_
  refine x_bipush 60 dX6_init_37 (by decide) ?_
  refine x_newa (a0 := (60, .inl (fun _ => 0))) dX6_init_39 0 ac_int rfl rfl (fun _ _ => rfl) (fun _ => rfl) (by decide) (by decide) (Nat.le_of_ble_eq_true rfl) (Nat.le_of_ble_eq_true rfl) (Nat.le_of_ble_eq_true rfl) (fun q5 => ?_)
  refine x_putF (ws' := [(a, .inr (6, [.ref q1, .ref q2, .ref q3, .ref q4, .ref q5, .null, .null, .int 0, .int 0, .int 0, .int 0, .int 0])), (q1, .inl (g.2.1 0, 12, .inl (fun _ => 0))), (q2, .inl (g.2.1 0, 12, .inl (fun _ => 0))), (q3, .inl (g.2.1 0, 40, .inl (fun _ => 0))), (q4, .inl (g.2.1 0, 40, .inl (fun _ => 0))), (q5, .inl (g.2.1 0, 60, .inl (fun _ => 0)))]) dX6_init_41 0 4 inX6 tyX6_ok nmX6 fl_X6_24 rfl rfl (by decide) rfl rfl rfl (rfl) rfl (xlt rfl) rfl ?_
  refine x_aload_n dX6_init_44 rfl ?_
  refine x_bipush 8 dX6_init_45 (by decide) ?_
  refine x_newa (a0 := (8, .inl (fun _ => 0))) dX6_init_47 0 ac_int rfl rfl (fun _ _ => rfl) (fun _ => rfl) (by decide) (by decide) (Nat.le_of_ble_eq_true rfl) (Nat.le_of_ble_eq_true rfl) (Nat.le_of_ble_eq_true rfl) (fun q6 => ?_)
  refine x_putF (ws' := [(a, .inr (6, [.ref q1, .ref q2, .ref q3, .ref q4, .ref q5, .ref q6, .null, .int 0, .int 0, .int 0, .int 0, .int 0])), (q1, .inl (g.2.1 0, 12, .inl (fun _ => 0))), (q2, .inl (g.2.1 0, 12, .inl (fun _ => 0))), (q3, .inl (g.2.1 0, 40, .inl (fun _ => 0))), (q4, .inl (g.2.1 0, 40, .inl (fun _ => 0))), (q5, .inl (g.2.1 0, 60, .inl (fun _ => 0))), (q6, .inl (g.2.1 0, 8, .inl (fun _ => 0)))]) dX6_init_49 0 5 inX6 tyX6_ok nmX6 fl_X6_27 rfl rfl (by decide) rfl rfl rfl (rfl) rfl (xlt rfl) rfl ?_
  refine x_aload_n dX6_init_52 rfl ?_
  refine x_sipush 320 dX6_init_53 (by decide) ?_
  refine x_newa (a0 := (320, .inl (fun _ => 0))) dX6_init_56 0 ac_int rfl rfl (fun _ _ => rfl) (fun _ => rfl) (by decide) (by decide) (Nat.le_of_ble_eq_true rfl) (Nat.le_of_ble_eq_true rfl) (Nat.le_of_ble_eq_true rfl) (fun q7 => ?_)
  refine x_putF (ws' := [(a, .inr (6, [.ref q1, .ref q2, .ref q3, .ref q4, .ref q5, .ref q6, .ref q7, .int 0, .int 0, .int 0, .int 0, .int 0])), (q1, .inl (g.2.1 0, 12, .inl (fun _ => 0))), (q2, .inl (g.2.1 0, 12, .inl (fun _ => 0))), (q3, .inl (g.2.1 0, 40, .inl (fun _ => 0))), (q4, .inl (g.2.1 0, 40, .inl (fun _ => 0))), (q5, .inl (g.2.1 0, 60, .inl (fun _ => 0))), (q6, .inl (g.2.1 0, 8, .inl (fun _ => 0))), (q7, .inl (g.2.1 0, 320, .inl (fun _ => 0)))]) dX6_init_58 0 6 inX6 tyX6_ok nmX6 fl_X6_30 rfl rfl (by decide) rfl rfl rfl (rfl) rfl (xlt rfl) rfl ?_
  refine x_aload_n dX6_init_61 rfl ?_
  refine x_iconst 1 dX6_init_62 (by decide) ?_
  refine x_put (ws' := [(a, .inr (6, [.ref q1, .ref q2, .ref q3, .ref q4, .ref q5, .ref q6, .ref q7, .int 0, .int 0, .int 0, .int 0, .int 1])), (q1, .inl (g.2.1 0, 12, .inl (fun _ => 0))), (q2, .inl (g.2.1 0, 12, .inl (fun _ => 0))), (q3, .inl (g.2.1 0, 40, .inl (fun _ => 0))), (q4, .inl (g.2.1 0, 40, .inl (fun _ => 0))), (q5, .inl (g.2.1 0, 60, .inl (fun _ => 0))), (q6, .inl (g.2.1 0, 8, .inl (fun _ => 0))), (q7, .inl (g.2.1 0, 320, .inl (fun _ => 0)))]) dX6_init_63 0 11 inX6 tyX6_ok nmX6 fl_X6_33 rfl rfl (by decide) rfl (rfl) rfl (xlt rfl) rfl ?_
  refine x_getsN dX6_init_66 (n := "RULE_FIRST") (N := 8) (f := tRF) (fun h => h.1) (fun h => h.1) ?_
  refine x_iconst 0 dX6_init_69 (by decide) ?_
  refine x_aload_n dX6_init_70 rfl ?_
  refine x_get dX6_init_71 0 5 inX6 fl_X6_27 rfl rfl (by decide) rfl ?_
  refine x_iconst 0 dX6_init_74 (by decide) ?_
  refine x_bipush 8 dX6_init_75 (by decide) ?_
  refine x_copyT (ws' := [(a, .inr (6, [.ref q1, .ref q2, .ref q3, .ref q4, .ref q5, .ref q6, .ref q7, .int 0, .int 0, .int 0, .int 0, .int 1])), (q1, .inl (g.2.1 0, 12, .inl (fun _ => 0))), (q2, .inl (g.2.1 0, 12, .inl (fun _ => 0))), (q3, .inl (g.2.1 0, 40, .inl (fun _ => 0))), (q4, .inl (g.2.1 0, 40, .inl (fun _ => 0))), (q5, .inl (g.2.1 0, 60, .inl (fun _ => 0))), (q6, .inl (g.2.1 0, 8, .inl (va_cpy tRF (fun _ => 0) 0 0 8))), (q7, .inl (g.2.1 0, 320, .inl (fun _ => 0)))]) (nm := "RULE_FIRST") (N := 8) (f := tRF) dX6_init_77 ml_X6_40 (fun h => h.1) 6 rfl (by decide) (by decide) (Nat.le_of_ble_eq_true rfl) (by decide) rfl ?_
  refine x_funi (ws' := [(a, .inr (6, [.ref q1, .ref q2, .ref q3, .ref q4, .ref q5, .ref q6, .ref q7, .int 0, .int 0, .int 0, .int 0, .int 1])), (q1, .inl (g.2.1 0, 12, .inl (fun _ => 0))), (q2, .inl (g.2.1 0, 12, .inl (fun _ => 0))), (q3, .inl (g.2.1 0, 40, .inl (fun _ => 0))), (q4, .inl (g.2.1 0, 40, .inl (fun _ => 0))), (q5, .inl (g.2.1 0, 60, .inl (fun _ => 0))), (q6, .inl (g.2.1 0, 8, .inl (nIf rfN))), (q7, .inl (g.2.1 0, 320, .inl (fun _ => 0)))]) (q0 := 6) rfl (fun j hj => cpy_all _ _ hj) rfl ?_
  rw [← hQ]
  refine x_vret dX6_init_80 rfl (Nat.le_of_ble_eq_true rfl) (Nat.le_of_ble_eq_true rfl) ?_
  exact ⟨_, _, _, _, _, _, _, rfl, rfl⟩

-- == X0_init ==
theorem dX0_init_0 : xd cX0_init 0 (.aload_n 0) 1 1 := ⟨by decide +kernel, rfl⟩
theorem dX0_init_1 : xd cX0_init 1 (.invokespecial 3) 3 4 := ⟨by decide +kernel, rfl⟩
theorem dX0_init_4 : xd cX0_init 4 (.aload_n 0) 1 5 := ⟨by decide +kernel, rfl⟩
theorem dX0_init_5 : xd cX0_init 5 (.sipush 495) 3 8 := ⟨by decide +kernel, rfl⟩
theorem dX0_init_8 : xd cX0_init 8 (.newarray .int) 2 10 := ⟨by decide +kernel, rfl⟩
theorem dX0_init_10 : xd cX0_init 10 (.putfield 9) 3 13 := ⟨by decide +kernel, rfl⟩
theorem dX0_init_13 : xd cX0_init 13 (.aload_n 0) 1 14 := ⟨by decide +kernel, rfl⟩
theorem dX0_init_14 : xd cX0_init 14 (.sipush 495) 3 17 := ⟨by decide +kernel, rfl⟩
theorem dX0_init_17 : xd cX0_init 17 (.newarray .int) 2 19 := ⟨by decide +kernel, rfl⟩
theorem dX0_init_19 : xd cX0_init 19 (.putfield 15) 3 22 := ⟨by decide +kernel, rfl⟩
theorem dX0_init_22 : xd cX0_init 22 (.aload_n 0) 1 23 := ⟨by decide +kernel, rfl⟩
theorem dX0_init_23 : xd cX0_init 23 (.sipush 495) 3 26 := ⟨by decide +kernel, rfl⟩
theorem dX0_init_26 : xd cX0_init 26 (.newarray .int) 2 28 := ⟨by decide +kernel, rfl⟩
theorem dX0_init_28 : xd cX0_init 28 (.putfield 18) 3 31 := ⟨by decide +kernel, rfl⟩
theorem dX0_init_31 : xd cX0_init 31 (.aload_n 0) 1 32 := ⟨by decide +kernel, rfl⟩
theorem dX0_init_32 : xd cX0_init 32 (.sipush 495) 3 35 := ⟨by decide +kernel, rfl⟩
theorem dX0_init_35 : xd cX0_init 35 (.newarray .int) 2 37 := ⟨by decide +kernel, rfl⟩
theorem dX0_init_37 : xd cX0_init 37 (.putfield 21) 3 40 := ⟨by decide +kernel, rfl⟩
theorem dX0_init_40 : xd cX0_init 40 (.aload_n 0) 1 41 := ⟨by decide +kernel, rfl⟩
theorem dX0_init_41 : xd cX0_init 41 (.sipush 495) 3 44 := ⟨by decide +kernel, rfl⟩
theorem dX0_init_44 : xd cX0_init 44 (.newarray .int) 2 46 := ⟨by decide +kernel, rfl⟩
theorem dX0_init_46 : xd cX0_init 46 (.putfield 24) 3 49 := ⟨by decide +kernel, rfl⟩
theorem dX0_init_49 : xd cX0_init 49 (.aload_n 0) 1 50 := ⟨by decide +kernel, rfl⟩
theorem dX0_init_50 : xd cX0_init 50 (.iconst 5) 1 51 := ⟨by decide +kernel, rfl⟩
theorem dX0_init_51 : xd cX0_init 51 (.newarray .int) 2 53 := ⟨by decide +kernel, rfl⟩
theorem dX0_init_53 : xd cX0_init 53 (.putfield 27) 3 56 := ⟨by decide +kernel, rfl⟩
theorem dX0_init_56 : xd cX0_init 56 (.aload_n 0) 1 57 := ⟨by decide +kernel, rfl⟩
theorem dX0_init_57 : xd cX0_init 57 (.aload_n 1) 1 58 := ⟨by decide +kernel, rfl⟩
theorem dX0_init_58 : xd cX0_init 58 (.putfield 30) 3 61 := ⟨by decide +kernel, rfl⟩
theorem dX0_init_61 : xd cX0_init 61 (.aload_n 0) 1 62 := ⟨by decide +kernel, rfl⟩
theorem dX0_init_62 : xd cX0_init 62 (.aload_n 2) 1 63 := ⟨by decide +kernel, rfl⟩
theorem dX0_init_63 : xd cX0_init 63 (.putfield 34) 3 66 := ⟨by decide +kernel, rfl⟩
theorem dX0_init_66 : xd cX0_init 66 (.aload_n 0) 1 67 := ⟨by decide +kernel, rfl⟩
theorem dX0_init_67 : xd cX0_init 67 (.aload_n 3) 1 68 := ⟨by decide +kernel, rfl⟩
theorem dX0_init_68 : xd cX0_init 68 (.putfield 38) 3 71 := ⟨by decide +kernel, rfl⟩
theorem dX0_init_71 : xd cX0_init 71 (.aload_n 0) 1 72 := ⟨by decide +kernel, rfl⟩
theorem dX0_init_72 : xd cX0_init 72 (.new 42) 3 75 := ⟨by decide +kernel, rfl⟩
theorem dX0_init_75 : xd cX0_init 75 .dup 1 76 := ⟨by decide +kernel, rfl⟩
theorem dX0_init_76 : xd cX0_init 76 (.aload_n 1) 1 77 := ⟨by decide +kernel, rfl⟩
theorem dX0_init_77 : xd cX0_init 77 (.invokespecial 44) 3 80 := ⟨by decide +kernel, rfl⟩
theorem dX0_init_80 : xd cX0_init 80 (.putfield 47) 3 83 := ⟨by decide +kernel, rfl⟩
theorem dX0_init_83 : xd cX0_init 83 .return_ 1 84 := ⟨by decide +kernel, rfl⟩

set_option maxRecDepth 100000 in
set_option maxHeartbeats 4000000 in
theorem ct_X0_init (l : Launch) (g : XG) (a aS aL aO : Nat) : Ct l g 4 8 2542 yX0_init cX0_init 4 none [.ref a, .ref aS, .ref aL, .ref aO] [(a, .inr (0, [.null, .null, .null, .null, .null, .null, .null, .null, .null, .null, .int 0, .int 0, .int 0, .int 0]))] (fun vv_ ww_ => ∃ (q1_ : Nat) (q2_ : Nat) (q3_ : Nat) (q4_ : Nat) (q5_ : Nat) (q6_ : Nat) (q7_ : Nat) (q8_ : Nat), vv_ = none ∧ ww_ = [(a, .inr (0, [.ref aS, .ref aL, .ref q7_, .ref aO, .ref q1_, .ref q2_, .ref q3_, .ref q4_, .ref q5_, .ref q6_, .int 0, .int 0, .int 0, .int 0])), (q1_, .inl (g.2.1 0, 495, .inl (fun _ => 0))), (q2_, .inl (g.2.1 0, 495, .inl (fun _ => 0))), (q3_, .inl (g.2.1 0, 495, .inl (fun _ => 0))), (q4_, .inl (g.2.1 0, 495, .inl (fun _ => 0))), (q5_, .inl (g.2.1 0, 495, .inl (fun _ => 0))), (q6_, .inl (g.2.1 0, 5, .inl (fun _ => 0))), (q7_, .inr (2, [.ref aS, .ref q8_])), (q8_, .inl (g.2.1 0, 60, .inl (fun _ => 0)))]) := by
  refine Ct.ofX (lv := [some (.ref a), some (.ref aS), some (.ref aL), some (.ref aO)]) (by decide) rfl (Nat.le_of_ble_eq_true rfl) (fun κ => ?_)
  generalize hQ : xQ κ g 8 2542 _ = Q
  refine x_aload_n dX0_init_0 rfl ?_
  refine x_objInit dX0_init_1 ml_X0_3 (Nat.le_of_ble_eq_true rfl) (by decide) ?_
  refine x_aload_n dX0_init_4 rfl ?_
  refine x_sipush 495 dX0_init_5 (by decide) ?_
  refine x_newa (a0 := (495, .inl (fun _ => 0))) dX0_init_8 0 ac_int rfl rfl (fun _ _ => rfl) (fun _ => rfl) (by decide) (by decide) (Nat.le_of_ble_eq_true rfl) (Nat.le_of_ble_eq_true rfl) (Nat.le_of_ble_eq_true rfl) (fun q1 => ?_)
  refine x_putF (ws' := [(a, .inr (0, [.null, .null, .null, .null, .ref q1, .null, .null, .null, .null, .null, .int 0, .int 0, .int 0, .int 0])), (q1, .inl (g.2.1 0, 495, .inl (fun _ => 0)))]) dX0_init_10 0 4 inX0 tyX0_ok nmX0 fl_X0_9 rfl rfl (by decide) rfl rfl rfl (rfl) rfl (xlt rfl) rfl ?_
  refine x_aload_n dX0_init_13 rfl ?_
  refine x_sipush 495 dX0_init_14 (by decide) ?_
  refine x_newa (a0 := (495, .inl (fun _ => 0))) dX0_init_17 0 ac_int rfl rfl (fun _ _ => rfl) (fun _ => rfl) (by decide) (by decide) (Nat.le_of_ble_eq_true rfl) (Nat.le_of_ble_eq_true rfl) (Nat.le_of_ble_eq_true rfl) (fun q2 => ?_)
  refine x_putF (ws' := [(a, .inr (0, [.null, .null, .null, .null, .ref q1, .ref q2, .null, .null, .null, .null, .int 0, .int 0, .int 0, .int 0])), (q1, .inl (g.2.1 0, 495, .inl (fun _ => 0))), (q2, .inl (g.2.1 0, 495, .inl (fun _ => 0)))]) dX0_init_19 0 5 inX0 tyX0_ok nmX0 fl_X0_15 rfl rfl (by decide) rfl rfl rfl (rfl) rfl (xlt rfl) rfl ?_
  refine x_aload_n dX0_init_22 rfl ?_
  refine x_sipush 495 dX0_init_23 (by decide) ?_
  refine x_newa (a0 := (495, .inl (fun _ => 0))) dX0_init_26 0 ac_int rfl rfl (fun _ _ => rfl) (fun _ => rfl) (by decide) (by decide) (Nat.le_of_ble_eq_true rfl) (Nat.le_of_ble_eq_true rfl) (Nat.le_of_ble_eq_true rfl) (fun q3 => ?_)
  refine x_putF (ws' := [(a, .inr (0, [.null, .null, .null, .null, .ref q1, .ref q2, .ref q3, .null, .null, .null, .int 0, .int 0, .int 0, .int 0])), (q1, .inl (g.2.1 0, 495, .inl (fun _ => 0))), (q2, .inl (g.2.1 0, 495, .inl (fun _ => 0))), (q3, .inl (g.2.1 0, 495, .inl (fun _ => 0)))]) dX0_init_28 0 6 inX0 tyX0_ok nmX0 fl_X0_18 rfl rfl (by decide) rfl rfl rfl (rfl) rfl (xlt rfl) rfl ?_
  refine x_aload_n dX0_init_31 rfl ?_
  refine x_sipush 495 dX0_init_32 (by decide) ?_
  refine x_newa (a0 := (495, .inl (fun _ => 0))) dX0_init_35 0 ac_int rfl rfl (fun _ _ => rfl) (fun _ => rfl) (by decide) (by decide) (Nat.le_of_ble_eq_true rfl) (Nat.le_of_ble_eq_true rfl) (Nat.le_of_ble_eq_true rfl) (fun q4 => ?_)
  refine x_putF (ws' := [(a, .inr (0, [.null, .null, .null, .null, .ref q1, .ref q2, .ref q3, .ref q4, .null, .null, .int 0, .int 0, .int 0, .int 0])), (q1, .inl (g.2.1 0, 495, .inl (fun _ => 0))), (q2, .inl (g.2.1 0, 495, .inl (fun _ => 0))), (q3, .inl (g.2.1 0, 495, .inl (fun _ => 0))), (q4, .inl (g.2.1 0, 495, .inl (fun _ => 0)))]) dX0_init_37 0 7 inX0 tyX0_ok nmX0 fl_X0_21 rfl rfl (by decide) rfl rfl rfl (rfl) rfl (xlt rfl) rfl ?_
  refine x_aload_n dX0_init_40 rfl ?_
  refine x_sipush 495 dX0_init_41 (by decide) ?_
  refine x_newa (a0 := (495, .inl (fun _ => 0))) dX0_init_44 0 ac_int rfl rfl (fun _ _ => rfl) (fun _ => rfl) (by decide) (by decide) (Nat.le_of_ble_eq_true rfl) (Nat.le_of_ble_eq_true rfl) (Nat.le_of_ble_eq_true rfl) (fun q5 => ?_)
  refine x_putF (ws' := [(a, .inr (0, [.null, .null, .null, .null, .ref q1, .ref q2, .ref q3, .ref q4, .ref q5, .null, .int 0, .int 0, .int 0, .int 0])), (q1, .inl (g.2.1 0, 495, .inl (fun _ => 0))), (q2, .inl (g.2.1 0, 495, .inl (fun _ => 0))), (q3, .inl (g.2.1 0, 495, .inl (fun _ => 0))), (q4, .inl (g.2.1 0, 495, .inl (fun _ => 0))), (q5, .inl (g.2.1 0, 495, .inl (fun _ => 0)))]) dX0_init_46 0 8 inX0 tyX0_ok nmX0 fl_X0_24 rfl rfl (by decide) rfl rfl rfl (rfl) rfl (xlt rfl) rfl ?_
  refine x_aload_n dX0_init_49 rfl ?_
  refine x_iconst 5 dX0_init_50 (by decide) ?_
  refine x_newa (a0 := (5, .inl (fun _ => 0))) dX0_init_51 0 ac_int rfl rfl (fun _ _ => rfl) (fun _ => rfl) (by decide) (by decide) (Nat.le_of_ble_eq_true rfl) (Nat.le_of_ble_eq_true rfl) (Nat.le_of_ble_eq_true rfl) (fun q6 => ?_)
  refine x_putF (ws' := [(a, .inr (0, [.null, .null, .null, .null, .ref q1, .ref q2, .ref q3, .ref q4, .ref q5, .ref q6, .int 0, .int 0, .int 0, .int 0])), (q1, .inl (g.2.1 0, 495, .inl (fun _ => 0))), (q2, .inl (g.2.1 0, 495, .inl (fun _ => 0))), (q3, .inl (g.2.1 0, 495, .inl (fun _ => 0))), (q4, .inl (g.2.1 0, 495, .inl (fun _ => 0))), (q5, .inl (g.2.1 0, 495, .inl (fun _ => 0))), (q6, .inl (g.2.1 0, 5, .inl (fun _ => 0)))]) dX0_init_53 0 9 inX0 tyX0_ok nmX0 fl_X0_27 rfl rfl (by decide) rfl rfl rfl (rfl) rfl (xlt rfl) rfl ?_
  refine x_aload_n dX0_init_56 rfl ?_
  refine x_aload_n dX0_init_57 rfl ?_
  refine x_putF (ws' := [(a, .inr (0, [.ref aS, .null, .null, .null, .ref q1, .ref q2, .ref q3, .ref q4, .ref q5, .ref q6, .int 0, .int 0, .int 0, .int 0])), (q1, .inl (g.2.1 0, 495, .inl (fun _ => 0))), (q2, .inl (g.2.1 0, 495, .inl (fun _ => 0))), (q3, .inl (g.2.1 0, 495, .inl (fun _ => 0))), (q4, .inl (g.2.1 0, 495, .inl (fun _ => 0))), (q5, .inl (g.2.1 0, 495, .inl (fun _ => 0))), (q6, .inl (g.2.1 0, 5, .inl (fun _ => 0)))]) dX0_init_58 0 0 inX0 tyX0_ok nmX0 fl_X0_30 rfl rfl (by decide) rfl rfl rfl (rfl) rfl (xlt rfl) rfl ?_
  refine x_aload_n dX0_init_61 rfl ?_
  refine x_aload_n dX0_init_62 rfl ?_
  refine x_putF (ws' := [(a, .inr (0, [.ref aS, .ref aL, .null, .null, .ref q1, .ref q2, .ref q3, .ref q4, .ref q5, .ref q6, .int 0, .int 0, .int 0, .int 0])), (q1, .inl (g.2.1 0, 495, .inl (fun _ => 0))), (q2, .inl (g.2.1 0, 495, .inl (fun _ => 0))), (q3, .inl (g.2.1 0, 495, .inl (fun _ => 0))), (q4, .inl (g.2.1 0, 495, .inl (fun _ => 0))), (q5, .inl (g.2.1 0, 495, .inl (fun _ => 0))), (q6, .inl (g.2.1 0, 5, .inl (fun _ => 0)))]) dX0_init_63 0 1 inX0 tyX0_ok nmX0 fl_X0_34 rfl rfl (by decide) rfl rfl rfl (rfl) rfl (xlt rfl) rfl ?_
  refine x_aload_n dX0_init_66 rfl ?_
  refine x_aload_n dX0_init_67 rfl ?_
  refine x_putF (ws' := [(a, .inr (0, [.ref aS, .ref aL, .null, .ref aO, .ref q1, .ref q2, .ref q3, .ref q4, .ref q5, .ref q6, .int 0, .int 0, .int 0, .int 0])), (q1, .inl (g.2.1 0, 495, .inl (fun _ => 0))), (q2, .inl (g.2.1 0, 495, .inl (fun _ => 0))), (q3, .inl (g.2.1 0, 495, .inl (fun _ => 0))), (q4, .inl (g.2.1 0, 495, .inl (fun _ => 0))), (q5, .inl (g.2.1 0, 495, .inl (fun _ => 0))), (q6, .inl (g.2.1 0, 5, .inl (fun _ => 0)))]) dX0_init_68 0 3 inX0 tyX0_ok nmX0 fl_X0_38 rfl rfl (by decide) rfl rfl rfl (rfl) rfl (xlt rfl) rfl ?_
  refine x_aload_n dX0_init_71 rfl ?_
  refine x_new (ci := 2) (fs := [.null, .null]) dX0_init_72 inX2 tyX2_ok cl_X0_42 inst_X2 ini_X2 rfl (fun j hj => match j, hj with | 0, _ => rfl | 1, _ => rfl | j + 2, hj => absurd hj (by omega)) (Nat.le_of_ble_eq_true rfl) (Nat.le_of_ble_eq_true rfl) (fun q7 => ?_)
  refine x_dup dX0_init_75 rfl ?_
  refine x_aload_n dX0_init_76 rfl ?_
  refine x_callI (wr := [(a, .inr (0, [.ref aS, .ref aL, .null, .ref aO, .ref q1, .ref q2, .ref q3, .ref q4, .ref q5, .ref q6, .int 0, .int 0, .int 0, .int 0])), (q1, .inl (g.2.1 0, 495, .inl (fun _ => 0))), (q2, .inl (g.2.1 0, 495, .inl (fun _ => 0))), (q3, .inl (g.2.1 0, 495, .inl (fun _ => 0))), (q4, .inl (g.2.1 0, 495, .inl (fun _ => 0))), (q5, .inl (g.2.1 0, 495, .inl (fun _ => 0))), (q6, .inl (g.2.1 0, 5, .inl (fun _ => 0)))]) dX0_init_77 ml_X0_44 mX2_init (ct_X2_init κ.2.1 g q7 aS) [7] [0, 1, 2, 3, 4, 5, 6] rfl rfl rfl rfl (by decide) rfl (Nat.le_of_ble_eq_true rfl) (by decide) (Nat.le_of_ble_eq_true rfl) (Nat.le_of_ble_eq_true rfl) (fun vv ww hp => ?_)
  obtain ⟨q8, rfl, rfl⟩ := hp
  refine x_eq (lv' := [some (.ref a), some (.ref aS), some (.ref aL), some (.ref aO)]) (st' := [.ref q7, .ref a]) (ws' := [(a, .inr (0, [.ref aS, .ref aL, .null, .ref aO, .ref q1, .ref q2, .ref q3, .ref q4, .ref q5, .ref q6, .int 0, .int 0, .int 0, .int 0])), (q1, .inl (g.2.1 0, 495, .inl (fun _ => 0))), (q2, .inl (g.2.1 0, 495, .inl (fun _ => 0))), (q3, .inl (g.2.1 0, 495, .inl (fun _ => 0))), (q4, .inl (g.2.1 0, 495, .inl (fun _ => 0))), (q5, .inl (g.2.1 0, 495, .inl (fun _ => 0))), (q6, .inl (g.2.1 0, 5, .inl (fun _ => 0))), (q7, .inr (2, [.ref aS, .ref q8])), (q8, .inl (g.2.1 0, 60, .inl (fun _ => 0)))]) ?_ rfl rfl rfl
  refine x_putF (ws' := [(a, .inr (0, [.ref aS, .ref aL, .ref q7, .ref aO, .ref q1, .ref q2, .ref q3, .ref q4, .ref q5, .ref q6, .int 0, .int 0, .int 0, .int 0])), (q1, .inl (g.2.1 0, 495, .inl (fun _ => 0))), (q2, .inl (g.2.1 0, 495, .inl (fun _ => 0))), (q3, .inl (g.2.1 0, 495, .inl (fun _ => 0))), (q4, .inl (g.2.1 0, 495, .inl (fun _ => 0))), (q5, .inl (g.2.1 0, 495, .inl (fun _ => 0))), (q6, .inl (g.2.1 0, 5, .inl (fun _ => 0))), (q7, .inr (2, [.ref aS, .ref q8])), (q8, .inl (g.2.1 0, 60, .inl (fun _ => 0)))]) dX0_init_80 0 2 inX0 tyX0_ok nmX0 fl_X0_47 rfl rfl (by decide) rfl rfl rfl (rfl) rfl (xlt rfl) rfl ?_
  rw [← hQ]
  refine x_vret dX0_init_83 rfl (Nat.le_of_ble_eq_true rfl) (Nat.le_of_ble_eq_true rfl) ?_
  exact ⟨_, _, _, _, _, _, _, _, rfl, rfl⟩

-- == X5_init ==
theorem dX5_init_0 : xd cX5_init 0 (.aload_n 0) 1 1 := ⟨by decide +kernel, rfl⟩
theorem dX5_init_1 : xd cX5_init 1 (.invokespecial 3) 3 4 := ⟨by decide +kernel, rfl⟩
theorem dX5_init_4 : xd cX5_init 4 (.aload_n 0) 1 5 := ⟨by decide +kernel, rfl⟩
theorem dX5_init_5 : xd cX5_init 5 (.sipush 495) 3 8 := ⟨by decide +kernel, rfl⟩
theorem dX5_init_8 : xd cX5_init 8 (.newarray .int) 2 10 := ⟨by decide +kernel, rfl⟩
theorem dX5_init_10 : xd cX5_init 10 (.putfield 9) 3 13 := ⟨by decide +kernel, rfl⟩
theorem dX5_init_13 : xd cX5_init 13 (.aload_n 0) 1 14 := ⟨by decide +kernel, rfl⟩
theorem dX5_init_14 : xd cX5_init 14 (.sipush 495) 3 17 := ⟨by decide +kernel, rfl⟩
theorem dX5_init_17 : xd cX5_init 17 (.newarray .int) 2 19 := ⟨by decide +kernel, rfl⟩
theorem dX5_init_19 : xd cX5_init 19 (.putfield 15) 3 22 := ⟨by decide +kernel, rfl⟩
theorem dX5_init_22 : xd cX5_init 22 (.iconst 0) 1 23 := ⟨by decide +kernel, rfl⟩
theorem dX5_init_23 : xd cX5_init 23 (.istore_n 1) 1 24 := ⟨by decide +kernel, rfl⟩
theorem dX5_init_24 : xd cX5_init 24 (.iconst 3) 1 25 := ⟨by decide +kernel, rfl⟩
theorem dX5_init_25 : xd cX5_init 25 (.istore_n 2) 1 26 := ⟨by decide +kernel, rfl⟩
theorem dX5_init_26 : xd cX5_init 26 (.iload_n 2) 1 27 := ⟨by decide +kernel, rfl⟩
theorem dX5_init_27 : xd cX5_init 27 (.bipush 12) 2 29 := ⟨by decide +kernel, rfl⟩
theorem dX5_init_29 : xj cX5_init 29 (.if_icmp .ge) 32 138 := ⟨109, by decide +kernel, rfl, by decide⟩
theorem dX5_init_32 : xd cX5_init 32 (.iconst 2) 1 33 := ⟨by decide +kernel, rfl⟩
theorem dX5_init_33 : xd cX5_init 33 (.istore_n 3) 1 34 := ⟨by decide +kernel, rfl⟩
theorem dX5_init_34 : xd cX5_init 34 (.iload_n 3) 1 35 := ⟨by decide +kernel, rfl⟩
theorem dX5_init_35 : xd cX5_init 35 (.iload_n 2) 1 36 := ⟨by decide +kernel, rfl⟩
theorem dX5_init_36 : xj cX5_init 36 (.if_icmp .ge) 39 132 := ⟨96, by decide +kernel, rfl, by decide⟩
theorem dX5_init_39 : xd cX5_init 39 (.iconst 1) 1 40 := ⟨by decide +kernel, rfl⟩
theorem dX5_init_40 : xd cX5_init 40 (.istore 4) 2 42 := ⟨by decide +kernel, rfl⟩
theorem dX5_init_42 : xd cX5_init 42 (.iload 4) 2 44 := ⟨by decide +kernel, rfl⟩
theorem dX5_init_44 : xd cX5_init 44 (.iload_n 3) 1 45 := ⟨by decide +kernel, rfl⟩
theorem dX5_init_45 : xj cX5_init 45 (.if_icmp .ge) 48 126 := ⟨81, by decide +kernel, rfl, by decide⟩
theorem dX5_init_48 : xd cX5_init 48 (.iconst 0) 1 49 := ⟨by decide +kernel, rfl⟩
theorem dX5_init_49 : xd cX5_init 49 (.istore 5) 2 51 := ⟨by decide +kernel, rfl⟩
theorem dX5_init_51 : xd cX5_init 51 (.iload 5) 2 53 := ⟨by decide +kernel, rfl⟩
theorem dX5_init_53 : xd cX5_init 53 (.iload 4) 2 55 := ⟨by decide +kernel, rfl⟩
theorem dX5_init_55 : xj cX5_init 55 (.if_icmp .ge) 58 120 := ⟨65, by decide +kernel, rfl, by decide⟩
theorem dX5_init_58 : xd cX5_init 58 (.iload_n 1) 1 59 := ⟨by decide +kernel, rfl⟩
theorem dX5_init_59 : xd cX5_init 59 (.sipush 495) 3 62 := ⟨by decide +kernel, rfl⟩
theorem dX5_init_62 : xj cX5_init 62 (.if_icmp .ge) 65 120 := ⟨58, by decide +kernel, rfl, by decide⟩
theorem dX5_init_65 : xd cX5_init 65 (.aload_n 0) 1 66 := ⟨by decide +kernel, rfl⟩
theorem dX5_init_66 : xd cX5_init 66 (.getfield 9) 3 69 := ⟨by decide +kernel, rfl⟩
theorem dX5_init_69 : xd cX5_init 69 (.iload_n 1) 1 70 := ⟨by decide +kernel, rfl⟩
theorem dX5_init_70 : xd cX5_init 70 (.iconst 1) 1 71 := ⟨by decide +kernel, rfl⟩
theorem dX5_init_71 : xd cX5_init 71 (.iload 5) 2 73 := ⟨by decide +kernel, rfl⟩
theorem dX5_init_73 : xd cX5_init 73 .ishl 1 74 := ⟨by decide +kernel, rfl⟩
theorem dX5_init_74 : xd cX5_init 74 (.iconst 1) 1 75 := ⟨by decide +kernel, rfl⟩
theorem dX5_init_75 : xd cX5_init 75 (.iload 4) 2 77 := ⟨by decide +kernel, rfl⟩
theorem dX5_init_77 : xd cX5_init 77 .ishl 1 78 := ⟨by decide +kernel, rfl⟩
theorem dX5_init_78 : xd cX5_init 78 .ior 1 79 := ⟨by decide +kernel, rfl⟩
theorem dX5_init_79 : xd cX5_init 79 (.iconst 1) 1 80 := ⟨by decide +kernel, rfl⟩
theorem dX5_init_80 : xd cX5_init 80 (.iload_n 3) 1 81 := ⟨by decide +kernel, rfl⟩
theorem dX5_init_81 : xd cX5_init 81 .ishl 1 82 := ⟨by decide +kernel, rfl⟩
theorem dX5_init_82 : xd cX5_init 82 .ior 1 83 := ⟨by decide +kernel, rfl⟩
theorem dX5_init_83 : xd cX5_init 83 (.iconst 1) 1 84 := ⟨by decide +kernel, rfl⟩
theorem dX5_init_84 : xd cX5_init 84 (.iload_n 2) 1 85 := ⟨by decide +kernel, rfl⟩
theorem dX5_init_85 : xd cX5_init 85 .ishl 1 86 := ⟨by decide +kernel, rfl⟩
theorem dX5_init_86 : xd cX5_init 86 .ior 1 87 := ⟨by decide +kernel, rfl⟩
theorem dX5_init_87 : xd cX5_init 87 .iastore 1 88 := ⟨by decide +kernel, rfl⟩
theorem dX5_init_88 : xd cX5_init 88 (.aload_n 0) 1 89 := ⟨by decide +kernel, rfl⟩
theorem dX5_init_89 : xd cX5_init 89 (.getfield 15) 3 92 := ⟨by decide +kernel, rfl⟩
theorem dX5_init_92 : xd cX5_init 92 (.iload_n 1) 1 93 := ⟨by decide +kernel, rfl⟩
theorem dX5_init_93 : xd cX5_init 93 (.iload 5) 2 95 := ⟨by decide +kernel, rfl⟩
theorem dX5_init_95 : xd cX5_init 95 (.iload 4) 2 97 := ⟨by decide +kernel, rfl⟩
theorem dX5_init_97 : xd cX5_init 97 (.iconst 4) 1 98 := ⟨by decide +kernel, rfl⟩
theorem dX5_init_98 : xd cX5_init 98 .ishl 1 99 := ⟨by decide +kernel, rfl⟩
theorem dX5_init_99 : xd cX5_init 99 .ior 1 100 := ⟨by decide +kernel, rfl⟩
theorem dX5_init_100 : xd cX5_init 100 (.iload_n 3) 1 101 := ⟨by decide +kernel, rfl⟩
theorem dX5_init_101 : xd cX5_init 101 (.bipush 8) 2 103 := ⟨by decide +kernel, rfl⟩
theorem dX5_init_103 : xd cX5_init 103 .ishl 1 104 := ⟨by decide +kernel, rfl⟩
theorem dX5_init_104 : xd cX5_init 104 .ior 1 105 := ⟨by decide +kernel, rfl⟩
theorem dX5_init_105 : xd cX5_init 105 (.iload_n 2) 1 106 := ⟨by decide +kernel, rfl⟩
theorem dX5_init_106 : xd cX5_init 106 (.bipush 12) 2 108 := ⟨by decide +kernel, rfl⟩
theorem dX5_init_108 : xd cX5_init 108 .ishl 1 109 := ⟨by decide +kernel, rfl⟩
theorem dX5_init_109 : xd cX5_init 109 .ior 1 110 := ⟨by decide +kernel, rfl⟩
theorem dX5_init_110 : xd cX5_init 110 .iastore 1 111 := ⟨by decide +kernel, rfl⟩
theorem dX5_init_111 : xd cX5_init 111 (.iinc 1 1) 3 114 := ⟨by decide +kernel, rfl⟩
theorem dX5_init_114 : xd cX5_init 114 (.iinc 5 1) 3 117 := ⟨by decide +kernel, rfl⟩
theorem dX5_init_117 : xj cX5_init 117 .goto 120 51 := ⟨(-66), by decide +kernel, rfl, by decide⟩
theorem dX5_init_120 : xd cX5_init 120 (.iinc 4 1) 3 123 := ⟨by decide +kernel, rfl⟩
theorem dX5_init_123 : xj cX5_init 123 .goto 126 42 := ⟨(-81), by decide +kernel, rfl, by decide⟩
theorem dX5_init_126 : xd cX5_init 126 (.iinc 3 1) 3 129 := ⟨by decide +kernel, rfl⟩
theorem dX5_init_129 : xj cX5_init 129 .goto 132 34 := ⟨(-95), by decide +kernel, rfl, by decide⟩
theorem dX5_init_132 : xd cX5_init 132 (.iinc 2 1) 3 135 := ⟨by decide +kernel, rfl⟩
theorem dX5_init_135 : xj cX5_init 135 .goto 138 26 := ⟨(-109), by decide +kernel, rfl, by decide⟩
theorem dX5_init_138 : xd cX5_init 138 .return_ 1 139 := ⟨by decide +kernel, rfl⟩

set_option maxRecDepth 100000 in
set_option maxHeartbeats 4000000 in
theorem ct_X5_init (l : Launch) (g : XG) (a : Nat) : Ct l g 2 2 990 yX5_init cX5_init 6 none [.ref a] [(a, .inr (5, [.null, .null]))] (fun vv_ ww_ => ∃ (q1_ : Nat) (q2_ : Nat), vv_ = none ∧ ww_ = [(a, .inr (5, [.ref q1_, .ref q2_])), (q1_, .inl (g.2.1 0, 495, .inl (nIf rowB))), (q2_, .inl (g.2.1 0, 495, .inl (nIf packB)))]) := by
  refine Ct.ofX (lv := [some (.ref a), none, none, none, none, none]) (by decide) rfl (Nat.le_of_ble_eq_true rfl) (fun κ => ?_)
  generalize hQ : xQ κ g 2 990 _ = Q
  refine x_aload_n dX5_init_0 rfl ?_
  refine x_objInit dX5_init_1 ml_X5_3 (Nat.le_of_ble_eq_true rfl) (by decide) ?_
  refine x_aload_n dX5_init_4 rfl ?_
  refine x_sipush 495 dX5_init_5 (by decide) ?_
  refine x_newa (a0 := (495, .inl (fun _ => 0))) dX5_init_8 0 ac_int rfl rfl (fun _ _ => rfl) (fun _ => rfl) (by decide) (by decide) (Nat.le_of_ble_eq_true rfl) (Nat.le_of_ble_eq_true rfl) (Nat.le_of_ble_eq_true rfl) (fun q1 => ?_)
  refine x_putF (ws' := [(a, .inr (5, [.ref q1, .null])), (q1, .inl (g.2.1 0, 495, .inl (fun _ => 0)))]) dX5_init_10 0 0 inX5 tyX5_ok nmX5 fl_X5_9 rfl rfl (by decide) rfl rfl rfl (rfl) rfl (xlt rfl) rfl ?_
  refine x_aload_n dX5_init_13 rfl ?_
  refine x_sipush 495 dX5_init_14 (by decide) ?_
  refine x_newa (a0 := (495, .inl (fun _ => 0))) dX5_init_17 0 ac_int rfl rfl (fun _ _ => rfl) (fun _ => rfl) (by decide) (by decide) (Nat.le_of_ble_eq_true rfl) (Nat.le_of_ble_eq_true rfl) (Nat.le_of_ble_eq_true rfl) (fun q2 => ?_)
  refine x_putF (ws' := [(a, .inr (5, [.ref q1, .ref q2])), (q1, .inl (g.2.1 0, 495, .inl (fun _ => 0))), (q2, .inl (g.2.1 0, 495, .inl (fun _ => 0)))]) dX5_init_19 0 1 inX5 tyX5_ok nmX5 fl_X5_15 rfl rfl (by decide) rfl rfl rfl (rfl) rfl (xlt rfl) rfl ?_
  refine x_funi (ws' := [(a, .inr (5, [.ref q1, .ref q2])), (q1, .inl (g.2.1 0, 495, .inl (nIf (fun _ => 0)))), (q2, .inl (g.2.1 0, 495, .inl (fun _ => 0)))]) (q0 := 1) rfl (fun j _ => rfl) rfl ?_
  refine x_funi (ws' := [(a, .inr (5, [.ref q1, .ref q2])), (q1, .inl (g.2.1 0, 495, .inl (nIf (fun _ => 0)))), (q2, .inl (g.2.1 0, 495, .inl (nIf (fun _ => 0))))]) (q0 := 2) rfl (fun j _ => rfl) rfl ?_
  refine x_iconst 0 dX5_init_22 (by decide) ?_
  refine x_istore_n (lv' := [some (.ref a), some (.int 0), none, none, none, none]) dX5_init_23 (xlt rfl) rfl ?_
  refine x_iconst 3 dX5_init_24 (by decide) ?_
  refine x_istore_n (lv' := [some (.ref a), some (.int 0), some (.int 3), none, none, none]) dX5_init_25 (xlt rfl) rfl ?_
  have L26_3 : ∀ (d : Nat), d ≤ 12 → ∀ (ax : Nat), ax = atN d 2 1 0 → ∀ (bf : Nat → Nat), bf = fillT (atN d 2 1 0) rowB (fun _ => 0) → ∀ (pf : Nat → Nat), pf = fillT (atN d 2 1 0) packB (fun _ => 0) → 3 ≤ d → Xs κ g 2 2 990 cX5_init yX5_init none Q 2 990 26 [some (.ref a), some (.int (nI ax)), some (.int (nI d)), none, none, none] [] [(a, .inr (5, [.ref q1, .ref q2])), (q1, .inl (g.2.1 0, 495, .inl (nIf bf))), (q2, .inl (g.2.1 0, 495, .inl (nIf pf)))] := by
    refine upTo 12 (fun d hi26 ih26 => ?_)
    intro ax eax
    subst eax
    intro bf ebf
    subst ebf
    intro pf epf
    subst epf
    intro hd3
    refine x_iload_n dX5_init_26 rfl ?_
    refine x_bipush 12 dX5_init_27 (by decide) ?_
    refine x_icmp_ge dX5_init_29 (fun c29 => ?_) (fun c29 => ?_)
    · have c29 : 12 ≤ (nI d) := c29
      have c29n := (nI_leI (a := 12) (b := d) (by omega) (by omega)).mp c29
      have hxc29 : d = 12 := by omega
      try rw [hxc29]
      try rw [hxc29] at hd3
      refine x_funi (ws' := [(a, .inr (5, [.ref q1, .ref q2])), (q1, .inl (g.2.1 0, 495, .inl (nIf rowB))), (q2, .inl (g.2.1 0, 495, .inl (nIf (fillT (atN 12 2 1 0) packB (fun _ => 0)))))]) (q0 := 1) rfl (fun j hj => congrArg nI (fillT_in _ _ (show j < atN 12 2 1 0 from hj))) rfl ?_
      refine x_funi (ws' := [(a, .inr (5, [.ref q1, .ref q2])), (q1, .inl (g.2.1 0, 495, .inl (nIf rowB))), (q2, .inl (g.2.1 0, 495, .inl (nIf packB)))]) (q0 := 2) rfl (fun j hj => congrArg nI (fillT_in _ _ (show j < atN 12 2 1 0 from hj))) rfl ?_
      rw [← hQ]
      refine x_vret dX5_init_138 rfl (Nat.le_of_ble_eq_true rfl) (Nat.le_of_ble_eq_true rfl) ?_
      exact ⟨_, _, rfl, rfl⟩
    · have c29 : ¬ (12 ≤ (nI d)) := c29
      have c29n := mt (nI_leI (a := 12) (b := d) (by omega) (by omega)).mpr c29
      refine x_iconst 2 dX5_init_32 (by decide) ?_
      refine x_istore_n (lv' := [some (.ref a), some (.int (nI ((atN d 2 1 0)))), some (.int (nI d)), some (.int 2), none, none]) dX5_init_33 (xlt rfl) rfl ?_
      have L34_4 : ∀ (c : Nat), c ≤ d → ∀ (ax : Nat), ax = atN d c 1 0 → ∀ (bf : Nat → Nat), bf = fillT (atN d c 1 0) rowB (fun _ => 0) → ∀ (pf : Nat → Nat), pf = fillT (atN d c 1 0) packB (fun _ => 0) → 2 ≤ c → Xs κ g 2 2 990 cX5_init yX5_init none Q 2 990 34 [some (.ref a), some (.int (nI ax)), some (.int (nI d)), some (.int (nI c)), none, none] [] [(a, .inr (5, [.ref q1, .ref q2])), (q1, .inl (g.2.1 0, 495, .inl (nIf bf))), (q2, .inl (g.2.1 0, 495, .inl (nIf pf)))] := by
        refine upTo d (fun c hi34 ih34 => ?_)
        intro ax eax
        subst eax
        intro bf ebf
        subst ebf
        intro pf epf
        subst epf
        intro hc2
        refine x_iload_n dX5_init_34 rfl ?_
        refine x_iload_n dX5_init_35 rfl ?_
        refine x_icmp_ge dX5_init_36 (fun c36 => ?_) (fun c36 => ?_)
        · have c36 : (nI d) ≤ (nI c) := c36
          have c36n := (nI_leI (a := d) (b := c) (by omega) (by omega)).mp c36
          have hxc36 : c = d := by omega
          try rw [hxc36]
          try rw [hxc36] at hc2
          refine x_iinc (lv' := [some (.ref a), some (.int (nI ((atN d d 1 0)))), some (.int (nI (d + 1))), some (.int (nI d)), none, none]) (nI (d + 1)) dX5_init_132 rfl (nI_addc d 1 rfl) rfl ?_
          refine x_goto dX5_init_135 ?_
          refine x_fgt (lv' := [some (.ref a), some (.int (nI ((atN d d 1 0)))), some (.int (nI (d + 1))), none, none, none]) ⟨Or.inr rfl, Or.inr rfl, Or.inr rfl, Or.inl rfl, Or.inl rfl, Or.inl rfl, trivial⟩ ?_
          exact ih26 (by omega) (atN d d 1 0) (by exact at_ds (by omega)) (fillT (atN d d 1 0) rowB (fun _ => 0)) (by rw [at_ds (by omega)]) (fillT (atN d d 1 0) packB (fun _ => 0)) (by rw [at_ds (by omega)]) (by omega)
        · have c36 : ¬ ((nI d) ≤ (nI c)) := c36
          have c36n := mt (nI_leI (a := d) (b := c) (by omega) (by omega)).mpr c36
          refine x_iconst 1 dX5_init_39 (by decide) ?_
          refine x_istore (lv' := [some (.ref a), some (.int (nI ((atN d c 1 0)))), some (.int (nI d)), some (.int (nI c)), some (.int 1), none]) dX5_init_40 (xlt rfl) rfl ?_
          have L42_5 : ∀ (b : Nat), b ≤ c → ∀ (ax : Nat), ax = atN d c b 0 → ∀ (bf : Nat → Nat), bf = fillT (atN d c b 0) rowB (fun _ => 0) → ∀ (pf : Nat → Nat), pf = fillT (atN d c b 0) packB (fun _ => 0) → 1 ≤ b → Xs κ g 2 2 990 cX5_init yX5_init none Q 2 990 42 [some (.ref a), some (.int (nI ax)), some (.int (nI d)), some (.int (nI c)), some (.int (nI b)), none] [] [(a, .inr (5, [.ref q1, .ref q2])), (q1, .inl (g.2.1 0, 495, .inl (nIf bf))), (q2, .inl (g.2.1 0, 495, .inl (nIf pf)))] := by
            refine upTo c (fun b hi42 ih42 => ?_)
            intro ax eax
            subst eax
            intro bf ebf
            subst ebf
            intro pf epf
            subst epf
            intro hb1
            refine x_iload dX5_init_42 rfl ?_
            refine x_iload_n dX5_init_44 rfl ?_
            refine x_icmp_ge dX5_init_45 (fun c45 => ?_) (fun c45 => ?_)
            · have c45 : (nI c) ≤ (nI b) := c45
              have c45n := (nI_leI (a := c) (b := b) (by omega) (by omega)).mp c45
              have hxc45 : b = c := by omega
              try rw [hxc45]
              try rw [hxc45] at hb1
              refine x_iinc (lv' := [some (.ref a), some (.int (nI ((atN d c c 0)))), some (.int (nI d)), some (.int (nI (c + 1))), some (.int (nI c)), none]) (nI (c + 1)) dX5_init_126 rfl (nI_addc c 1 rfl) rfl ?_
              refine x_goto dX5_init_129 ?_
              refine x_fgt (lv' := [some (.ref a), some (.int (nI ((atN d c c 0)))), some (.int (nI d)), some (.int (nI (c + 1))), none, none]) ⟨Or.inr rfl, Or.inr rfl, Or.inr rfl, Or.inr rfl, Or.inl rfl, Or.inl rfl, trivial⟩ ?_
              exact ih34 (by omega) (atN d c c 0) (by exact at_cs (by omega)) (fillT (atN d c c 0) rowB (fun _ => 0)) (by rw [at_cs (by omega)]) (fillT (atN d c c 0) packB (fun _ => 0)) (by rw [at_cs (by omega)]) (by omega)
            · have c45 : ¬ ((nI c) ≤ (nI b)) := c45
              have c45n := mt (nI_leI (a := c) (b := b) (by omega) (by omega)).mpr c45
              refine x_iconst 0 dX5_init_48 (by decide) ?_
              refine x_istore (lv' := [some (.ref a), some (.int (nI ((atN d c b 0)))), some (.int (nI d)), some (.int (nI c)), some (.int (nI b)), some (.int 0)]) dX5_init_49 (xlt rfl) rfl ?_
              have L51_6 : ∀ (aa : Nat), aa ≤ b → ∀ (ax : Nat), ax = atN d c b aa → ∀ (bf : Nat → Nat), bf = fillT (atN d c b aa) rowB (fun _ => 0) → ∀ (pf : Nat → Nat), pf = fillT (atN d c b aa) packB (fun _ => 0) → Xs κ g 2 2 990 cX5_init yX5_init none Q 2 990 51 [some (.ref a), some (.int (nI ax)), some (.int (nI d)), some (.int (nI c)), some (.int (nI b)), some (.int (nI aa))] [] [(a, .inr (5, [.ref q1, .ref q2])), (q1, .inl (g.2.1 0, 495, .inl (nIf bf))), (q2, .inl (g.2.1 0, 495, .inl (nIf pf)))] := by
                refine upTo b (fun aa hi51 ih51 => ?_)
                intro ax eax
                subst eax
                intro bf ebf
                subst ebf
                intro pf epf
                subst epf
                refine x_iload dX5_init_51 rfl ?_
                refine x_iload dX5_init_53 rfl ?_
                refine x_icmp_ge dX5_init_55 (fun c55 => ?_) (fun c55 => ?_)
                · have c55 : (nI b) ≤ (nI aa) := c55
                  have c55n := (nI_leI (a := b) (b := aa) (by omega) (by omega)).mp c55
                  have hxc55 : aa = b := by omega
                  try rw [hxc55]
                  refine x_iinc (lv' := [some (.ref a), some (.int (nI ((atN d c b b)))), some (.int (nI d)), some (.int (nI c)), some (.int (nI (b + 1))), some (.int (nI b))]) (nI (b + 1)) dX5_init_120 rfl (nI_addc b 1 rfl) rfl ?_
                  refine x_goto dX5_init_123 ?_
                  refine x_fgt (lv' := [some (.ref a), some (.int (nI ((atN d c b b)))), some (.int (nI d)), some (.int (nI c)), some (.int (nI (b + 1))), none]) ⟨Or.inr rfl, Or.inr rfl, Or.inr rfl, Or.inr rfl, Or.inr rfl, Or.inl rfl, trivial⟩ ?_
                  exact ih42 (by omega) (atN d c b b) (by exact at_bs (by omega)) (fillT (atN d c b b) rowB (fun _ => 0)) (by rw [at_bs (by omega)]) (fillT (atN d c b b) packB (fun _ => 0)) (by rw [at_bs (by omega)]) (by omega)
                · have c55 : ¬ ((nI b) ≤ (nI aa)) := c55
                  have c55n := mt (nI_leI (a := b) (b := aa) (by omega) (by omega)).mpr c55
                  have hat := at_at (d := d) (c := c) (b := b) (a := aa) (by omega) (by omega) (by omega) (by omega)
                  refine x_iload_n dX5_init_58 rfl ?_
                  refine x_sipush 495 dX5_init_59 (by decide) ?_
                  refine x_icmp_ge dX5_init_62 (fun c62 => ?_) (fun c62 => ?_)
                  · have c62 : 495 ≤ (nI ((atN d c b aa))) := c62
                    have c62n := (nI_leI (a := 495) (b := (atN d c b aa)) (by omega) (by omega)).mp c62
                    exact absurd c62n (by omega)
                  · have c62 : ¬ (495 ≤ (nI ((atN d c b aa)))) := c62
                    have c62n := mt (nI_leI (a := 495) (b := (atN d c b aa)) (by omega) (by omega)).mpr c62
                    refine x_aload_n dX5_init_65 rfl ?_
                    refine x_get dX5_init_66 0 0 inX5 fl_X5_9 rfl rfl (by decide) rfl ?_
                    refine x_iload_n dX5_init_69 rfl ?_
                    refine x_iconst 1 dX5_init_70 (by decide) ?_
                    refine x_iload dX5_init_71 rfl ?_
                    refine x_ishl dX5_init_73 ?_
                    refine x_iconst 1 dX5_init_74 (by decide) ?_
                    refine x_iload dX5_init_75 rfl ?_
                    refine x_ishl dX5_init_77 ?_
                    refine x_ior dX5_init_78 ?_
                    refine x_iconst 1 dX5_init_79 (by decide) ?_
                    refine x_iload_n dX5_init_80 rfl ?_
                    refine x_ishl dX5_init_81 ?_
                    refine x_ior dX5_init_82 ?_
                    refine x_iconst 1 dX5_init_83 (by decide) ?_
                    refine x_iload_n dX5_init_84 rfl ?_
                    refine x_ishl dX5_init_85 ?_
                    refine x_ior dX5_init_86 ?_
                    refine x_rei (nI (rowB (atN d c b aa))) (hat.2.1) ?_
                    refine x_rei (nI (rowB (atN d c b aa))) rfl ?_
                    refine x_iast (ws' := [(a, .inr (5, [.ref q1, .ref q2])), (q1, .inl (g.2.1 0, 495, .inl (nIf (updN (fillT (atN d c b aa) rowB (fun _ => 0)) (atN d c b aa) (rowB (atN d c b aa)))))), (q2, .inl (g.2.1 0, 495, .inl (nIf (fillT (atN d c b aa) packB (fun _ => 0)))))]) dX5_init_87 1 (atN d c b aa) rfl (rfl) (by omega) (by decide) (by rw [upd_nIf]; rfl) ?_
                    refine x_aload_n dX5_init_88 rfl ?_
                    refine x_get dX5_init_89 0 1 inX5 fl_X5_15 rfl rfl (by decide) rfl ?_
                    refine x_iload_n dX5_init_92 rfl ?_
                    refine x_iload dX5_init_93 rfl ?_
                    refine x_iload dX5_init_95 rfl ?_
                    refine x_iconst 4 dX5_init_97 (by decide) ?_
                    refine x_ishl dX5_init_98 ?_
                    refine x_ior dX5_init_99 ?_
                    refine x_iload_n dX5_init_100 rfl ?_
                    refine x_bipush 8 dX5_init_101 (by decide) ?_
                    refine x_ishl dX5_init_103 ?_
                    refine x_ior dX5_init_104 ?_
                    refine x_iload_n dX5_init_105 rfl ?_
                    refine x_bipush 12 dX5_init_106 (by decide) ?_
                    refine x_ishl dX5_init_108 ?_
                    refine x_ior dX5_init_109 ?_
                    refine x_rei (nI (packB (atN d c b aa))) (hat.2.2) ?_
                    refine x_rei (nI (packB (atN d c b aa))) rfl ?_
                    refine x_iast (ws' := [(a, .inr (5, [.ref q1, .ref q2])), (q1, .inl (g.2.1 0, 495, .inl (nIf (updN (fillT (atN d c b aa) rowB (fun _ => 0)) (atN d c b aa) (rowB (atN d c b aa)))))), (q2, .inl (g.2.1 0, 495, .inl (nIf (updN (fillT (atN d c b aa) packB (fun _ => 0)) (atN d c b aa) (packB (atN d c b aa))))))]) dX5_init_110 2 (atN d c b aa) rfl (rfl) (by omega) (by decide) (by rw [upd_nIf]; rfl) ?_
                    refine x_iinc (lv' := [some (.ref a), some (.int (nI ((atN d c b aa) + 1))), some (.int (nI d)), some (.int (nI c)), some (.int (nI b)), some (.int (nI aa))]) (nI ((atN d c b aa) + 1)) dX5_init_111 rfl (nI_addc ((atN d c b aa)) 1 rfl) rfl ?_
                    refine x_iinc (lv' := [some (.ref a), some (.int (nI ((atN d c b aa) + 1))), some (.int (nI d)), some (.int (nI c)), some (.int (nI b)), some (.int (nI (aa + 1)))]) (nI (aa + 1)) dX5_init_114 rfl (nI_addc aa 1 rfl) rfl ?_
                    refine x_goto dX5_init_117 ?_
                    exact ih51 (by omega) ((atN d c b aa) + 1) (by rfl) (updN (fillT (atN d c b aa) rowB (fun _ => 0)) (atN d c b aa) (rowB (atN d c b aa))) (by exact fillT_updN (atN d c b aa) rowB (fun _ => 0)) (updN (fillT (atN d c b aa) packB (fun _ => 0)) (atN d c b aa) (packB (atN d c b aa))) (by exact fillT_updN (atN d c b aa) packB (fun _ => 0))
              exact L51_6 0 (Nat.zero_le _) (atN d c b 0) (by rfl) (fillT (atN d c b 0) rowB (fun _ => 0)) (by rfl) (fillT (atN d c b 0) packB (fun _ => 0)) (by rfl)
          exact L42_5 1 (by omega) (atN d c 1 0) (by rfl) (fillT (atN d c 1 0) rowB (fun _ => 0)) (by rfl) (fillT (atN d c 1 0) packB (fun _ => 0)) (by rfl) (by omega)
      exact L34_4 2 (by omega) (atN d 2 1 0) (by rfl) (fillT (atN d 2 1 0) rowB (fun _ => 0)) (by rfl) (fillT (atN d 2 1 0) packB (fun _ => 0)) (by rfl) (by omega)
  exact L26_3 3 (by omega) 0 (by decide) (fun _ => 0) (by rw [show atN 3 2 1 0 = 0 from rfl, fillT_0]) (fun _ => 0) (by rw [show atN 3 2 1 0 = 0 from rfl, fillT_0]) (by omega)

