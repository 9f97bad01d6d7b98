
-- == wk_h ==
set_option maxRecDepth 100000 in
set_option maxHeartbeats 4000000 in
theorem ct_wk_h (l : Launch) (g : XG) (aN aNs aNk aNf aNr aNp aNb aNa aNt aNbo aNsz aNnu aNl aNal aNlo aNw aNtr aNis aNbg aNow nts nta nop npr nac : Nat) (nkp nbd ntp nsn nwn : Int32) : Ct l g 27 0 0 yX9_works cX9_works 3 none [.ref aN] [(aN, .inr (9, [.ref aNs, .ref aNk, .int nkp, .ref aNf, .ref aNr, .ref aNp, .ref aNb, .ref aNa, .ref aNt, .int (nI nts), .ref aNbo, .ref aNsz, .ref aNnu, .int (nI nta), .int (nI nop), .int nbd, .int ntp, .int (nI npr), .int 0, .int nsn, .int nwn, .ref aNl, .ref aNal, .ref aNlo, .int (nI nac), .ref aNw, .ref aNtr, .ref aNis, .ref aNbg, .ref aNow]))] (xpv [(aN, .inr (9, [.ref aNs, .ref aNk, .int nkp, .ref aNf, .ref aNr, .ref aNp, .ref aNb, .ref aNa, .ref aNt, .int (nI nts), .ref aNbo, .ref aNsz, .ref aNnu, .int (nI nta), .int (nI nop), .int nbd, .int ntp, .int (nI npr), .int 0, .int nsn, .int nwn, .ref aNl, .ref aNal, .ref aNlo, .int (nI nac), .ref aNw, .ref aNtr, .ref aNis, .ref aNbg, .ref aNow]))]) := by
  refine Ct.ofX (lv := [some (.ref aN), none, none]) (by decide) rfl (Nat.le_of_ble_eq_true rfl) (fun κ => ?_)
  generalize hQ : xQ κ g 0 0 _ = Q
  refine x_aload_n dX9_works_0 rfl ?_
  refine x_get dX9_works_1 0 18 inX9 fl_X9_44 rfl rfl (by decide) rfl ?_
  refine x_if_ne dX9_works_4 (fun c4 => ?_) (fun c4 => ?_)
  · exact absurd c4 (by decide)
  rw [← hQ]
  refine x_vret dX9_works_7 rfl (Nat.le_of_ble_eq_true rfl) (Nat.le_of_ble_eq_true rfl) ?_
  exact ⟨rfl, rfl⟩

-- == cnt_1 ==
theorem dX9_counts_0 : xd cX9_counts 0 (.aload_n 0) 1 1 := ⟨by decide +kernel, rfl⟩
theorem dX9_counts_1 : xd cX9_counts 1 (.invokevirtual 198) 3 4 := ⟨by decide +kernel, rfl⟩
theorem dX9_counts_4 : xd cX9_counts 4 (.aload_n 0) 1 5 := ⟨by decide +kernel, rfl⟩
theorem dX9_counts_5 : xd cX9_counts 5 (.getfield 51) 3 8 := ⟨by decide +kernel, rfl⟩
theorem dX9_counts_8 : xj cX9_counts 8 (.ifCond .ne) 11 12 := ⟨4, by decide +kernel, rfl, by decide⟩
theorem dX9_counts_11 : xd cX9_counts 11 .return_ 1 12 := ⟨by decide +kernel, rfl⟩
theorem dX9_counts_12 : xd cX9_counts 12 (.aload_n 0) 1 13 := ⟨by decide +kernel, rfl⟩
theorem dX9_counts_13 : xd cX9_counts 13 (.iconst 0) 1 14 := ⟨by decide +kernel, rfl⟩
theorem dX9_counts_14 : xd cX9_counts 14 (.putfield 51) 3 17 := ⟨by decide +kernel, rfl⟩
theorem dX9_counts_17 : xd cX9_counts 17 (.iconst 0) 1 18 := ⟨by decide +kernel, rfl⟩
theorem dX9_counts_18 : xd cX9_counts 18 (.istore_n 1) 1 19 := ⟨by decide +kernel, rfl⟩
theorem dX9_counts_19 : xd cX9_counts 19 (.iload_n 1) 1 20 := ⟨by decide +kernel, rfl⟩
theorem dX9_counts_20 : xd cX9_counts 20 (.sipush 495) 3 23 := ⟨by decide +kernel, rfl⟩
theorem dX9_counts_23 : xj cX9_counts 23 (.if_icmp .ge) 26 116 := ⟨93, by decide +kernel, rfl, by decide⟩
theorem dX9_counts_26 : xd cX9_counts 26 (.iconst 0) 1 27 := ⟨by decide +kernel, rfl⟩
theorem dX9_counts_27 : xd cX9_counts 27 (.istore_n 2) 1 28 := ⟨by decide +kernel, rfl⟩
theorem dX9_counts_28 : xd cX9_counts 28 (.iload_n 2) 1 29 := ⟨by decide +kernel, rfl⟩
theorem dX9_counts_29 : xd cX9_counts 29 (.iconst 3) 1 30 := ⟨by decide +kernel, rfl⟩
theorem dX9_counts_30 : xj cX9_counts 30 (.if_icmp .ge) 33 50 := ⟨20, by decide +kernel, rfl, by decide⟩
theorem dX9_counts_33 : xd cX9_counts 33 (.aload_n 0) 1 34 := ⟨by decide +kernel, rfl⟩
theorem dX9_counts_34 : xd cX9_counts 34 (.getfield 63) 3 37 := ⟨by decide +kernel, rfl⟩
theorem dX9_counts_37 : xd cX9_counts 37 (.iconst 3) 1 38 := ⟨by decide +kernel, rfl⟩
theorem dX9_counts_38 : xd cX9_counts 38 (.iload_n 1) 1 39 := ⟨by decide +kernel, rfl⟩
theorem dX9_counts_39 : xd cX9_counts 39 .imul 1 40 := ⟨by decide +kernel, rfl⟩
theorem dX9_counts_40 : xd cX9_counts 40 (.iload_n 2) 1 41 := ⟨by decide +kernel, rfl⟩
theorem dX9_counts_41 : xd cX9_counts 41 .iadd 1 42 := ⟨by decide +kernel, rfl⟩
theorem dX9_counts_42 : xd cX9_counts 42 (.iconst 0) 1 43 := ⟨by decide +kernel, rfl⟩
theorem dX9_counts_43 : xd cX9_counts 43 .iastore 1 44 := ⟨by decide +kernel, rfl⟩
theorem dX9_counts_44 : xd cX9_counts 44 (.iinc 2 1) 3 47 := ⟨by decide +kernel, rfl⟩
theorem dX9_counts_47 : xj cX9_counts 47 .goto 50 28 := ⟨(-19), by decide +kernel, rfl, by decide⟩
theorem dX9_counts_50 : xd cX9_counts 50 (.iconst 0) 1 51 := ⟨by decide +kernel, rfl⟩
theorem dX9_counts_51 : xd cX9_counts 51 (.istore_n 2) 1 52 := ⟨by decide +kernel, rfl⟩
theorem dX9_counts_52 : xd cX9_counts 52 (.iload_n 2) 1 53 := ⟨by decide +kernel, rfl⟩
theorem dX9_counts_53 : xd cX9_counts 53 (.sipush 495) 3 56 := ⟨by decide +kernel, rfl⟩
theorem dX9_counts_56 : xj cX9_counts 56 (.if_icmp .ge) 59 110 := ⟨54, by decide +kernel, rfl, by decide⟩
theorem dX9_counts_59 : xd cX9_counts 59 (.aload_n 0) 1 60 := ⟨by decide +kernel, rfl⟩
theorem dX9_counts_60 : xd cX9_counts 60 (.getfield 25) 3 63 := ⟨by decide +kernel, rfl⟩
theorem dX9_counts_63 : xd cX9_counts 63 (.aload_n 0) 1 64 := ⟨by decide +kernel, rfl⟩
theorem dX9_counts_64 : xd cX9_counts 64 (.getfield 19) 3 67 := ⟨by decide +kernel, rfl⟩
theorem dX9_counts_67 : xd cX9_counts 67 (.iload_n 2) 1 68 := ⟨by decide +kernel, rfl⟩
theorem dX9_counts_68 : xd cX9_counts 68 .iaload 1 69 := ⟨by decide +kernel, rfl⟩
theorem dX9_counts_69 : xd cX9_counts 69 (.aload_n 0) 1 70 := ⟨by decide +kernel, rfl⟩
theorem dX9_counts_70 : xd cX9_counts 70 (.getfield 19) 3 73 := ⟨by decide +kernel, rfl⟩
theorem dX9_counts_73 : xd cX9_counts 73 (.iload_n 1) 1 74 := ⟨by decide +kernel, rfl⟩
theorem dX9_counts_74 : xd cX9_counts 74 .iaload 1 75 := ⟨by decide +kernel, rfl⟩
theorem dX9_counts_75 : xd cX9_counts 75 .iand 1 76 := ⟨by decide +kernel, rfl⟩
theorem dX9_counts_76 : xd cX9_counts 76 .iaload 1 77 := ⟨by decide +kernel, rfl⟩
theorem dX9_counts_77 : xd cX9_counts 77 (.istore_n 3) 1 78 := ⟨by decide +kernel, rfl⟩
theorem dX9_counts_78 : xd cX9_counts 78 (.iload_n 3) 1 79 := ⟨by decide +kernel, rfl⟩
theorem dX9_counts_79 : xd cX9_counts 79 (.iconst 1) 1 80 := ⟨by decide +kernel, rfl⟩
theorem dX9_counts_80 : xj cX9_counts 80 (.if_icmp .le) 83 104 := ⟨24, by decide +kernel, rfl, by decide⟩
theorem dX9_counts_83 : xd cX9_counts 83 (.aload_n 0) 1 84 := ⟨by decide +kernel, rfl⟩
theorem dX9_counts_84 : xd cX9_counts 84 (.getfield 63) 3 87 := ⟨by decide +kernel, rfl⟩
theorem dX9_counts_87 : xd cX9_counts 87 (.iconst 3) 1 88 := ⟨by decide +kernel, rfl⟩
theorem dX9_counts_88 : xd cX9_counts 88 (.iload_n 1) 1 89 := ⟨by decide +kernel, rfl⟩
theorem dX9_counts_89 : xd cX9_counts 89 .imul 1 90 := ⟨by decide +kernel, rfl⟩
theorem dX9_counts_90 : xd cX9_counts 90 (.iload_n 3) 1 91 := ⟨by decide +kernel, rfl⟩
theorem dX9_counts_91 : xd cX9_counts 91 .iadd 1 92 := ⟨by decide +kernel, rfl⟩
theorem dX9_counts_92 : xd cX9_counts 92 (.iconst 2) 1 93 := ⟨by decide +kernel, rfl⟩
theorem dX9_counts_93 : xd cX9_counts 93 .isub 1 94 := ⟨by decide +kernel, rfl⟩
theorem dX9_counts_94 : xd cX9_counts 94 .dup2 1 95 := ⟨by decide +kernel, rfl⟩
theorem dX9_counts_95 : xd cX9_counts 95 .iaload 1 96 := ⟨by decide +kernel, rfl⟩
theorem dX9_counts_96 : xd cX9_counts 96 (.aload_n 0) 1 97 := ⟨by decide +kernel, rfl⟩
theorem dX9_counts_97 : xd cX9_counts 97 (.getfield 57) 3 100 := ⟨by decide +kernel, rfl⟩
theorem dX9_counts_100 : xd cX9_counts 100 (.iload_n 2) 1 101 := ⟨by decide +kernel, rfl⟩
theorem dX9_counts_101 : xd cX9_counts 101 .iaload 1 102 := ⟨by decide +kernel, rfl⟩
theorem dX9_counts_102 : xd cX9_counts 102 .iadd 1 103 := ⟨by decide +kernel, rfl⟩
theorem dX9_counts_103 : xd cX9_counts 103 .iastore 1 104 := ⟨by decide +kernel, rfl⟩
theorem dX9_counts_104 : xd cX9_counts 104 (.iinc 2 1) 3 107 := ⟨by decide +kernel, rfl⟩
theorem dX9_counts_107 : xj cX9_counts 107 .goto 110 52 := ⟨(-55), by decide +kernel, rfl, by decide⟩
theorem dX9_counts_110 : xd cX9_counts 110 (.iinc 1 1) 3 113 := ⟨by decide +kernel, rfl⟩
theorem dX9_counts_113 : xj cX9_counts 113 .goto 116 19 := ⟨(-94), by decide +kernel, rfl, by decide⟩
theorem dX9_counts_116 : xd cX9_counts 116 .return_ 1 117 := ⟨by decide +kernel, rfl⟩

set_option maxRecDepth 100000 in
set_option maxHeartbeats 4000000 in
theorem ct_cnt_1 (l : Launch) (g : XG) (aN aNs aNk aNf aNr aNp aNb aNa aNt aNbo aNsz aNnu aNl aNal aNlo aNw aNtr aNis aNbg aNow nts nta nop npr nac : Nat) (nkp nbd ntp nsn : Int32) (cr nwi : Nat → Nat) : Ct l g 28 0 0 yX9_counts cX9_counts 4 none [.ref aN] [(aN, .inr (9, [.ref aNs, .ref aNk, .int nkp, .ref aNf, .ref aNr, .ref aNp, .ref aNb, .ref aNa, .ref aNt, .int (nI nts), .ref aNbo, .ref aNsz, .ref aNnu, .int (nI nta), .int (nI nop), .int nbd, .int ntp, .int (nI npr), .int 0, .int nsn, .int 1, .ref aNl, .ref aNal, .ref aNlo, .int (nI nac), .ref aNw, .ref aNtr, .ref aNis, .ref aNbg, .ref aNow])), (aNr, .inl (g.2.1 0, 495, .inl (nIf rowB))), (aNb, .inl (g.2.1 0, 4096, .inl (nIf popN))), (aNal, .inl (g.2.1 0, 495, .inl (nIf cr))), (aNw, .inl (g.2.1 0, 1485, .inl (nIf nwi)))] (xpv [(aN, .inr (9, [.ref aNs, .ref aNk, .int nkp, .ref aNf, .ref aNr, .ref aNp, .ref aNb, .ref aNa, .ref aNt, .int (nI nts), .ref aNbo, .ref aNsz, .ref aNnu, .int (nI nta), .int (nI nop), .int nbd, .int ntp, .int (nI npr), .int 0, .int nsn, .int 0, .ref aNl, .ref aNal, .ref aNlo, .int (nI nac), .ref aNw, .ref aNtr, .ref aNis, .ref aNbg, .ref aNow])), (aNr, .inl (g.2.1 0, 495, .inl (nIf rowB))), (aNb, .inl (g.2.1 0, 4096, .inl (nIf popN))), (aNal, .inl (g.2.1 0, 495, .inl (nIf cr))), (aNw, .inl (g.2.1 0, 1485, .inl (nIf (wiF cr))))]) := by
  refine Ct.ofX (lv := [some (.ref aN), none, none, none]) (by decide) rfl (Nat.le_of_ble_eq_true rfl) (fun κ => ?_)
  generalize hQ : xQ κ g 0 0 _ = Q
  refine x_aload_n dX9_counts_0 rfl ?_
  refine x_cVv0 dX9_counts_1 ml_X9_198 mX9_works (ct_wk_h κ.2.1 g aN aNs aNk aNf aNr aNp aNb aNa aNt aNbo aNsz aNnu aNl aNal aNlo aNw aNtr aNis aNbg aNow nts nta nop npr nac nkp nbd ntp nsn 1) [0] rfl rfl 0 rfl rfl rfl (Nat.le_of_ble_eq_true rfl) (by decide) (Nat.le_refl _) (Nat.le_refl _) ?_
  refine x_aload_n dX9_counts_4 rfl ?_
  refine x_get dX9_counts_5 0 20 inX9 fl_X9_51 rfl rfl (by decide) rfl ?_
  refine x_if_ne dX9_counts_8 (fun c8 => ?_) (fun c8 => ?_)
  rotate_left
  · exact absurd c8 (by decide)
  refine x_aload_n dX9_counts_12 rfl ?_
  refine x_iconst 0 dX9_counts_13 (by decide) ?_
  refine x_put (ws' := [(aN, .inr (9, [.ref aNs, .ref aNk, .int nkp, .ref aNf, .ref aNr, .ref aNp, .ref aNb, .ref aNa, .ref aNt, .int (nI nts), .ref aNbo, .ref aNsz, .ref aNnu, .int (nI nta), .int (nI nop), .int nbd, .int ntp, .int (nI npr), .int 0, .int nsn, .int 0, .ref aNl, .ref aNal, .ref aNlo, .int (nI nac), .ref aNw, .ref aNtr, .ref aNis, .ref aNbg, .ref aNow])), (aNr, .inl (g.2.1 0, 495, .inl (nIf rowB))), (aNb, .inl (g.2.1 0, 4096, .inl (nIf popN))), (aNal, .inl (g.2.1 0, 495, .inl (nIf cr))), (aNw, .inl (g.2.1 0, 1485, .inl (nIf nwi)))]) dX9_counts_14 0 20 inX9 tyX9_ok nmX9 fl_X9_51 rfl rfl (by decide) rfl (rfl) rfl (xlt rfl) rfl ?_
  refine x_iconst 0 dX9_counts_17 (by decide) ?_
  refine x_istore_n (lv' := [some (.ref aN), some (.int 0), none, none]) dX9_counts_18 (xlt rfl) rfl ?_
  have L19_1 : ∀ (d : Nat), d ≤ 495 → ∀ (wf : Nat → Nat), wf = fillT (3 * d) (wiF cr) nwi → Xs κ g 28 0 0 cX9_counts yX9_counts none Q 0 0 19 [some (.ref aN), some (.int (nI d)), none, none] [] [(aN, .inr (9, [.ref aNs, .ref aNk, .int nkp, .ref aNf, .ref aNr, .ref aNp, .ref aNb, .ref aNa, .ref aNt, .int (nI nts), .ref aNbo, .ref aNsz, .ref aNnu, .int (nI nta), .int (nI nop), .int nbd, .int ntp, .int (nI npr), .int 0, .int nsn, .int 0, .ref aNl, .ref aNal, .ref aNlo, .int (nI nac), .ref aNw, .ref aNtr, .ref aNis, .ref aNbg, .ref aNow])), (aNr, .inl (g.2.1 0, 495, .inl (nIf rowB))), (aNb, .inl (g.2.1 0, 4096, .inl (nIf popN))), (aNal, .inl (g.2.1 0, 495, .inl (nIf cr))), (aNw, .inl (g.2.1 0, 1485, .inl (nIf wf)))] := by
    refine upTo 495 (fun d hi19 ih19 => ?_)
    intro wf ewf
    subst ewf
    refine x_iload_n dX9_counts_19 rfl ?_
    refine x_sipush 495 dX9_counts_20 (by decide) ?_
    refine x_icmp_ge dX9_counts_23 (fun c23 => ?_) (fun c23 => ?_)
    · have c23 : 495 ≤ (nI d) := c23
      have c23n := (nI_leI (a := 495) (b := d) (by omega) (by omega)).mp c23
      have hxc23 : d = 495 := by omega
      try rw [hxc23]
      refine x_funi (ws' := [(aN, .inr (9, [.ref aNs, .ref aNk, .int nkp, .ref aNf, .ref aNr, .ref aNp, .ref aNb, .ref aNa, .ref aNt, .int (nI nts), .ref aNbo, .ref aNsz, .ref aNnu, .int (nI nta), .int (nI nop), .int nbd, .int ntp, .int (nI npr), .int 0, .int nsn, .int 0, .ref aNl, .ref aNal, .ref aNlo, .int (nI nac), .ref aNw, .ref aNtr, .ref aNis, .ref aNbg, .ref aNow])), (aNr, .inl (g.2.1 0, 495, .inl (nIf rowB))), (aNb, .inl (g.2.1 0, 4096, .inl (nIf popN))), (aNal, .inl (g.2.1 0, 495, .inl (nIf cr))), (aNw, .inl (g.2.1 0, 1485, .inl (nIf (wiF cr))))]) (q0 := 4) rfl (fun j hj => congrArg nI (fillT_in _ _ (by omega))) rfl ?_
      rw [← hQ]
      refine x_vret dX9_counts_116 rfl (Nat.le_of_ble_eq_true rfl) (Nat.le_of_ble_eq_true rfl) ?_
      exact ⟨rfl, rfl⟩
    · have c23 : ¬ (495 ≤ (nI d)) := c23
      have c23n := mt (nI_leI (a := 495) (b := d) (by omega) (by omega)).mpr c23
      refine x_iconst 0 dX9_counts_26 (by decide) ?_
      refine x_istore_n (lv' := [some (.ref aN), some (.int (nI d)), some (.int 0), none]) dX9_counts_27 (xlt rfl) rfl ?_
      refine x_iload_n dX9_counts_28 rfl ?_
      refine x_iconst 3 dX9_counts_29 (by decide) ?_
      refine x_icmp_ge dX9_counts_30 (fun c30 => ?_) (fun c30 => ?_)
      · exact absurd c30 (by decide)
      refine x_aload_n dX9_counts_33 rfl ?_
      refine x_get dX9_counts_34 0 25 inX9 fl_X9_63 rfl rfl (by decide) rfl ?_
      refine x_iconst 3 dX9_counts_37 (by decide) ?_
      refine x_iload_n dX9_counts_38 rfl ?_
      refine x_imul dX9_counts_39 ?_
      refine x_rei (nI (3 * d)) (nI_imul 3 d) ?_
      refine x_iload_n dX9_counts_40 rfl ?_
      refine x_iadd dX9_counts_41 ?_
      refine x_rei (nI ((3 * d) + 0)) (nI_addc (3 * d) 0 rfl) ?_
      refine x_iconst 0 dX9_counts_42 (by decide) ?_
      refine x_rei (nI 0) rfl ?_
      refine x_iast (ws' := [(aN, .inr (9, [.ref aNs, .ref aNk, .int nkp, .ref aNf, .ref aNr, .ref aNp, .ref aNb, .ref aNa, .ref aNt, .int (nI nts), .ref aNbo, .ref aNsz, .ref aNnu, .int (nI nta), .int (nI nop), .int nbd, .int ntp, .int (nI npr), .int 0, .int nsn, .int 0, .ref aNl, .ref aNal, .ref aNlo, .int (nI nac), .ref aNw, .ref aNtr, .ref aNis, .ref aNbg, .ref aNow])), (aNr, .inl (g.2.1 0, 495, .inl (nIf rowB))), (aNb, .inl (g.2.1 0, 4096, .inl (nIf popN))), (aNal, .inl (g.2.1 0, 495, .inl (nIf cr))), (aNw, .inl (g.2.1 0, 1485, .inl (nIf (updN (fillT (3 * d) (wiF cr) nwi) ((3 * d) + 0) 0))))]) dX9_counts_43 4 ((3 * d) + 0) rfl (rfl) (by omega) (by decide) (by rw [upd_nIf]; rfl) ?_
      refine x_iinc (lv' := [some (.ref aN), some (.int (nI d)), some (.int 1), none]) (1) dX9_counts_44 rfl (by decide) rfl ?_
      refine x_goto dX9_counts_47 ?_
      refine x_iload_n dX9_counts_28 rfl ?_
      refine x_iconst 3 dX9_counts_29 (by decide) ?_
      refine x_icmp_ge dX9_counts_30 (fun c30 => ?_) (fun c30 => ?_)
      · exact absurd c30 (by decide)
      refine x_aload_n dX9_counts_33 rfl ?_
      refine x_get dX9_counts_34 0 25 inX9 fl_X9_63 rfl rfl (by decide) rfl ?_
      refine x_iconst 3 dX9_counts_37 (by decide) ?_
      refine x_iload_n dX9_counts_38 rfl ?_
      refine x_imul dX9_counts_39 ?_
      refine x_rei (nI (3 * d)) (nI_imul 3 d) ?_
      refine x_iload_n dX9_counts_40 rfl ?_
      refine x_iadd dX9_counts_41 ?_
      refine x_rei (nI ((3 * d) + 1)) (nI_addc (3 * d) 1 rfl) ?_
      refine x_iconst 0 dX9_counts_42 (by decide) ?_
      refine x_rei (nI 0) rfl ?_
      refine x_iast (ws' := [(aN, .inr (9, [.ref aNs, .ref aNk, .int nkp, .ref aNf, .ref aNr, .ref aNp, .ref aNb, .ref aNa, .ref aNt, .int (nI nts), .ref aNbo, .ref aNsz, .ref aNnu, .int (nI nta), .int (nI nop), .int nbd, .int ntp, .int (nI npr), .int 0, .int nsn, .int 0, .ref aNl, .ref aNal, .ref aNlo, .int (nI nac), .ref aNw, .ref aNtr, .ref aNis, .ref aNbg, .ref aNow])), (aNr, .inl (g.2.1 0, 495, .inl (nIf rowB))), (aNb, .inl (g.2.1 0, 4096, .inl (nIf popN))), (aNal, .inl (g.2.1 0, 495, .inl (nIf cr))), (aNw, .inl (g.2.1 0, 1485, .inl (nIf (updN (updN (fillT (3 * d) (wiF cr) nwi) ((3 * d) + 0) 0) ((3 * d) + 1) 0))))]) dX9_counts_43 4 ((3 * d) + 1) rfl (rfl) (by omega) (by decide) (by rw [upd_nIf]; rfl) ?_
      refine x_iinc (lv' := [some (.ref aN), some (.int (nI d)), some (.int 2), none]) (2) dX9_counts_44 rfl (by decide) rfl ?_
      refine x_goto dX9_counts_47 ?_
      refine x_iload_n dX9_counts_28 rfl ?_
      refine x_iconst 3 dX9_counts_29 (by decide) ?_
      refine x_icmp_ge dX9_counts_30 (fun c30 => ?_) (fun c30 => ?_)
      · exact absurd c30 (by decide)
      refine x_aload_n dX9_counts_33 rfl ?_
      refine x_get dX9_counts_34 0 25 inX9 fl_X9_63 rfl rfl (by decide) rfl ?_
      refine x_iconst 3 dX9_counts_37 (by decide) ?_
      refine x_iload_n dX9_counts_38 rfl ?_
      refine x_imul dX9_counts_39 ?_
      refine x_rei (nI (3 * d)) (nI_imul 3 d) ?_
      refine x_iload_n dX9_counts_40 rfl ?_
      refine x_iadd dX9_counts_41 ?_
      refine x_rei (nI ((3 * d) + 2)) (nI_addc (3 * d) 2 rfl) ?_
      refine x_iconst 0 dX9_counts_42 (by decide) ?_
      refine x_rei (nI 0) rfl ?_
      refine x_iast (ws' := [(aN, .inr (9, [.ref aNs, .ref aNk, .int nkp, .ref aNf, .ref aNr, .ref aNp, .ref aNb, .ref aNa, .ref aNt, .int (nI nts), .ref aNbo, .ref aNsz, .ref aNnu, .int (nI nta), .int (nI nop), .int nbd, .int ntp, .int (nI npr), .int 0, .int nsn, .int 0, .ref aNl, .ref aNal, .ref aNlo, .int (nI nac), .ref aNw, .ref aNtr, .ref aNis, .ref aNbg, .ref aNow])), (aNr, .inl (g.2.1 0, 495, .inl (nIf rowB))), (aNb, .inl (g.2.1 0, 4096, .inl (nIf popN))), (aNal, .inl (g.2.1 0, 495, .inl (nIf cr))), (aNw, .inl (g.2.1 0, 1485, .inl (nIf (updN (updN (updN (fillT (3 * d) (wiF cr) nwi) ((3 * d) + 0) 0) ((3 * d) + 1) 0) ((3 * d) + 2) 0))))]) dX9_counts_43 4 ((3 * d) + 2) rfl (rfl) (by omega) (by decide) (by rw [upd_nIf]; rfl) ?_
      refine x_iinc (lv' := [some (.ref aN), some (.int (nI d)), some (.int 3), none]) (3) dX9_counts_44 rfl (by decide) rfl ?_
      refine x_goto dX9_counts_47 ?_
      refine x_iload_n dX9_counts_28 rfl ?_
      refine x_iconst 3 dX9_counts_29 (by decide) ?_
      refine x_icmp_ge dX9_counts_30 (fun c30 => ?_) (fun c30 => ?_)
      rotate_left
      · exact absurd c30 (by decide)
      refine x_iconst 0 dX9_counts_50 (by decide) ?_
      refine x_istore_n (lv' := [some (.ref aN), some (.int (nI d)), some (.int 0), none]) dX9_counts_51 (xlt rfl) rfl ?_
      have L52_2 : ∀ (i : Nat), i ≤ 495 → ∀ (wg : Nat → Nat), wg = wiT cr nwi d i → Xs κ g 28 0 0 cX9_counts yX9_counts none Q 0 0 52 [some (.ref aN), some (.int (nI d)), some (.int (nI i)), none] [] [(aN, .inr (9, [.ref aNs, .ref aNk, .int nkp, .ref aNf, .ref aNr, .ref aNp, .ref aNb, .ref aNa, .ref aNt, .int (nI nts), .ref aNbo, .ref aNsz, .ref aNnu, .int (nI nta), .int (nI nop), .int nbd, .int ntp, .int (nI npr), .int 0, .int nsn, .int 0, .ref aNl, .ref aNal, .ref aNlo, .int (nI nac), .ref aNw, .ref aNtr, .ref aNis, .ref aNbg, .ref aNow])), (aNr, .inl (g.2.1 0, 495, .inl (nIf rowB))), (aNb, .inl (g.2.1 0, 4096, .inl (nIf popN))), (aNal, .inl (g.2.1 0, 495, .inl (nIf cr))), (aNw, .inl (g.2.1 0, 1485, .inl (nIf wg)))] := by
        refine upTo 495 (fun i hi52 ih52 => ?_)
        intro wg ewg
        subst ewg
        refine x_iload_n dX9_counts_52 rfl ?_
        refine x_sipush 495 dX9_counts_53 (by decide) ?_
        refine x_icmp_ge dX9_counts_56 (fun c56 => ?_) (fun c56 => ?_)
        · have c56 : 495 ≤ (nI i) := c56
          have c56n := (nI_leI (a := 495) (b := i) (by omega) (by omega)).mp c56
          have hxc56 : i = 495 := by omega
          try rw [hxc56]
          refine x_iinc (lv' := [some (.ref aN), some (.int (nI (d + 1))), some (.int 495), none]) (nI (d + 1)) dX9_counts_110 rfl (nI_addc d 1 rfl) rfl ?_
          refine x_goto dX9_counts_113 ?_
          refine x_fgt (lv' := [some (.ref aN), some (.int (nI (d + 1))), none, none]) ⟨Or.inr rfl, Or.inr rfl, Or.inl rfl, Or.inl rfl, trivial⟩ ?_
          exact ih19 (by omega) (wiT cr nwi d 495) (by exact wiT_end cr nwi d)
        · have c56 : ¬ (495 ≤ (nI i)) := c56
          have c56n := mt (nI_leI (a := 495) (b := i) (by omega) (by omega)).mpr c56
          refine x_aload_n dX9_counts_59 rfl ?_
          refine x_get dX9_counts_60 0 6 inX9 fl_X9_25 rfl rfl (by decide) rfl ?_
          have hpl := and4 (p := i) (d := d) (by omega)
          refine x_aload_n dX9_counts_63 rfl ?_
          refine x_get dX9_counts_64 0 4 inX9 fl_X9_19 rfl rfl (by decide) rfl ?_
          refine x_iload_n dX9_counts_67 rfl ?_
          refine x_iald dX9_counts_68 1 i rfl (rfl) (by omega) (by decide) ?_
          refine x_aload_n dX9_counts_69 rfl ?_
          refine x_get dX9_counts_70 0 4 inX9 fl_X9_19 rfl rfl (by decide) rfl ?_
          refine x_iload_n dX9_counts_73 rfl ?_
          refine x_iald dX9_counts_74 1 d rfl (rfl) (by omega) (by decide) ?_
          refine x_iand dX9_counts_75 ?_
          refine x_rei (nI ((rowB i) &&& (rowB d))) (nI_iand (rowB i) (rowB d)) ?_
          refine x_iald dX9_counts_76 2 ((rowB i) &&& (rowB d)) rfl (rfl) (and_lt (rowB_lt _)) (by decide) ?_
          refine x_istore_n (lv' := [some (.ref aN), some (.int (nI d)), some (.int (nI i)), some (.int (nI (popN ((rowB i) &&& (rowB d)))))]) dX9_counts_77 (xlt rfl) rfl ?_
          refine x_iload_n dX9_counts_78 rfl ?_
          refine x_iconst 1 dX9_counts_79 (by decide) ?_
          refine x_icmp_le dX9_counts_80 (fun c80 => ?_) (fun c80 => ?_)
          · have c80 : (nI (popN ((rowB i) &&& (rowB d)))) ≤ 1 := c80
            have c80n := (nI_leI (a := (popN ((rowB i) &&& (rowB d)))) (b := 1) (by omega) (by omega)).mp c80
            refine x_iinc (lv' := [some (.ref aN), some (.int (nI d)), some (.int (nI (i + 1))), some (.int (nI (popN ((rowB i) &&& (rowB d)))))]) (nI (i + 1)) dX9_counts_104 rfl (nI_addc i 1 rfl) rfl ?_
            refine x_goto dX9_counts_107 ?_
            refine x_fgt (lv' := [some (.ref aN), some (.int (nI d)), some (.int (nI (i + 1))), none]) ⟨Or.inr rfl, Or.inr rfl, Or.inr rfl, Or.inl rfl, trivial⟩ ?_
            exact ih52 (by omega) (wiT cr nwi d i) (by first | exact wiT_skip cr nwi d i (by omega) | exact wiT_step cr nwi d i rfl (by omega) (and4 (by omega)))
          · have c80 : ¬ ((nI (popN ((rowB i) &&& (rowB d)))) ≤ 1) := c80
            have c80n := mt (nI_leI (a := (popN ((rowB i) &&& (rowB d)))) (b := 1) (by omega) (by omega)).mpr c80
            refine x_aload_n dX9_counts_83 rfl ?_
            refine x_get dX9_counts_84 0 25 inX9 fl_X9_63 rfl rfl (by decide) rfl ?_
            refine x_iconst 3 dX9_counts_87 (by decide) ?_
            refine x_iload_n dX9_counts_88 rfl ?_
            refine x_imul dX9_counts_89 ?_
            refine x_rei (nI (3 * d)) (nI_imul 3 d) ?_
            refine x_iload_n dX9_counts_90 rfl ?_
            refine x_iadd dX9_counts_91 ?_
            refine x_rei (nI ((3 * d) + (popN ((rowB i) &&& (rowB d))))) (nI_iadd (3 * d) (popN ((rowB i) &&& (rowB d)))) ?_
            refine x_iconst 2 dX9_counts_92 (by decide) ?_
            refine x_isub dX9_counts_93 ?_
            refine x_rei (nI (((3 * d) + (popN ((rowB i) &&& (rowB d)))) - 2)) (nI_isub ((3 * d) + (popN ((rowB i) &&& (rowB d)))) 2 (by omega)) ?_
            refine x_dup2 dX9_counts_94 rfl rfl ?_
            refine x_iald dX9_counts_95 4 (((3 * d) + (popN ((rowB i) &&& (rowB d)))) - 2) rfl (rfl) (by omega) (by decide) ?_
            refine x_aload_n dX9_counts_96 rfl ?_
            refine x_get dX9_counts_97 0 22 inX9 fl_X9_57 rfl rfl (by decide) rfl ?_
            refine x_iload_n dX9_counts_100 rfl ?_
            refine x_iald dX9_counts_101 3 i rfl (rfl) (by omega) (by decide) ?_
            refine x_iadd dX9_counts_102 ?_
            refine x_rei (nI (((wiT cr nwi d i) (((3 * d) + (popN ((rowB i) &&& (rowB d)))) - 2)) + (cr i))) (nI_iadd ((wiT cr nwi d i) (((3 * d) + (popN ((rowB i) &&& (rowB d)))) - 2)) (cr i)) ?_
            refine x_iast (ws' := [(aN, .inr (9, [.ref aNs, .ref aNk, .int nkp, .ref aNf, .ref aNr, .ref aNp, .ref aNb, .ref aNa, .ref aNt, .int (nI nts), .ref aNbo, .ref aNsz, .ref aNnu, .int (nI nta), .int (nI nop), .int nbd, .int ntp, .int (nI npr), .int 0, .int nsn, .int 0, .ref aNl, .ref aNal, .ref aNlo, .int (nI nac), .ref aNw, .ref aNtr, .ref aNis, .ref aNbg, .ref aNow])), (aNr, .inl (g.2.1 0, 495, .inl (nIf rowB))), (aNb, .inl (g.2.1 0, 4096, .inl (nIf popN))), (aNal, .inl (g.2.1 0, 495, .inl (nIf cr))), (aNw, .inl (g.2.1 0, 1485, .inl (nIf (updN (wiT cr nwi d i) (((3 * d) + (popN ((rowB i) &&& (rowB d)))) - 2) (((wiT cr nwi d i) (((3 * d) + (popN ((rowB i) &&& (rowB d)))) - 2)) + (cr i))))))]) dX9_counts_103 4 (((3 * d) + (popN ((rowB i) &&& (rowB d)))) - 2) rfl (rfl) (by omega) (by decide) (by rw [upd_nIf]; rfl) ?_
            refine x_iinc (lv' := [some (.ref aN), some (.int (nI d)), some (.int (nI (i + 1))), some (.int (nI (popN ((rowB i) &&& (rowB d)))))]) (nI (i + 1)) dX9_counts_104 rfl (nI_addc i 1 rfl) rfl ?_
            refine x_goto dX9_counts_107 ?_
            refine x_fgt (lv' := [some (.ref aN), some (.int (nI d)), some (.int (nI (i + 1))), none]) ⟨Or.inr rfl, Or.inr rfl, Or.inr rfl, Or.inl rfl, trivial⟩ ?_
            exact ih52 (by omega) (updN (wiT cr nwi d i) (((3 * d) + (popN ((rowB i) &&& (rowB d)))) - 2) (((wiT cr nwi d i) (((3 * d) + (popN ((rowB i) &&& (rowB d)))) - 2)) + (cr i))) (by first | exact wiT_skip cr nwi d i (by omega) | exact wiT_step cr nwi d i rfl (by omega) (and4 (by omega)))
      exact L52_2 0 (Nat.zero_le _) (updN (updN (updN (fillT (3 * d) (wiF cr) nwi) ((3 * d) + 0) 0) ((3 * d) + 1) 0) ((3 * d) + 2) 0) (by exact wiT_0 cr nwi d)
  exact L19_1 0 (Nat.zero_le _) nwi (by exact (fillT_0 _ _).symm)

-- == cnt_0 ==
set_option maxRecDepth 100000 in
set_option maxHeartbeats 4000000 in
theorem ct_cnt_0 (l : Launch) (g : XG) (aN aNs aNk aNf aNr aNp aNb aNa aNt aNbo aNsz aNnu aNl aNal aNlo aNw aNtr aNis aNbg aNow nts nta nop npr nac : Nat) (nkp nbd ntp nsn : Int32) (cr nwi : Nat → Nat) : Ct l g 28 0 0 yX9_counts cX9_counts 4 none [.ref aN] [(aN, .inr (9, [.ref aNs, .ref aNk, .int nkp, .ref aNf, .ref aNr, .ref aNp, .ref aNb, .ref aNa, .ref aNt, .int (nI nts), .ref aNbo, .ref aNsz, .ref aNnu, .int (nI nta), .int (nI nop), .int nbd, .int ntp, .int (nI npr), .int 0, .int nsn, .int 0, .ref aNl, .ref aNal, .ref aNlo, .int (nI nac), .ref aNw, .ref aNtr, .ref aNis, .ref aNbg, .ref aNow])), (aNr, .inl (g.2.1 0, 495, .inl (nIf rowB))), (aNb, .inl (g.2.1 0, 4096, .inl (nIf popN))), (aNal, .inl (g.2.1 0, 495, .inl (nIf cr))), (aNw, .inl (g.2.1 0, 1485, .inl (nIf nwi)))] (xpv [(aN, .inr (9, [.ref aNs, .ref aNk, .int nkp, .ref aNf, .ref aNr, .ref aNp, .ref aNb, .ref aNa, .ref aNt, .int (nI nts), .ref aNbo, .ref aNsz, .ref aNnu, .int (nI nta), .int (nI nop), .int nbd, .int ntp, .int (nI npr), .int 0, .int nsn, .int 0, .ref aNl, .ref aNal, .ref aNlo, .int (nI nac), .ref aNw, .ref aNtr, .ref aNis, .ref aNbg, .ref aNow])), (aNr, .inl (g.2.1 0, 495, .inl (nIf rowB))), (aNb, .inl (g.2.1 0, 4096, .inl (nIf popN))), (aNal, .inl (g.2.1 0, 495, .inl (nIf cr))), (aNw, .inl (g.2.1 0, 1485, .inl (nIf nwi)))]) := by
  refine Ct.ofX (lv := [some (.ref aN), none, none, none]) (by decide) rfl (Nat.le_of_ble_eq_true rfl) (fun κ => ?_)
  generalize hQ : xQ κ g 0 0 _ = Q
  refine x_aload_n dX9_counts_0 rfl ?_
  refine x_cVv0 dX9_counts_1 ml_X9_198 mX9_works (ct_wk_h κ.2.1 g aN aNs aNk aNf aNr aNp aNb aNa aNt aNbo aNsz aNnu aNl aNal aNlo aNw aNtr aNis aNbg aNow nts nta nop npr nac nkp nbd ntp nsn 0) [0] rfl rfl 0 rfl rfl rfl (Nat.le_of_ble_eq_true rfl) (by decide) (Nat.le_refl _) (Nat.le_refl _) ?_
  refine x_aload_n dX9_counts_4 rfl ?_
  refine x_get dX9_counts_5 0 20 inX9 fl_X9_51 rfl rfl (by decide) rfl ?_
  refine x_if_ne dX9_counts_8 (fun c8 => ?_) (fun c8 => ?_)
  · exact absurd c8 (by decide)
  rw [← hQ]
  refine x_vret dX9_counts_11 rfl (Nat.le_of_ble_eq_true rfl) (Nat.le_of_ble_eq_true rfl) ?_
  exact ⟨rfl, rfl⟩

-- == X9_counts ==
theorem ct_X9_counts (l : Launch) (g : XG) (aN aNs aNk aNf aNr aNp aNb aNa aNt aNbo aNsz aNnu aNl aNal aNlo aNw aNtr aNis aNbg aNow nts nta nop npr nac : Nat) (nkp nbd ntp nsn nwn : Int32) (cr nwi : Nat → Nat) (hwc : nwn = 1 ∨ (nwn = 0 ∧ nwi = wiF cr)) : Ct l g 28 0 0 yX9_counts cX9_counts 4 none [.ref aN] [(aN, .inr (9, [.ref aNs, .ref aNk, .int nkp, .ref aNf, .ref aNr, .ref aNp, .ref aNb, .ref aNa, .ref aNt, .int (nI nts), .ref aNbo, .ref aNsz, .ref aNnu, .int (nI nta), .int (nI nop), .int nbd, .int ntp, .int (nI npr), .int 0, .int nsn, .int nwn, .ref aNl, .ref aNal, .ref aNlo, .int (nI nac), .ref aNw, .ref aNtr, .ref aNis, .ref aNbg, .ref aNow])), (aNr, .inl (g.2.1 0, 495, .inl (nIf rowB))), (aNb, .inl (g.2.1 0, 4096, .inl (nIf popN))), (aNal, .inl (g.2.1 0, 495, .inl (nIf cr))), (aNw, .inl (g.2.1 0, 1485, .inl (nIf nwi)))] (xpv [(aN, .inr (9, [.ref aNs, .ref aNk, .int nkp, .ref aNf, .ref aNr, .ref aNp, .ref aNb, .ref aNa, .ref aNt, .int (nI nts), .ref aNbo, .ref aNsz, .ref aNnu, .int (nI nta), .int (nI nop), .int nbd, .int ntp, .int (nI npr), .int 0, .int nsn, .int 0, .ref aNl, .ref aNal, .ref aNlo, .int (nI nac), .ref aNw, .ref aNtr, .ref aNis, .ref aNbg, .ref aNow])), (aNr, .inl (g.2.1 0, 495, .inl (nIf rowB))), (aNb, .inl (g.2.1 0, 4096, .inl (nIf popN))), (aNal, .inl (g.2.1 0, 495, .inl (nIf cr))), (aNw, .inl (g.2.1 0, 1485, .inl (nIf (wiF cr))))]) := by
  rcases hwc with rfl | ⟨rfl, rfl⟩
  · exact ct_cnt_1 l g _ _ _ _ _ _ _ _ _ _ _ _ _ _ _ _ _ _ _ _ _ _ _ _ _ _ _ _ _ _ _ 
  · exact ct_cnt_0 l g _ _ _ _ _ _ _ _ _ _ _ _ _ _ _ _ _ _ _ _ _ _ _ _ _ _ _ _ _ _ _ 

-- == X9_potWith ==
theorem dX9_potWith_0 : xd cX9_potWith 0 (.aload_n 0) 1 1 := ⟨by decide +kernel, rfl⟩
theorem dX9_potWith_1 : xd cX9_potWith 1 (.invokevirtual 198) 3 4 := ⟨by decide +kernel, rfl⟩
theorem dX9_potWith_4 : xd cX9_potWith 4 (.iload_n 1) 1 5 := ⟨by decide +kernel, rfl⟩
theorem dX9_potWith_5 : xd cX9_potWith 5 .i2l 1 6 := ⟨by decide +kernel, rfl⟩
theorem dX9_potWith_6 : xd cX9_potWith 6 (.aload_n 0) 1 7 := ⟨by decide +kernel, rfl⟩
theorem dX9_potWith_7 : xd cX9_potWith 7 (.getfield 192) 3 10 := ⟨by decide +kernel, rfl⟩
theorem dX9_potWith_10 : xd cX9_potWith 10 .i2l 1 11 := ⟨by decide +kernel, rfl⟩
theorem dX9_potWith_11 : xd cX9_potWith 11 (.aload_n 0) 1 12 := ⟨by decide +kernel, rfl⟩
theorem dX9_potWith_12 : xd cX9_potWith 12 (.getfield 7) 3 15 := ⟨by decide +kernel, rfl⟩
theorem dX9_potWith_15 : xd cX9_potWith 15 (.bipush 10) 2 17 := ⟨by decide +kernel, rfl⟩
theorem dX9_potWith_17 : xd cX9_potWith 17 .iaload 1 18 := ⟨by decide +kernel, rfl⟩
theorem dX9_potWith_18 : xd cX9_potWith 18 .i2l 1 19 := ⟨by decide +kernel, rfl⟩
theorem dX9_potWith_19 : xd cX9_potWith 19 .lmul 1 20 := ⟨by decide +kernel, rfl⟩
theorem dX9_potWith_20 : xd cX9_potWith 20 (.aload_n 0) 1 21 := ⟨by decide +kernel, rfl⟩
theorem dX9_potWith_21 : xd cX9_potWith 21 (.getfield 7) 3 24 := ⟨by decide +kernel, rfl⟩
theorem dX9_potWith_24 : xd cX9_potWith 24 (.bipush 11) 2 26 := ⟨by decide +kernel, rfl⟩
theorem dX9_potWith_26 : xd cX9_potWith 26 .iaload 1 27 := ⟨by decide +kernel, rfl⟩
theorem dX9_potWith_27 : xd cX9_potWith 27 .i2l 1 28 := ⟨by decide +kernel, rfl⟩
theorem dX9_potWith_28 : xd cX9_potWith 28 .lmul 1 29 := ⟨by decide +kernel, rfl⟩
theorem dX9_potWith_29 : xd cX9_potWith 29 (.ldc2_w 206) 3 32 := ⟨by decide +kernel, rfl⟩
theorem dX9_potWith_32 : xd cX9_potWith 32 .ldiv 1 33 := ⟨by decide +kernel, rfl⟩
theorem dX9_potWith_33 : xd cX9_potWith 33 .ladd 1 34 := ⟨by decide +kernel, rfl⟩
theorem dX9_potWith_34 : xd cX9_potWith 34 .lreturn 1 35 := ⟨by decide +kernel, rfl⟩

set_option maxRecDepth 100000 in
set_option maxHeartbeats 4000000 in
theorem ct_X9_potWith (l : Launch) (g : XG) (aN aNs aNk aNf aNr aNp aNb aNa aNt aNbo aNsz aNnu aNl aNal aNlo aNw aNtr aNis aNbg aNow nts nta nop npr nac : Nat) (nkp nbd nnw nsn nwn : Int32) (gr wk lk sz br : Nat) (z : Int32) (ru ki ma bb hd : Nat → Nat) (ce : Nat → Int32) (tb nli nal nlo sd : Nat → Nat) (L : Nat) (pt : Nat) (hgr : gr ≤ 12) (hki : ∀ j, ki j ≤ 7) (hma : ∀ j, ma j ≤ 99999) (hwk : wk ≤ 40) (hlat : latI ce wk = nI L) (hL : L < 4096) (hsz : sz ≤ 60) (hbb : ∀ j, bb j < 256) (hsd : ∀ p, sd p ≤ 99) (hsv : ∀ p, p < 495 → sd p = if lk = 1 then clN (txV bb sz wk L p) else 1) (hlk : lk ≤ 1) (hwo : (nnw = 1 ∧ (nsn = 1 ∨ (nsn = 0 ∧ nli = sd))) ∨ (nnw = 0 ∧ nsn = 0 ∧ nli = sd ∧ nal = crH gr ki ma hd L sd ∧ nac = toH gr ki ma hd L sd ∧ ∀ q, q < gr → nlo q = laN (ki q) (ma q) L sd)) : Ct l g 28 0 0 yX9_potWith cX9_potWith 2 (some .long) [.ref aN, .int (nI pt)] [(aN, .inr (9, [.ref aNs, .ref aNk, .int nkp, .ref aNf, .ref aNr, .ref aNp, .ref aNb, .ref aNa, .ref aNt, .int (nI nts), .ref aNbo, .ref aNsz, .ref aNnu, .int (nI nta), .int (nI nop), .int nbd, .int 0, .int (nI npr), .int nnw, .int nsn, .int nwn, .ref aNl, .ref aNal, .ref aNlo, .int (nI nac), .ref aNw, .ref aNtr, .ref aNis, .ref aNbg, .ref aNow])), (aNs, .inl (g.2.1 0, 919, .inl (msF gr wk z lk sz br ru ki ma bb ce hd))), (aNt, .inl (g.2.1 0, 60, .inl (nIf tb))), (aNa, .inl (g.2.1 0, 2475, .inl (nIf fcN))), (aNr, .inl (g.2.1 0, 495, .inl (nIf rowB))), (aNb, .inl (g.2.1 0, 4096, .inl (nIf popN))), (aNl, .inl (g.2.1 0, 495, .inl (nIf nli))), (aNal, .inl (g.2.1 0, 495, .inl (nIf nal))), (aNlo, .inl (g.2.1 0, 12, .inl (nIf nlo)))] (fun vv_ ww_ => ∃ (zat : Nat) (zop : Nat) (zbd : Int32) (zpr : Nat) (lo2 : Nat → Nat), vv_ = some (.long (potL ru (nI pt).toInt64 (nI (toH gr ki ma hd L sd)).toInt64)) ∧ ww_ = [(aN, .inr (9, [.ref aNs, .ref aNk, .int nkp, .ref aNf, .ref aNr, .ref aNp, .ref aNb, .ref aNa, .ref aNt, .int (nI nts), .ref aNbo, .ref aNsz, .ref aNnu, .int (nI zat), .int (nI zop), .int zbd, .int 0, .int (nI zpr), .int 0, .int 0, .int (wnI nnw nwn), .ref aNl, .ref aNal, .ref aNlo, .int (nI (toH gr ki ma hd L sd)), .ref aNw, .ref aNtr, .ref aNis, .ref aNbg, .ref aNow])), (aNs, .inl (g.2.1 0, 919, .inl (msF gr wk z lk sz br ru ki ma bb ce hd))), (aNt, .inl (g.2.1 0, 60, .inl (nIf tb))), (aNa, .inl (g.2.1 0, 2475, .inl (nIf fcN))), (aNr, .inl (g.2.1 0, 495, .inl (nIf rowB))), (aNb, .inl (g.2.1 0, 4096, .inl (nIf popN))), (aNl, .inl (g.2.1 0, 495, .inl (nIf sd))), (aNal, .inl (g.2.1 0, 495, .inl (nIf (crH gr ki ma hd L sd)))), (aNlo, .inl (g.2.1 0, 12, .inl (nIf lo2)))] ∧ (∀ q, q < gr → lo2 q = laN (ki q) (ma q) L sd)) := by
  refine Ct.ofX (lv := [some (.ref aN), some (.int (nI pt))]) (by decide) rfl (Nat.le_of_ble_eq_true rfl) (fun κ => ?_)
  generalize hQ : xQ κ g 0 0 _ = Q
  refine x_aload_n dX9_potWith_0 rfl ?_
  refine x_callV dX9_potWith_1 ml_X9_198 mX9_works (ct_X9_works κ.2.1 g aN aNs aNk aNf aNr aNp aNb aNa aNt aNbo aNsz aNnu aNl aNal aNlo aNw aNtr aNis aNbg aNow nts nta nop npr nac nkp nbd nnw nsn nwn gr wk lk sz br z ru ki ma bb hd ce tb nli nal nlo sd L (hgr) (hki) (hma) (hwk) (hlat) (hL) (hsz) (hbb) (hsd) (hsv) (hlk) (hwo)) [0, 1, 2, 3, 4, 5, 6, 7, 8] rfl rfl 0 rfl rfl rfl (Nat.le_of_ble_eq_true rfl) (by decide) (Nat.le_refl _) (Nat.le_refl _) (fun vv ww hp => ?_)
  obtain ⟨z1, z2, z3, z4, z5, rfl, rfl, p6⟩ := hp
  refine ⟨(rfl : [aN, aNs, aNt, aNa, aNr, aNb, aNl, aNal, aNlo] = [aN, aNs, aNt, aNa, aNr, aNb, aNl, aNal, aNlo]), x_eq (lv' := [some (.ref aN), some (.int (nI pt))]) (st' := []) (ws' := [(aN, .inr (9, [.ref aNs, .ref aNk, .int nkp, .ref aNf, .ref aNr, .ref aNp, .ref aNb, .ref aNa, .ref aNt, .int (nI nts), .ref aNbo, .ref aNsz, .ref aNnu, .int (nI z1), .int (nI z2), .int z3, .int 0, .int (nI z4), .int 0, .int 0, .int (wnI nnw nwn), .ref aNl, .ref aNal, .ref aNlo, .int (nI (toH gr ki ma hd L sd)), .ref aNw, .ref aNtr, .ref aNis, .ref aNbg, .ref aNow])), (aNs, .inl (g.2.1 0, 919, .inl (msF gr wk z lk sz br ru ki ma bb ce hd))), (aNt, .inl (g.2.1 0, 60, .inl (nIf tb))), (aNa, .inl (g.2.1 0, 2475, .inl (nIf fcN))), (aNr, .inl (g.2.1 0, 495, .inl (nIf rowB))), (aNb, .inl (g.2.1 0, 4096, .inl (nIf popN))), (aNl, .inl (g.2.1 0, 495, .inl (nIf sd))), (aNal, .inl (g.2.1 0, 495, .inl (nIf (crH gr ki ma hd L sd)))), (aNlo, .inl (g.2.1 0, 12, .inl (nIf z5)))]) ?_ rfl rfl rfl⟩
  refine x_iload_n dX9_potWith_4 rfl ?_
  refine x_i2l dX9_potWith_5 ?_
  refine x_aload_n dX9_potWith_6 rfl ?_
  refine x_get dX9_potWith_7 0 24 inX9 fl_X9_192 rfl rfl (by decide) rfl ?_
  refine x_i2l dX9_potWith_10 ?_
  refine x_aload_n dX9_potWith_11 rfl ?_
  refine x_get dX9_potWith_12 0 0 inX9 fl_X9_7 rfl rfl (by decide) rfl ?_
  refine x_bipush 10 dX9_potWith_15 (by decide) ?_
  refine x_iald dX9_potWith_17 1 10 rfl (rfl) (by decide) (by decide) ?_
  refine x_rei (nI (ru 0)) (msg_ru (x := 0) (by omega) (by omega)) ?_
  refine x_i2l dX9_potWith_18 ?_
  refine x_lmul dX9_potWith_19 ?_
  refine x_aload_n dX9_potWith_20 rfl ?_
  refine x_get dX9_potWith_21 0 0 inX9 fl_X9_7 rfl rfl (by decide) rfl ?_
  refine x_bipush 11 dX9_potWith_24 (by decide) ?_
  refine x_iald dX9_potWith_26 1 11 rfl (rfl) (by decide) (by decide) ?_
  refine x_rei (nI (ru 1)) (msg_ru (x := 1) (by omega) (by omega)) ?_
  refine x_i2l dX9_potWith_27 ?_
  refine x_lmul dX9_potWith_28 ?_
  refine x_ldc2 dX9_potWith_29 kl_X9_206 ?_
  refine x_ldiv dX9_potWith_32 (by decide) ?_
  refine x_ladd dX9_potWith_33 ?_
  rw [← hQ]
  refine x_lret dX9_potWith_34 rfl (Nat.le_of_ble_eq_true rfl) (Nat.le_of_ble_eq_true rfl) ?_
  exact ⟨_, _, _, _, _, rfl, rfl, p6⟩

-- == X9_shareOf ==
theorem dX9_shareOf_0 : xd cX9_shareOf 0 (.lload_n 1) 1 1 := ⟨by decide +kernel, rfl⟩
theorem dX9_shareOf_1 : xd cX9_shareOf 1 (.aload_n 0) 1 2 := ⟨by decide +kernel, rfl⟩
theorem dX9_shareOf_2 : xd cX9_shareOf 2 (.getfield 7) 3 5 := ⟨by decide +kernel, rfl⟩
theorem dX9_shareOf_5 : xd cX9_shareOf 5 (.bipush 16) 2 7 := ⟨by decide +kernel, rfl⟩
theorem dX9_shareOf_7 : xd cX9_shareOf 7 (.iload_n 3) 1 8 := ⟨by decide +kernel, rfl⟩
theorem dX9_shareOf_8 : xd cX9_shareOf 8 .isub 1 9 := ⟨by decide +kernel, rfl⟩
theorem dX9_shareOf_9 : xd cX9_shareOf 9 .iaload 1 10 := ⟨by decide +kernel, rfl⟩
theorem dX9_shareOf_10 : xd cX9_shareOf 10 .i2l 1 11 := ⟨by decide +kernel, rfl⟩
theorem dX9_shareOf_11 : xd cX9_shareOf 11 .lmul 1 12 := ⟨by decide +kernel, rfl⟩
theorem dX9_shareOf_12 : xd cX9_shareOf 12 (.ldc2_w 206) 3 15 := ⟨by decide +kernel, rfl⟩
theorem dX9_shareOf_15 : xd cX9_shareOf 15 .ldiv 1 16 := ⟨by decide +kernel, rfl⟩
theorem dX9_shareOf_16 : xd cX9_shareOf 16 .lreturn 1 17 := ⟨by decide +kernel, rfl⟩

set_option maxRecDepth 100000 in
set_option maxHeartbeats 4000000 in
theorem ct_X9_shareOf (l : Launch) (g : XG) (aN aNs aNk aNf aNr aNp aNb aNa aNt aNbo aNsz aNnu aNl aNal aNlo aNw aNtr aNis aNbg aNow nts nta nop npr nac : Nat) (nkp nbd ntp nnw nsn nwn : Int32) (gr wk lk sz br : Nat) (z : Int32) (ru ki ma bb hd : Nat → Nat) (ce : Nat → Int32) (pot : Int64) (r : Nat) (hr : 2 ≤ r ∧ r ≤ 4) : Ct l g 1 0 0 yX9_shareOf cX9_shareOf 4 (some .long) [.ref aN, .long pot, .int (nI r)] [(aN, .inr (9, [.ref aNs, .ref aNk, .int nkp, .ref aNf, .ref aNr, .ref aNp, .ref aNb, .ref aNa, .ref aNt, .int (nI nts), .ref aNbo, .ref aNsz, .ref aNnu, .int (nI nta), .int (nI nop), .int nbd, .int ntp, .int (nI npr), .int nnw, .int nsn, .int nwn, .ref aNl, .ref aNal, .ref aNlo, .int (nI nac), .ref aNw, .ref aNtr, .ref aNis, .ref aNbg, .ref aNow])), (aNs, .inl (g.2.1 0, 919, .inl (msF gr wk z lk sz br ru ki ma bb ce hd)))] (xpl (partL ru r pot) [(aN, .inr (9, [.ref aNs, .ref aNk, .int nkp, .ref aNf, .ref aNr, .ref aNp, .ref aNb, .ref aNa, .ref aNt, .int (nI nts), .ref aNbo, .ref aNsz, .ref aNnu, .int (nI nta), .int (nI nop), .int nbd, .int ntp, .int (nI npr), .int nnw, .int nsn, .int nwn, .ref aNl, .ref aNal, .ref aNlo, .int (nI nac), .ref aNw, .ref aNtr, .ref aNis, .ref aNbg, .ref aNow])), (aNs, .inl (g.2.1 0, 919, .inl (msF gr wk z lk sz br ru ki ma bb ce hd)))]) := by
  refine Ct.ofX (lv := [some (.ref aN), some (.long pot), none, some (.int (nI r))]) (by decide) rfl (Nat.le_of_ble_eq_true rfl) (fun κ => ?_)
  generalize hQ : xQ κ g 0 0 _ = Q
  refine x_lload_n dX9_shareOf_0 rfl ?_
  refine x_aload_n dX9_shareOf_1 rfl ?_
  refine x_get dX9_shareOf_2 0 0 inX9 fl_X9_7 rfl rfl (by decide) rfl ?_
  refine x_bipush 16 dX9_shareOf_5 (by decide) ?_
  refine x_iload_n dX9_shareOf_7 rfl ?_
  refine x_isub dX9_shareOf_8 ?_
  refine x_rei (nI (16 - r)) (nI_isub 16 r (by omega)) ?_
  refine x_iald dX9_shareOf_9 1 (10 + (6 - r)) rfl (congrArg nI (by omega)) (by omega) (by decide) ?_
  refine x_rei (nI (ru (6 - r))) (msg_ru (x := (6 - r)) (by omega) (by omega)) ?_
  refine x_i2l dX9_shareOf_10 ?_
  refine x_lmul dX9_shareOf_11 ?_
  refine x_ldc2 dX9_shareOf_12 kl_X9_206 ?_
  refine x_ldiv dX9_shareOf_15 (by decide) ?_
  rw [← hQ]
  refine x_lret dX9_shareOf_16 rfl (Nat.le_of_ble_eq_true rfl) (Nat.le_of_ble_eq_true rfl) ?_
  exact ⟨rfl, rfl⟩

-- == X9_taxed ==
theorem dX9_taxed_0 : xd cX9_taxed 0 (.lload_n 1) 1 1 := ⟨by decide +kernel, rfl⟩
theorem dX9_taxed_1 : xd cX9_taxed 1 (.aload_n 0) 1 2 := ⟨by decide +kernel, rfl⟩
theorem dX9_taxed_2 : xd cX9_taxed 2 (.getfield 7) 3 5 := ⟨by decide +kernel, rfl⟩
theorem dX9_taxed_5 : xd cX9_taxed 5 (.bipush 16) 2 7 := ⟨by decide +kernel, rfl⟩
theorem dX9_taxed_7 : xd cX9_taxed 7 .iaload 1 8 := ⟨by decide +kernel, rfl⟩
theorem dX9_taxed_8 : xd cX9_taxed 8 .i2l 1 9 := ⟨by decide +kernel, rfl⟩
theorem dX9_taxed_9 : xd cX9_taxed 9 .lcmp 1 10 := ⟨by decide +kernel, rfl⟩
theorem dX9_taxed_10 : xj cX9_taxed 10 (.ifCond .le) 13 41 := ⟨31, by decide +kernel, rfl, by decide⟩
theorem dX9_taxed_13 : xd cX9_taxed 13 (.lload_n 1) 1 14 := ⟨by decide +kernel, rfl⟩
theorem dX9_taxed_14 : xd cX9_taxed 14 (.lload_n 1) 1 15 := ⟨by decide +kernel, rfl⟩
theorem dX9_taxed_15 : xd cX9_taxed 15 (.aload_n 0) 1 16 := ⟨by decide +kernel, rfl⟩
theorem dX9_taxed_16 : xd cX9_taxed 16 (.getfield 7) 3 19 := ⟨by decide +kernel, rfl⟩
theorem dX9_taxed_19 : xd cX9_taxed 19 (.bipush 16) 2 21 := ⟨by decide +kernel, rfl⟩
theorem dX9_taxed_21 : xd cX9_taxed 21 .iaload 1 22 := ⟨by decide +kernel, rfl⟩
theorem dX9_taxed_22 : xd cX9_taxed 22 .i2l 1 23 := ⟨by decide +kernel, rfl⟩
theorem dX9_taxed_23 : xd cX9_taxed 23 .lsub 1 24 := ⟨by decide +kernel, rfl⟩
theorem dX9_taxed_24 : xd cX9_taxed 24 (.aload_n 0) 1 25 := ⟨by decide +kernel, rfl⟩
theorem dX9_taxed_25 : xd cX9_taxed 25 (.getfield 7) 3 28 := ⟨by decide +kernel, rfl⟩
theorem dX9_taxed_28 : xd cX9_taxed 28 (.bipush 15) 2 30 := ⟨by decide +kernel, rfl⟩
theorem dX9_taxed_30 : xd cX9_taxed 30 .iaload 1 31 := ⟨by decide +kernel, rfl⟩
theorem dX9_taxed_31 : xd cX9_taxed 31 .i2l 1 32 := ⟨by decide +kernel, rfl⟩
theorem dX9_taxed_32 : xd cX9_taxed 32 .lmul 1 33 := ⟨by decide +kernel, rfl⟩
theorem dX9_taxed_33 : xd cX9_taxed 33 (.ldc2_w 206) 3 36 := ⟨by decide +kernel, rfl⟩
theorem dX9_taxed_36 : xd cX9_taxed 36 .ldiv 1 37 := ⟨by decide +kernel, rfl⟩
theorem dX9_taxed_37 : xd cX9_taxed 37 .lsub 1 38 := ⟨by decide +kernel, rfl⟩
theorem dX9_taxed_38 : xj cX9_taxed 38 .goto 41 42 := ⟨4, by decide +kernel, rfl, by decide⟩
theorem dX9_taxed_41 : xd cX9_taxed 41 (.lload_n 1) 1 42 := ⟨by decide +kernel, rfl⟩
theorem dX9_taxed_42 : xd cX9_taxed 42 .lreturn 1 43 := ⟨by decide +kernel, rfl⟩

set_option maxRecDepth 100000 in
set_option maxHeartbeats 4000000 in
theorem ct_X9_taxed (l : Launch) (g : XG) (aN aNs aNk aNf aNr aNp aNb aNa aNt aNbo aNsz aNnu aNl aNal aNlo aNw aNtr aNis aNbg aNow nts nta nop npr nac : Nat) (nkp nbd ntp nnw nsn nwn : Int32) (gr wk lk sz br : Nat) (z : Int32) (ru ki ma bb hd : Nat → Nat) (ce : Nat → Int32) (v : Int64) : Ct l g 1 0 0 yX9_taxed cX9_taxed 3 (some .long) [.ref aN, .long v] [(aN, .inr (9, [.ref aNs, .ref aNk, .int nkp, .ref aNf, .ref aNr, .ref aNp, .ref aNb, .ref aNa, .ref aNt, .int (nI nts), .ref aNbo, .ref aNsz, .ref aNnu, .int (nI nta), .int (nI nop), .int nbd, .int ntp, .int (nI npr), .int nnw, .int nsn, .int nwn, .ref aNl, .ref aNal, .ref aNlo, .int (nI nac), .ref aNw, .ref aNtr, .ref aNis, .ref aNbg, .ref aNow])), (aNs, .inl (g.2.1 0, 919, .inl (msF gr wk z lk sz br ru ki ma bb ce hd)))] (xpl (txR ru v) [(aN, .inr (9, [.ref aNs, .ref aNk, .int nkp, .ref aNf, .ref aNr, .ref aNp, .ref aNb, .ref aNa, .ref aNt, .int (nI nts), .ref aNbo, .ref aNsz, .ref aNnu, .int (nI nta), .int (nI nop), .int nbd, .int ntp, .int (nI npr), .int nnw, .int nsn, .int nwn, .ref aNl, .ref aNal, .ref aNlo, .int (nI nac), .ref aNw, .ref aNtr, .ref aNis, .ref aNbg, .ref aNow])), (aNs, .inl (g.2.1 0, 919, .inl (msF gr wk z lk sz br ru ki ma bb ce hd)))]) := by
  refine Ct.ofX (lv := [some (.ref aN), some (.long v), none]) (by decide) rfl (Nat.le_of_ble_eq_true rfl) (fun κ => ?_)
  generalize hQ : xQ κ g 0 0 _ = Q
  refine x_lload_n dX9_taxed_0 rfl ?_
  refine x_aload_n dX9_taxed_1 rfl ?_
  refine x_get dX9_taxed_2 0 0 inX9 fl_X9_7 rfl rfl (by decide) rfl ?_
  refine x_bipush 16 dX9_taxed_5 (by decide) ?_
  refine x_iald dX9_taxed_7 1 16 rfl (rfl) (by decide) (by decide) ?_
  refine x_rei (nI (ru 6)) (msg_ru (x := 6) (by omega) (by omega)) ?_
  refine x_i2l dX9_taxed_8 ?_
  refine x_lcmp dX9_taxed_9 ?_
  refine x_if_le dX9_taxed_10 (fun c10 => ?_) (fun c10 => ?_)
  · have c10 : (lg_cmp v ((nI (ru 6)).toInt64)) ≤ 0 := c10
    refine x_lload_n dX9_taxed_41 rfl ?_
    rw [← hQ]
    refine x_lret dX9_taxed_42 rfl (Nat.le_of_ble_eq_true rfl) (Nat.le_of_ble_eq_true rfl) ?_
    exact ⟨by rw [txR]; first | rw [if_pos c10] | rw [if_neg c10], rfl⟩
  · have c10 : ¬ ((lg_cmp v ((nI (ru 6)).toInt64)) ≤ 0) := c10
    refine x_lload_n dX9_taxed_13 rfl ?_
    refine x_lload_n dX9_taxed_14 rfl ?_
    refine x_aload_n dX9_taxed_15 rfl ?_
    refine x_get dX9_taxed_16 0 0 inX9 fl_X9_7 rfl rfl (by decide) rfl ?_
    refine x_bipush 16 dX9_taxed_19 (by decide) ?_
    refine x_iald dX9_taxed_21 1 16 rfl (rfl) (by decide) (by decide) ?_
    refine x_rei (nI (ru 6)) (msg_ru (x := 6) (by omega) (by omega)) ?_
    refine x_i2l dX9_taxed_22 ?_
    refine x_lsub dX9_taxed_23 ?_
    refine x_aload_n dX9_taxed_24 rfl ?_
    refine x_get dX9_taxed_25 0 0 inX9 fl_X9_7 rfl rfl (by decide) rfl ?_
    refine x_bipush 15 dX9_taxed_28 (by decide) ?_
    refine x_iald dX9_taxed_30 1 15 rfl (rfl) (by decide) (by decide) ?_
    refine x_rei (nI (ru 5)) (msg_ru (x := 5) (by omega) (by omega)) ?_
    refine x_i2l dX9_taxed_31 ?_
    refine x_lmul dX9_taxed_32 ?_
    refine x_ldc2 dX9_taxed_33 kl_X9_206 ?_
    refine x_ldiv dX9_taxed_36 (by decide) ?_
    refine x_lsub dX9_taxed_37 ?_
    refine x_goto dX9_taxed_38 ?_
    rw [← hQ]
    refine x_lret dX9_taxed_42 rfl (Nat.le_of_ble_eq_true rfl) (Nat.le_of_ble_eq_true rfl) ?_
    exact ⟨by rw [txR]; first | rw [if_pos c10] | rw [if_neg c10], rfl⟩

-- == pot_o ==
set_option maxRecDepth 100000 in
set_option maxHeartbeats 4000000 in
theorem ct_pot_o (l : Launch) (g : XG) (aN aNs aNk aNf aNr aNp aNb aNa aNt aNbo aNsz aNnu aNl aNal aNlo aNw aNtr aNis aNbg aNow nts nta nop npr nac : Nat) (nkp nbd ntp nsn nwn : Int32) (gr wk lk sz br : Nat) (z : Int32) (ru ki ma bb hd : Nat → Nat) (ce : Nat → Int32) (pt : Nat) : Ct l g 28 0 0 yX9_potWith cX9_potWith 2 (some .long) [.ref aN, .int (nI pt)] [(aN, .inr (9, [.ref aNs, .ref aNk, .int nkp, .ref aNf, .ref aNr, .ref aNp, .ref aNb, .ref aNa, .ref aNt, .int (nI nts), .ref aNbo, .ref aNsz, .ref aNnu, .int (nI nta), .int (nI nop), .int nbd, .int ntp, .int (nI npr), .int 0, .int nsn, .int nwn, .ref aNl, .ref aNal, .ref aNlo, .int (nI nac), .ref aNw, .ref aNtr, .ref aNis, .ref aNbg, .ref aNow])), (aNs, .inl (g.2.1 0, 919, .inl (msF gr wk z lk sz br ru ki ma bb ce hd)))] (xpl (potL ru (nI pt).toInt64 (nI nac).toInt64) [(aN, .inr (9, [.ref aNs, .ref aNk, .int nkp, .ref aNf, .ref aNr, .ref aNp, .ref aNb, .ref aNa, .ref aNt, .int (nI nts), .ref aNbo, .ref aNsz, .ref aNnu, .int (nI nta), .int (nI nop), .int nbd, .int ntp, .int (nI npr), .int 0, .int nsn, .int nwn, .ref aNl, .ref aNal, .ref aNlo, .int (nI nac), .ref aNw, .ref aNtr, .ref aNis, .ref aNbg, .ref aNow])), (aNs, .inl (g.2.1 0, 919, .inl (msF gr wk z lk sz br ru ki ma bb ce hd)))]) := by
  refine Ct.ofX (lv := [some (.ref aN), some (.int (nI pt))]) (by decide) rfl (Nat.le_of_ble_eq_true rfl) (fun κ => ?_)
  generalize hQ : xQ κ g 0 0 _ = Q
  refine x_aload_n dX9_potWith_0 rfl ?_
  refine x_cVv0 dX9_potWith_1 ml_X9_198 mX9_works (ct_wk_h κ.2.1 g aN aNs aNk aNf aNr aNp aNb aNa aNt aNbo aNsz aNnu aNl aNal aNlo aNw aNtr aNis aNbg aNow nts nta nop npr nac nkp nbd ntp nsn nwn) [0] rfl rfl 0 rfl rfl rfl (Nat.le_of_ble_eq_true rfl) (by decide) (Nat.le_refl _) (Nat.le_refl _) ?_
  refine x_iload_n dX9_potWith_4 rfl ?_
  refine x_i2l dX9_potWith_5 ?_
  refine x_aload_n dX9_potWith_6 rfl ?_
  refine x_get dX9_potWith_7 0 24 inX9 fl_X9_192 rfl rfl (by decide) rfl ?_
  refine x_i2l dX9_potWith_10 ?_
  refine x_aload_n dX9_potWith_11 rfl ?_
  refine x_get dX9_potWith_12 0 0 inX9 fl_X9_7 rfl rfl (by decide) rfl ?_
  refine x_bipush 10 dX9_potWith_15 (by decide) ?_
  refine x_iald dX9_potWith_17 1 10 rfl (rfl) (by decide) (by decide) ?_
  refine x_rei (nI (ru 0)) (msg_ru (x := 0) (by omega) (by omega)) ?_
  refine x_i2l dX9_potWith_18 ?_
  refine x_lmul dX9_potWith_19 ?_
  refine x_aload_n dX9_potWith_20 rfl ?_
  refine x_get dX9_potWith_21 0 0 inX9 fl_X9_7 rfl rfl (by decide) rfl ?_
  refine x_bipush 11 dX9_potWith_24 (by decide) ?_
  refine x_iald dX9_potWith_26 1 11 rfl (rfl) (by decide) (by decide) ?_
  refine x_rei (nI (ru 1)) (msg_ru (x := 1) (by omega) (by omega)) ?_
  refine x_i2l dX9_potWith_27 ?_
  refine x_lmul dX9_potWith_28 ?_
  refine x_ldc2 dX9_potWith_29 kl_X9_206 ?_
  refine x_ldiv dX9_potWith_32 (by decide) ?_
  refine x_ladd dX9_potWith_33 ?_
  rw [← hQ]
  refine x_lret dX9_potWith_34 rfl (Nat.le_of_ble_eq_true rfl) (Nat.le_of_ble_eq_true rfl) ?_
  exact ⟨rfl, rfl⟩

-- == X9_getsAll ==
theorem dX9_getsAll_0 : xd cX9_getsAll 0 (.aload_n 0) 1 1 := ⟨by decide +kernel, rfl⟩
theorem dX9_getsAll_1 : xd cX9_getsAll 1 (.invokevirtual 222) 3 4 := ⟨by decide +kernel, rfl⟩
theorem dX9_getsAll_4 : xd cX9_getsAll 4 (.lconst 0) 1 5 := ⟨by decide +kernel, rfl⟩
theorem dX9_getsAll_5 : xd cX9_getsAll 5 (.lstore 4) 2 7 := ⟨by decide +kernel, rfl⟩
theorem dX9_getsAll_7 : xd cX9_getsAll 7 (.iconst 0) 1 8 := ⟨by decide +kernel, rfl⟩
theorem dX9_getsAll_8 : xd cX9_getsAll 8 (.istore 6) 2 10 := ⟨by decide +kernel, rfl⟩
theorem dX9_getsAll_10 : xd cX9_getsAll 10 (.iload 6) 2 12 := ⟨by decide +kernel, rfl⟩
theorem dX9_getsAll_12 : xd cX9_getsAll 12 (.sipush 495) 3 15 := ⟨by decide +kernel, rfl⟩
theorem dX9_getsAll_15 : xj cX9_getsAll 15 (.if_icmp .ge) 18 84 := ⟨69, by decide +kernel, rfl, by decide⟩
theorem dX9_getsAll_18 : xd cX9_getsAll 18 (.aload_n 0) 1 19 := ⟨by decide +kernel, rfl⟩
theorem dX9_getsAll_19 : xd cX9_getsAll 19 (.aload_n 0) 1 20 := ⟨by decide +kernel, rfl⟩
theorem dX9_getsAll_20 : xd cX9_getsAll 20 (.getfield 19) 3 23 := ⟨by decide +kernel, rfl⟩
theorem dX9_getsAll_23 : xd cX9_getsAll 23 (.iload_n 1) 1 24 := ⟨by decide +kernel, rfl⟩
theorem dX9_getsAll_24 : xd cX9_getsAll 24 .iaload 1 25 := ⟨by decide +kernel, rfl⟩
theorem dX9_getsAll_25 : xd cX9_getsAll 25 (.aload_n 0) 1 26 := ⟨by decide +kernel, rfl⟩
theorem dX9_getsAll_26 : xd cX9_getsAll 26 (.getfield 19) 3 29 := ⟨by decide +kernel, rfl⟩
theorem dX9_getsAll_29 : xd cX9_getsAll 29 (.iload 6) 2 31 := ⟨by decide +kernel, rfl⟩
theorem dX9_getsAll_31 : xd cX9_getsAll 31 .iaload 1 32 := ⟨by decide +kernel, rfl⟩
theorem dX9_getsAll_32 : xd cX9_getsAll 32 .iand 1 33 := ⟨by decide +kernel, rfl⟩
theorem dX9_getsAll_33 : xd cX9_getsAll 33 (.invokevirtual 132) 3 36 := ⟨by decide +kernel, rfl⟩
theorem dX9_getsAll_36 : xd cX9_getsAll 36 (.istore 7) 2 38 := ⟨by decide +kernel, rfl⟩
theorem dX9_getsAll_38 : xd cX9_getsAll 38 (.iload 7) 2 40 := ⟨by decide +kernel, rfl⟩
theorem dX9_getsAll_40 : xd cX9_getsAll 40 (.iconst 1) 1 41 := ⟨by decide +kernel, rfl⟩
theorem dX9_getsAll_41 : xj cX9_getsAll 41 (.if_icmp .le) 44 78 := ⟨37, by decide +kernel, rfl, by decide⟩
theorem dX9_getsAll_44 : xd cX9_getsAll 44 (.lload 4) 2 46 := ⟨by decide +kernel, rfl⟩
theorem dX9_getsAll_46 : xd cX9_getsAll 46 (.aload_n 0) 1 47 := ⟨by decide +kernel, rfl⟩
theorem dX9_getsAll_47 : xd cX9_getsAll 47 (.aload_n 0) 1 48 := ⟨by decide +kernel, rfl⟩
theorem dX9_getsAll_48 : xd cX9_getsAll 48 (.lload_n 2) 1 49 := ⟨by decide +kernel, rfl⟩
theorem dX9_getsAll_49 : xd cX9_getsAll 49 (.iload 7) 2 51 := ⟨by decide +kernel, rfl⟩
theorem dX9_getsAll_51 : xd cX9_getsAll 51 (.invokevirtual 212) 3 54 := ⟨by decide +kernel, rfl⟩
theorem dX9_getsAll_54 : xd cX9_getsAll 54 (.aload_n 0) 1 55 := ⟨by decide +kernel, rfl⟩
theorem dX9_getsAll_55 : xd cX9_getsAll 55 (.getfield 63) 3 58 := ⟨by decide +kernel, rfl⟩
theorem dX9_getsAll_58 : xd cX9_getsAll 58 (.iconst 3) 1 59 := ⟨by decide +kernel, rfl⟩
theorem dX9_getsAll_59 : xd cX9_getsAll 59 (.iload 6) 2 61 := ⟨by decide +kernel, rfl⟩
theorem dX9_getsAll_61 : xd cX9_getsAll 61 .imul 1 62 := ⟨by decide +kernel, rfl⟩
theorem dX9_getsAll_62 : xd cX9_getsAll 62 (.iload 7) 2 64 := ⟨by decide +kernel, rfl⟩
theorem dX9_getsAll_64 : xd cX9_getsAll 64 .iadd 1 65 := ⟨by decide +kernel, rfl⟩
theorem dX9_getsAll_65 : xd cX9_getsAll 65 (.iconst 2) 1 66 := ⟨by decide +kernel, rfl⟩
theorem dX9_getsAll_66 : xd cX9_getsAll 66 .isub 1 67 := ⟨by decide +kernel, rfl⟩
theorem dX9_getsAll_67 : xd cX9_getsAll 67 .iaload 1 68 := ⟨by decide +kernel, rfl⟩
theorem dX9_getsAll_68 : xd cX9_getsAll 68 (.iconst 1) 1 69 := ⟨by decide +kernel, rfl⟩
theorem dX9_getsAll_69 : xd cX9_getsAll 69 .iadd 1 70 := ⟨by decide +kernel, rfl⟩
theorem dX9_getsAll_70 : xd cX9_getsAll 70 .i2l 1 71 := ⟨by decide +kernel, rfl⟩
theorem dX9_getsAll_71 : xd cX9_getsAll 71 .ldiv 1 72 := ⟨by decide +kernel, rfl⟩
theorem dX9_getsAll_72 : xd cX9_getsAll 72 (.invokevirtual 225) 3 75 := ⟨by decide +kernel, rfl⟩
theorem dX9_getsAll_75 : xd cX9_getsAll 75 .ladd 1 76 := ⟨by decide +kernel, rfl⟩
theorem dX9_getsAll_76 : xd cX9_getsAll 76 (.lstore 4) 2 78 := ⟨by decide +kernel, rfl⟩
theorem dX9_getsAll_78 : xd cX9_getsAll 78 (.iinc 6 1) 3 81 := ⟨by decide +kernel, rfl⟩
theorem dX9_getsAll_81 : xj cX9_getsAll 81 .goto 84 10 := ⟨(-71), by decide +kernel, rfl, by decide⟩
theorem dX9_getsAll_84 : xd cX9_getsAll 84 (.lload 4) 2 86 := ⟨by decide +kernel, rfl⟩
theorem dX9_getsAll_86 : xd cX9_getsAll 86 .lreturn 1 87 := ⟨by decide +kernel, rfl⟩

set_option maxRecDepth 100000 in
set_option maxHeartbeats 4000000 in
theorem ct_X9_getsAll (l : Launch) (g : XG) (aN aNs aNk aNf aNr aNp aNb aNa aNt aNbo aNsz aNnu aNl aNal aNlo aNw aNtr aNis aNbg aNow nts nta nop npr nac : Nat) (nkp nbd ntp nsn nwn : Int32) (cr nwi : Nat → Nat) (gr wk lk sz br : Nat) (z : Int32) (ru ki ma bb hd : Nat → Nat) (ce : Nat → Int32) (p : Nat) (pot : Int64) (hwc : nwn = 1 ∨ (nwn = 0 ∧ nwi = wiF cr)) (hp : p < 495) (htot : sumN cr 495 < 2 ^ 30) : Ct l g 29 0 0 yX9_getsAll cX9_getsAll 8 (some .long) [.ref aN, .int (nI p), .long pot] [(aN, .inr (9, [.ref aNs, .ref aNk, .int nkp, .ref aNf, .ref aNr, .ref aNp, .ref aNb, .ref aNa, .ref aNt, .int (nI nts), .ref aNbo, .ref aNsz, .ref aNnu, .int (nI nta), .int (nI nop), .int nbd, .int ntp, .int (nI npr), .int 0, .int nsn, .int nwn, .ref aNl, .ref aNal, .ref aNlo, .int (nI nac), .ref aNw, .ref aNtr, .ref aNis, .ref aNbg, .ref aNow])), (aNr, .inl (g.2.1 0, 495, .inl (nIf rowB))), (aNb, .inl (g.2.1 0, 4096, .inl (nIf popN))), (aNal, .inl (g.2.1 0, 495, .inl (nIf cr))), (aNw, .inl (g.2.1 0, 1485, .inl (nIf nwi))), (aNs, .inl (g.2.1 0, 919, .inl (msF gr wk z lk sz br ru ki ma bb ce hd)))] (xpl (gaR ru pot cr p 495) [(aN, .inr (9, [.ref aNs, .ref aNk, .int nkp, .ref aNf, .ref aNr, .ref aNp, .ref aNb, .ref aNa, .ref aNt, .int (nI nts), .ref aNbo, .ref aNsz, .ref aNnu, .int (nI nta), .int (nI nop), .int nbd, .int ntp, .int (nI npr), .int 0, .int nsn, .int 0, .ref aNl, .ref aNal, .ref aNlo, .int (nI nac), .ref aNw, .ref aNtr, .ref aNis, .ref aNbg, .ref aNow])), (aNr, .inl (g.2.1 0, 495, .inl (nIf rowB))), (aNb, .inl (g.2.1 0, 4096, .inl (nIf popN))), (aNal, .inl (g.2.1 0, 495, .inl (nIf cr))), (aNw, .inl (g.2.1 0, 1485, .inl (nIf (wiF cr)))), (aNs, .inl (g.2.1 0, 919, .inl (msF gr wk z lk sz br ru ki ma bb ce hd)))]) := by
  refine Ct.ofX (lv := [some (.ref aN), some (.int (nI p)), some (.long pot), none, none, none, none, none]) (by decide) rfl (Nat.le_of_ble_eq_true rfl) (fun κ => ?_)
  generalize hQ : xQ κ g 0 0 _ = Q
  refine x_aload_n dX9_getsAll_0 rfl ?_
  refine x_cVv (ws' := [(aN, .inr (9, [.ref aNs, .ref aNk, .int nkp, .ref aNf, .ref aNr, .ref aNp, .ref aNb, .ref aNa, .ref aNt, .int (nI nts), .ref aNbo, .ref aNsz, .ref aNnu, .int (nI nta), .int (nI nop), .int nbd, .int ntp, .int (nI npr), .int 0, .int nsn, .int 0, .ref aNl, .ref aNal, .ref aNlo, .int (nI nac), .ref aNw, .ref aNtr, .ref aNis, .ref aNbg, .ref aNow])), (aNr, .inl (g.2.1 0, 495, .inl (nIf rowB))), (aNb, .inl (g.2.1 0, 4096, .inl (nIf popN))), (aNal, .inl (g.2.1 0, 495, .inl (nIf cr))), (aNw, .inl (g.2.1 0, 1485, .inl (nIf (wiF cr)))), (aNs, .inl (g.2.1 0, 919, .inl (msF gr wk z lk sz br ru ki ma bb ce hd)))]) dX9_getsAll_1 ml_X9_222 mX9_counts (ct_X9_counts κ.2.1 g aN aNs aNk aNf aNr aNp aNb aNa aNt aNbo aNsz aNnu aNl aNal aNlo aNw aNtr aNis aNbg aNow nts nta nop npr nac nkp nbd ntp nsn nwn cr nwi (hwc)) [0, 1, 2, 3, 4] rfl rfl 0 rfl rfl rfl (Nat.le_of_ble_eq_true rfl) (by decide) (Nat.le_refl _) (Nat.le_refl _) (rfl : [aN, aNr, aNb, aNal, aNw] = [aN, aNr, aNb, aNal, aNw]) rfl ?_
  refine x_lconst 0 dX9_getsAll_4 (by decide) ?_
  refine x_lstore (lv' := [some (.ref aN), some (.int (nI p)), some (.long pot), none, some (.long 0), none, none, none]) dX9_getsAll_5 (xlt rfl) rfl ?_
  refine x_iconst 0 dX9_getsAll_7 (by decide) ?_
  refine x_istore (lv' := [some (.ref aN), some (.int (nI p)), some (.long pot), none, some (.long 0), none, some (.int 0), none]) dX9_getsAll_8 (xlt rfl) rfl ?_
  have L10_1 : ∀ (i : Nat), i ≤ 495 → ∀ (al : Int64), al = gaR ru pot cr p i → Xs κ g 29 0 0 cX9_getsAll yX9_getsAll (some .long) Q 0 0 10 [some (.ref aN), some (.int (nI p)), some (.long pot), none, some (.long al), none, some (.int (nI i)), none] [] [(aN, .inr (9, [.ref aNs, .ref aNk, .int nkp, .ref aNf, .ref aNr, .ref aNp, .ref aNb, .ref aNa, .ref aNt, .int (nI nts), .ref aNbo, .ref aNsz, .ref aNnu, .int (nI nta), .int (nI nop), .int nbd, .int ntp, .int (nI npr), .int 0, .int nsn, .int 0, .ref aNl, .ref aNal, .ref aNlo, .int (nI nac), .ref aNw, .ref aNtr, .ref aNis, .ref aNbg, .ref aNow])), (aNr, .inl (g.2.1 0, 495, .inl (nIf rowB))), (aNb, .inl (g.2.1 0, 4096, .inl (nIf popN))), (aNal, .inl (g.2.1 0, 495, .inl (nIf cr))), (aNw, .inl (g.2.1 0, 1485, .inl (nIf (wiF cr)))), (aNs, .inl (g.2.1 0, 919, .inl (msF gr wk z lk sz br ru ki ma bb ce hd)))] := by
    refine upTo 495 (fun i hi10 ih10 => ?_)
    intro al eal
    subst eal
    have hpl := and4 (p := p) (d := i) hp
    have hwl := winN_le cr (rowB i) (popN (rowB p &&& rowB i))
    refine x_iload dX9_getsAll_10 rfl ?_
    refine x_sipush 495 dX9_getsAll_12 (by decide) ?_
    refine x_icmp_ge dX9_getsAll_15 (fun c15 => ?_) (fun c15 => ?_)
    · have c15 : 495 ≤ (nI i) := c15
      have c15n := (nI_leI (a := 495) (b := i) (by omega) (by omega)).mp c15
      have hxc15 : i = 495 := by omega
      try rw [hxc15]
      refine x_lload dX9_getsAll_84 rfl ?_
      rw [← hQ]
      refine x_lret dX9_getsAll_86 rfl (Nat.le_of_ble_eq_true rfl) (Nat.le_of_ble_eq_true rfl) ?_
      exact ⟨rfl, rfl⟩
    · have c15 : ¬ (495 ≤ (nI i)) := c15
      have c15n := mt (nI_leI (a := 495) (b := i) (by omega) (by omega)).mpr c15
      refine x_aload_n dX9_getsAll_18 rfl ?_
      refine x_aload_n dX9_getsAll_19 rfl ?_
      refine x_get dX9_getsAll_20 0 4 inX9 fl_X9_19 rfl rfl (by decide) rfl ?_
      refine x_iload_n dX9_getsAll_23 rfl ?_
      refine x_iald dX9_getsAll_24 1 p rfl (rfl) (by omega) (by decide) ?_
      refine x_aload_n dX9_getsAll_25 rfl ?_
      refine x_get dX9_getsAll_26 0 4 inX9 fl_X9_19 rfl rfl (by decide) rfl ?_
      refine x_iload dX9_getsAll_29 rfl ?_
      refine x_iald dX9_getsAll_31 1 i rfl (rfl) (by omega) (by decide) ?_
      refine x_iand dX9_getsAll_32 ?_
      refine x_rei (nI ((rowB p) &&& (rowB i))) (nI_iand (rowB p) (rowB i)) ?_
      refine x_cVi0 dX9_getsAll_33 ml_X9_132 mX9_ones (ct_X9_ones κ.2.1 g aN aNs aNk aNf aNr aNp aNb aNa aNt aNbo aNsz aNnu aNl aNal aNlo aNw aNtr aNis aNbg aNow nts nta nop npr nac nkp nbd ntp 0 nsn 0 ((rowB p) &&& (rowB i)) (by first | exact and_lt (by decide) | exact and_ltl (rowB_lt _) | exact rowB_lt _ | omega)) [0, 2] rfl rfl 0 rfl rfl rfl (Nat.le_of_ble_eq_true rfl) (by decide) (Nat.le_refl _) (Nat.le_refl _) ?_
      refine x_istore (lv' := [some (.ref aN), some (.int (nI p)), some (.long pot), none, some (.long (gaR ru pot cr p i)), none, some (.int (nI i)), some (.int (nI (popN ((rowB p) &&& (rowB i)))))]) dX9_getsAll_36 (xlt rfl) rfl ?_
      refine x_iload dX9_getsAll_38 rfl ?_
      refine x_iconst 1 dX9_getsAll_40 (by decide) ?_
      refine x_icmp_le dX9_getsAll_41 (fun c41 => ?_) (fun c41 => ?_)
      · have c41 : (nI (popN ((rowB p) &&& (rowB i)))) ≤ 1 := c41
        have c41n := (nI_leI (a := (popN ((rowB p) &&& (rowB i)))) (b := 1) (by omega) (by omega)).mp c41
        refine x_iinc (lv' := [some (.ref aN), some (.int (nI p)), some (.long pot), none, some (.long (gaR ru pot cr p i)), none, some (.int (nI (i + 1))), some (.int (nI (popN ((rowB p) &&& (rowB i)))))]) (nI (i + 1)) dX9_getsAll_78 rfl (nI_addc i 1 rfl) rfl ?_
        refine x_goto dX9_getsAll_81 ?_
        refine x_fgt (lv' := [some (.ref aN), some (.int (nI p)), some (.long pot), none, some (.long (gaR ru pot cr p i)), none, some (.int (nI (i + 1))), none]) ⟨Or.inr rfl, Or.inr rfl, Or.inr rfl, Or.inl rfl, Or.inr rfl, Or.inl rfl, Or.inr rfl, Or.inl rfl, trivial⟩ ?_
        exact ih10 (by omega) _ (by simp only [gaR, sumL]; first | rw [if_pos (by omega), Int64.add_zero] | rw [if_neg (by omega)])
      · have c41 : ¬ ((nI (popN ((rowB p) &&& (rowB i)))) ≤ 1) := c41
        have c41n := mt (nI_leI (a := (popN ((rowB p) &&& (rowB i)))) (b := 1) (by omega) (by omega)).mpr c41
        refine x_lload dX9_getsAll_44 rfl ?_
        refine x_aload_n dX9_getsAll_46 rfl ?_
        refine x_aload_n dX9_getsAll_47 rfl ?_
        refine x_lload_n dX9_getsAll_48 rfl ?_
        refine x_iload dX9_getsAll_49 rfl ?_
        refine x_cVl0 dX9_getsAll_51 ml_X9_212 mX9_shareOf (ct_X9_shareOf κ.2.1 g aN aNs aNk aNf aNr aNp aNb aNa aNt aNbo aNsz aNnu aNl aNal aNlo aNw aNtr aNis aNbg aNow nts nta nop npr nac nkp nbd ntp 0 nsn 0 gr wk lk sz br z ru ki ma bb hd ce pot (popN ((rowB p) &&& (rowB i))) (by omega)) [0, 5] rfl rfl 0 rfl rfl rfl (Nat.le_of_ble_eq_true rfl) (by decide) (Nat.le_refl _) (Nat.le_refl _) ?_
        refine x_aload_n dX9_getsAll_54 rfl ?_
        refine x_get dX9_getsAll_55 0 25 inX9 fl_X9_63 rfl rfl (by decide) rfl ?_
        refine x_iconst 3 dX9_getsAll_58 (by decide) ?_
        refine x_iload dX9_getsAll_59 rfl ?_
        refine x_imul dX9_getsAll_61 ?_
        refine x_rei (nI (3 * i)) (nI_imul 3 i) ?_
        refine x_iload dX9_getsAll_62 rfl ?_
        refine x_iadd dX9_getsAll_64 ?_
        refine x_rei (nI ((3 * i) + (popN ((rowB p) &&& (rowB i))))) (nI_iadd (3 * i) (popN ((rowB p) &&& (rowB i)))) ?_
        refine x_iconst 2 dX9_getsAll_65 (by decide) ?_
        refine x_isub dX9_getsAll_66 ?_
        refine x_rei (nI (((3 * i) + (popN ((rowB p) &&& (rowB i)))) - 2)) (nI_isub ((3 * i) + (popN ((rowB p) &&& (rowB i)))) 2 (by omega)) ?_
        refine x_iald dX9_getsAll_67 4 (((3 * i) + (popN ((rowB p) &&& (rowB i)))) - 2) rfl (rfl) (by omega) (by decide) ?_
        refine x_rei (nI (winN cr (rowB i) (popN (rowB p &&& rowB i)))) (congrArg nI (wiF_at _ _ (by omega) (by omega))) ?_
        refine x_iconst 1 dX9_getsAll_68 (by decide) ?_
        refine x_iadd dX9_getsAll_69 ?_
        refine x_rei (nI ((winN cr (rowB i) (popN (rowB p &&& rowB i))) + 1)) (nI_addc (winN cr (rowB i) (popN (rowB p &&& rowB i))) 1 rfl) ?_
        refine x_i2l dX9_getsAll_70 ?_
        refine x_ldiv dX9_getsAll_71 (i64_ne0 (by rw [nI_le0 (show winN cr (rowB i) (popN (rowB p &&& rowB i)) + 1 < 2 ^ 31 by omega)]; omega)) ?_
        refine x_cVl0 dX9_getsAll_72 ml_X9_225 mX9_taxed (ct_X9_taxed κ.2.1 g aN aNs aNk aNf aNr aNp aNb aNa aNt aNbo aNsz aNnu aNl aNal aNlo aNw aNtr aNis aNbg aNow nts nta nop npr nac nkp nbd ntp 0 nsn 0 gr wk lk sz br z ru ki ma bb hd ce ((partL ru (popN ((rowB p) &&& (rowB i))) pot) / ((nI ((winN cr (rowB i) (popN (rowB p &&& rowB i))) + 1)).toInt64))) [0, 5] rfl rfl 0 rfl rfl rfl (Nat.le_of_ble_eq_true rfl) (by decide) (Nat.le_refl _) (Nat.le_refl _) ?_
        refine x_ladd dX9_getsAll_75 ?_
        refine x_lstore (lv' := [some (.ref aN), some (.int (nI p)), some (.long pot), none, some (.long ((gaR ru pot cr p i) + (txR ru ((partL ru (popN ((rowB p) &&& (rowB i))) pot) / ((nI ((winN cr (rowB i) (popN (rowB p &&& rowB i))) + 1)).toInt64))))), none, some (.int (nI i)), some (.int (nI (popN ((rowB p) &&& (rowB i)))))]) dX9_getsAll_76 (xlt rfl) rfl ?_
        refine x_iinc (lv' := [some (.ref aN), some (.int (nI p)), some (.long pot), none, some (.long ((gaR ru pot cr p i) + (txR ru ((partL ru (popN ((rowB p) &&& (rowB i))) pot) / ((nI ((winN cr (rowB i) (popN (rowB p &&& rowB i))) + 1)).toInt64))))), none, some (.int (nI (i + 1))), some (.int (nI (popN ((rowB p) &&& (rowB i)))))]) (nI (i + 1)) dX9_getsAll_78 rfl (nI_addc i 1 rfl) rfl ?_
        refine x_goto dX9_getsAll_81 ?_
        refine x_fgt (lv' := [some (.ref aN), some (.int (nI p)), some (.long pot), none, some (.long ((gaR ru pot cr p i) + (txR ru ((partL ru (popN ((rowB p) &&& (rowB i))) pot) / ((nI ((winN cr (rowB i) (popN (rowB p &&& rowB i))) + 1)).toInt64))))), none, some (.int (nI (i + 1))), none]) ⟨Or.inr rfl, Or.inr rfl, Or.inr rfl, Or.inl rfl, Or.inr rfl, Or.inl rfl, Or.inr rfl, Or.inl rfl, trivial⟩ ?_
        exact ih10 (by omega) _ (by simp only [gaR, sumL]; first | rw [if_pos (by omega), Int64.add_zero] | rw [if_neg (by omega)])
  exact L10_1 0 (Nat.zero_le _) _ (by rfl)

-- == X9_worthOf ==
theorem dX9_worthOf_0 : xd cX9_worthOf 0 (.aload_n 0) 1 1 := ⟨by decide +kernel, rfl⟩
theorem dX9_worthOf_1 : xd cX9_worthOf 1 (.iload_n 1) 1 2 := ⟨by decide +kernel, rfl⟩
theorem dX9_worthOf_2 : xd cX9_worthOf 2 (.lload_n 2) 1 3 := ⟨by decide +kernel, rfl⟩
theorem dX9_worthOf_3 : xd cX9_worthOf 3 (.invokevirtual 229) 3 6 := ⟨by decide +kernel, rfl⟩
theorem dX9_worthOf_6 : xd cX9_worthOf 6 (.ldc2_w 233) 3 9 := ⟨by decide +kernel, rfl⟩
theorem dX9_worthOf_9 : xd cX9_worthOf 9 .ldiv 1 10 := ⟨by decide +kernel, rfl⟩
theorem dX9_worthOf_10 : xd cX9_worthOf 10 .l2i 1 11 := ⟨by decide +kernel, rfl⟩
theorem dX9_worthOf_11 : xd cX9_worthOf 11 .ireturn 1 12 := ⟨by decide +kernel, rfl⟩

set_option maxRecDepth 100000 in
set_option maxHeartbeats 4000000 in
theorem ct_X9_worthOf (l : Launch) (g : XG) (aN aNs aNk aNf aNr aNp aNb aNa aNt aNbo aNsz aNnu aNl aNal aNlo aNw aNtr aNis aNbg aNow nts nta nop npr nac : Nat) (nkp nbd ntp nsn nwn : Int32) (cr nwi : Nat → Nat) (gr wk lk sz br : Nat) (z : Int32) (ru ki ma bb hd : Nat → Nat) (ce : Nat → Int32) (p : Nat) (pot : Int64) (hwc : nwn = 1 ∨ (nwn = 0 ∧ nwi = wiF cr)) (hp : p < 495) (htot : sumN cr 495 < 2 ^ 30) : Ct l g 30 0 0 yX9_worthOf cX9_worthOf 4 (some .int) [.ref aN, .int (nI p), .long pot] [(aN, .inr (9, [.ref aNs, .ref aNk, .int nkp, .ref aNf, .ref aNr, .ref aNp, .ref aNb, .ref aNa, .ref aNt, .int (nI nts), .ref aNbo, .ref aNsz, .ref aNnu, .int (nI nta), .int (nI nop), .int nbd, .int ntp, .int (nI npr), .int 0, .int nsn, .int nwn, .ref aNl, .ref aNal, .ref aNlo, .int (nI nac), .ref aNw, .ref aNtr, .ref aNis, .ref aNbg, .ref aNow])), (aNr, .inl (g.2.1 0, 495, .inl (nIf rowB))), (aNb, .inl (g.2.1 0, 4096, .inl (nIf popN))), (aNal, .inl (g.2.1 0, 495, .inl (nIf cr))), (aNw, .inl (g.2.1 0, 1485, .inl (nIf nwi))), (aNs, .inl (g.2.1 0, 919, .inl (msF gr wk z lk sz br ru ki ma bb ce hd)))] (xpi (woR ru pot cr p) [(aN, .inr (9, [.ref aNs, .ref aNk, .int nkp, .ref aNf, .ref aNr, .ref aNp, .ref aNb, .ref aNa, .ref aNt, .int (nI nts), .ref aNbo, .ref aNsz, .ref aNnu, .int (nI nta), .int (nI nop), .int nbd, .int ntp, .int (nI npr), .int 0, .int nsn, .int 0, .ref aNl, .ref aNal, .ref aNlo, .int (nI nac), .ref aNw, .ref aNtr, .ref aNis, .ref aNbg, .ref aNow])), (aNr, .inl (g.2.1 0, 495, .inl (nIf rowB))), (aNb, .inl (g.2.1 0, 4096, .inl (nIf popN))), (aNal, .inl (g.2.1 0, 495, .inl (nIf cr))), (aNw, .inl (g.2.1 0, 1485, .inl (nIf (wiF cr)))), (aNs, .inl (g.2.1 0, 919, .inl (msF gr wk z lk sz br ru ki ma bb ce hd)))]) := by
  refine Ct.ofX (lv := [some (.ref aN), some (.int (nI p)), some (.long pot), none]) (by decide) rfl (Nat.le_of_ble_eq_true rfl) (fun κ => ?_)
  generalize hQ : xQ κ g 0 0 _ = Q
  refine x_aload_n dX9_worthOf_0 rfl ?_
  refine x_iload_n dX9_worthOf_1 rfl ?_
  refine x_lload_n dX9_worthOf_2 rfl ?_
  refine x_cVl (ws' := [(aN, .inr (9, [.ref aNs, .ref aNk, .int nkp, .ref aNf, .ref aNr, .ref aNp, .ref aNb, .ref aNa, .ref aNt, .int (nI nts), .ref aNbo, .ref aNsz, .ref aNnu, .int (nI nta), .int (nI nop), .int nbd, .int ntp, .int (nI npr), .int 0, .int nsn, .int 0, .ref aNl, .ref aNal, .ref aNlo, .int (nI nac), .ref aNw, .ref aNtr, .ref aNis, .ref aNbg, .ref aNow])), (aNr, .inl (g.2.1 0, 495, .inl (nIf rowB))), (aNb, .inl (g.2.1 0, 4096, .inl (nIf popN))), (aNal, .inl (g.2.1 0, 495, .inl (nIf cr))), (aNw, .inl (g.2.1 0, 1485, .inl (nIf (wiF cr)))), (aNs, .inl (g.2.1 0, 919, .inl (msF gr wk z lk sz br ru ki ma bb ce hd)))]) dX9_worthOf_3 ml_X9_229 mX9_getsAll (ct_X9_getsAll κ.2.1 g aN aNs aNk aNf aNr aNp aNb aNa aNt aNbo aNsz aNnu aNl aNal aNlo aNw aNtr aNis aNbg aNow nts nta nop npr nac nkp nbd ntp nsn nwn cr nwi gr wk lk sz br z ru ki ma bb hd ce p pot (hwc) (hp) (htot)) [0, 1, 2, 3, 4, 5] rfl rfl 0 rfl rfl rfl (Nat.le_of_ble_eq_true rfl) (by decide) (Nat.le_refl _) (Nat.le_refl _) (rfl : [aN, aNr, aNb, aNal, aNw, aNs] = [aN, aNr, aNb, aNal, aNw, aNs]) rfl ?_
  refine x_ldc2 dX9_worthOf_6 kl_X9_233 ?_
  refine x_ldiv dX9_worthOf_9 (by decide) ?_
  refine x_l2i dX9_worthOf_10 ?_
  rw [← hQ]
  refine x_iret dX9_worthOf_11 rfl (Nat.le_of_ble_eq_true rfl) (Nat.le_of_ble_eq_true rfl) ?_
  exact ⟨rfl, rfl⟩

