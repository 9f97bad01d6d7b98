
-- == nfeed_b ==
theorem dX9_feed_0 : xd cX9_feed 0 (.iload_n 2) 1 1 := ⟨by decide +kernel, rfl⟩
theorem dX9_feed_1 : xd cX9_feed 1 .i2l 1 2 := ⟨by decide +kernel, rfl⟩
theorem dX9_feed_2 : xd cX9_feed 2 (.lconst 1) 1 3 := ⟨by decide +kernel, rfl⟩
theorem dX9_feed_3 : xd cX9_feed 3 (.ldc2_w 173) 3 6 := ⟨by decide +kernel, rfl⟩
theorem dX9_feed_6 : xd cX9_feed 6 (.invokestatic 98) 3 9 := ⟨by decide +kernel, rfl⟩
theorem dX9_feed_9 : xj cX9_feed 9 (.ifCond .ne) 12 19 := ⟨10, by decide +kernel, rfl, by decide⟩
theorem dX9_feed_12 : xd cX9_feed 12 (.aload_n 0) 1 13 := ⟨by decide +kernel, rfl⟩
theorem dX9_feed_13 : xd cX9_feed 13 (.ldc 87) 2 15 := ⟨by decide +kernel, rfl⟩
theorem dX9_feed_15 : xd cX9_feed 15 (.invokevirtual 88) 3 18 := ⟨by decide +kernel, rfl⟩
theorem dX9_feed_18 : xd cX9_feed 18 .ireturn 1 19 := ⟨by decide +kernel, rfl⟩
theorem dX9_feed_19 : xd cX9_feed 19 (.aload_n 0) 1 20 := ⟨by decide +kernel, rfl⟩
theorem dX9_feed_20 : xd cX9_feed 20 (.getfield 115) 3 23 := ⟨by decide +kernel, rfl⟩
theorem dX9_feed_23 : xd cX9_feed 23 (.iload_n 2) 1 24 := ⟨by decide +kernel, rfl⟩
theorem dX9_feed_24 : xd cX9_feed 24 .iadd 1 25 := ⟨by decide +kernel, rfl⟩
theorem dX9_feed_25 : xd cX9_feed 25 (.bipush 60) 2 27 := ⟨by decide +kernel, rfl⟩
theorem dX9_feed_27 : xj cX9_feed 27 (.if_icmp .le) 30 37 := ⟨10, by decide +kernel, rfl, by decide⟩
theorem dX9_feed_30 : xd cX9_feed 30 (.aload_n 0) 1 31 := ⟨by decide +kernel, rfl⟩
theorem dX9_feed_31 : xd cX9_feed 31 (.ldc 104) 2 33 := ⟨by decide +kernel, rfl⟩
theorem dX9_feed_33 : xd cX9_feed 33 (.invokevirtual 88) 3 36 := ⟨by decide +kernel, rfl⟩
theorem dX9_feed_36 : xd cX9_feed 36 .ireturn 1 37 := ⟨by decide +kernel, rfl⟩
theorem dX9_feed_37 : xd cX9_feed 37 (.iload_n 2) 1 38 := ⟨by decide +kernel, rfl⟩
theorem dX9_feed_38 : xd cX9_feed 38 (.iconst 1) 1 39 := ⟨by decide +kernel, rfl⟩
theorem dX9_feed_39 : xd cX9_feed 39 .isub 1 40 := ⟨by decide +kernel, rfl⟩
theorem dX9_feed_40 : xd cX9_feed 40 (.istore_n 3) 1 41 := ⟨by decide +kernel, rfl⟩
theorem dX9_feed_41 : xd cX9_feed 41 (.iload_n 3) 1 42 := ⟨by decide +kernel, rfl⟩
theorem dX9_feed_42 : xj cX9_feed 42 (.ifCond .lt) 45 80 := ⟨38, by decide +kernel, rfl, by decide⟩
theorem dX9_feed_45 : xd cX9_feed 45 (.aload_n 0) 1 46 := ⟨by decide +kernel, rfl⟩
theorem dX9_feed_46 : xd cX9_feed 46 (.getfield 31) 3 49 := ⟨by decide +kernel, rfl⟩
theorem dX9_feed_49 : xd cX9_feed 49 (.aload_n 0) 1 50 := ⟨by decide +kernel, rfl⟩
theorem dX9_feed_50 : xd cX9_feed 50 (.getfield 115) 3 53 := ⟨by decide +kernel, rfl⟩
theorem dX9_feed_53 : xd cX9_feed 53 (.iload_n 1) 1 54 := ⟨by decide +kernel, rfl⟩
theorem dX9_feed_54 : xd cX9_feed 54 (.bipush 8) 2 56 := ⟨by decide +kernel, rfl⟩
theorem dX9_feed_56 : xd cX9_feed 56 (.iload_n 3) 1 57 := ⟨by decide +kernel, rfl⟩
theorem dX9_feed_57 : xd cX9_feed 57 .imul 1 58 := ⟨by decide +kernel, rfl⟩
theorem dX9_feed_58 : xd cX9_feed 58 .ishr 1 59 := ⟨by decide +kernel, rfl⟩
theorem dX9_feed_59 : xd cX9_feed 59 (.sipush 255) 3 62 := ⟨by decide +kernel, rfl⟩
theorem dX9_feed_62 : xd cX9_feed 62 .iand 1 63 := ⟨by decide +kernel, rfl⟩
theorem dX9_feed_63 : xd cX9_feed 63 .iastore 1 64 := ⟨by decide +kernel, rfl⟩
theorem dX9_feed_64 : xd cX9_feed 64 (.aload_n 0) 1 65 := ⟨by decide +kernel, rfl⟩
theorem dX9_feed_65 : xd cX9_feed 65 .dup 1 66 := ⟨by decide +kernel, rfl⟩
theorem dX9_feed_66 : xd cX9_feed 66 (.getfield 115) 3 69 := ⟨by decide +kernel, rfl⟩
theorem dX9_feed_69 : xd cX9_feed 69 (.iconst 1) 1 70 := ⟨by decide +kernel, rfl⟩
theorem dX9_feed_70 : xd cX9_feed 70 .iadd 1 71 := ⟨by decide +kernel, rfl⟩
theorem dX9_feed_71 : xd cX9_feed 71 (.putfield 115) 3 74 := ⟨by decide +kernel, rfl⟩
theorem dX9_feed_74 : xd cX9_feed 74 (.iinc 3 (-1)) 3 77 := ⟨by decide +kernel, rfl⟩
theorem dX9_feed_77 : xj cX9_feed 77 .goto 80 41 := ⟨(-36), by decide +kernel, rfl, by decide⟩
theorem dX9_feed_80 : xd cX9_feed 80 (.aload_n 0) 1 81 := ⟨by decide +kernel, rfl⟩
theorem dX9_feed_81 : xd cX9_feed 81 (.getfield 115) 3 84 := ⟨by decide +kernel, rfl⟩
theorem dX9_feed_84 : xd cX9_feed 84 .ireturn 1 85 := ⟨by decide +kernel, rfl⟩

set_option maxRecDepth 100000 in
set_option maxHeartbeats 4000000 in
theorem ct_nfeed_b (l : Launch) (g : XG) (aN aNs aNk aNf aNr aNp aNb aNa aNt aNbo aNsz aNnu aNl aNal aNlo aNw aNtr aNis aNbg aNow nts nta nop npr nac : Nat) (nkp nbd ntp nnw nsn nwn : Int32) (fi : Nat → Nat) (bb n : Int32) (hb : wI n 1 4 = 0) : Ct l g 34 0 0 yX9_feed cX9_feed 4 (some .int) [.ref aN, .int bb, .int n] [(aN, .inr (9, [.ref aNs, .ref aNk, .int nkp, .ref aNf, .ref aNr, .ref aNp, .ref aNb, .ref aNa, .ref aNt, .int (nI nts), .ref aNbo, .ref aNsz, .ref aNnu, .int (nI nta), .int (nI nop), .int nbd, .int ntp, .int (nI npr), .int nnw, .int nsn, .int nwn, .ref aNl, .ref aNal, .ref aNlo, .int (nI nac), .ref aNw, .ref aNtr, .ref aNis, .ref aNbg, .ref aNow])), (aNf, .inl (g.2.1 0, 8, .inl (nIf (fnF fi))))] (xpi (fndI 0) [(aN, .inr (9, [.ref aNs, .ref aNk, .int nkp, .ref aNf, .ref aNr, .ref aNp, .ref aNb, .ref aNa, .ref aNt, .int (nI nts), .ref aNbo, .ref aNsz, .ref aNnu, .int (nI nta), .int (nI nop), .int nbd, .int ntp, .int (nI npr), .int nnw, .int nsn, .int nwn, .ref aNl, .ref aNal, .ref aNlo, .int (nI nac), .ref aNw, .ref aNtr, .ref aNis, .ref aNbg, .ref aNow])), (aNf, .inl (g.2.1 0, 8, .inl (nIf (fnF (updN fi 0 (fi 0 + 1))))))]) := by
  refine Ct.ofX (lv := [some (.ref aN), some (.int bb), some (.int n), none]) (by decide) rfl (Nat.le_of_ble_eq_true rfl) (fun κ => ?_)
  generalize hQ : xQ κ g 0 0 _ = Q
  refine x_iload_n dX9_feed_0 rfl ?_
  refine x_i2l dX9_feed_1 ?_
  refine x_lconst 1 dX9_feed_2 (by decide) ?_
  refine x_ldc2 dX9_feed_3 kl_X9_173 ?_
  refine x_cSi dX9_feed_6 ml_X9_98 mX9_isIn (ct_X9_isIn κ.2.1 g n.toInt64 1 4) rfl (Nat.le_of_ble_eq_true rfl) (by decide) (Nat.le_refl _) (Nat.le_refl _) ?_
  refine x_rei (wI n 1 4) (inL_w n 1 4 (by first | rfl | decide) (by first | rfl | decide)) ?_
  refine x_if_ne dX9_feed_9 (fun c9 => ?_) (fun c9 => ?_)
  · have c9 : ¬ ((wI n 1 4) = 0) := c9
    exact absurd hb c9
  · have c9 : (wI n 1 4) = 0 := c9
    refine x_aload_n dX9_feed_12 rfl ?_
    refine x_ldc dX9_feed_13 k_X9_87 ?_
    refine x_cVi (ws' := [(aN, .inr (9, [.ref aNs, .ref aNk, .int nkp, .ref aNf, .ref aNr, .ref aNp, .ref aNb, .ref aNa, .ref aNt, .int (nI nts), .ref aNbo, .ref aNsz, .ref aNnu, .int (nI nta), .int (nI nop), .int nbd, .int ntp, .int (nI npr), .int nnw, .int nsn, .int nwn, .ref aNl, .ref aNal, .ref aNlo, .int (nI nac), .ref aNw, .ref aNtr, .ref aNis, .ref aNbg, .ref aNow])), (aNf, .inl (g.2.1 0, 8, .inl (nIf (fnF (updN fi 0 (fi 0 + 1))))))]) dX9_feed_15 ml_X9_88 mX9_finds (ct_finds_0 κ.2.1 g aN aNs aNk aNf aNr aNp aNb aNa aNt aNbo aNsz aNnu aNl aNal aNlo aNw aNtr aNis aNbg aNow nts nta nop npr nac nkp nbd ntp nnw nsn nwn fi) [0, 1] rfl rfl 0 rfl rfl rfl (Nat.le_of_ble_eq_true rfl) (by decide) (Nat.le_refl _) (Nat.le_refl _) (rfl : [aN, aNf] = [aN, aNf]) rfl ?_
    rw [← hQ]
    refine x_iret dX9_feed_18 rfl (Nat.le_of_ble_eq_true rfl) (Nat.le_of_ble_eq_true rfl) ?_
    exact ⟨rfl, rfl⟩

-- == nfeed_f ==
set_option maxRecDepth 100000 in
set_option maxHeartbeats 4000000 in
theorem ct_nfeed_f (l : Launch) (g : XG) (aN aNs aNk aNf aNr aNp aNb aNa aNt aNbo aNsz aNnu aNl aNal aNlo aNw aNtr aNis aNbg aNow nts nta nop npr nac : Nat) (nkp nbd ntp nnw nsn nwn : Int32) (fi : Nat → Nat) (bb : Int32) (n : Nat) (hn : 1 ≤ n ∧ n ≤ 4) (hts : nts ≤ 60) (hf : 60 < nts + n) : Ct l g 34 0 0 yX9_feed cX9_feed 4 (some .int) [.ref aN, .int bb, .int (nI n)] [(aN, .inr (9, [.ref aNs, .ref aNk, .int nkp, .ref aNf, .ref aNr, .ref aNp, .ref aNb, .ref aNa, .ref aNt, .int (nI nts), .ref aNbo, .ref aNsz, .ref aNnu, .int (nI nta), .int (nI nop), .int nbd, .int ntp, .int (nI npr), .int nnw, .int nsn, .int nwn, .ref aNl, .ref aNal, .ref aNlo, .int (nI nac), .ref aNw, .ref aNtr, .ref aNis, .ref aNbg, .ref aNow])), (aNf, .inl (g.2.1 0, 8, .inl (nIf (fnF fi))))] (xpi (fndI 1) [(aN, .inr (9, [.ref aNs, .ref aNk, .int nkp, .ref aNf, .ref aNr, .ref aNp, .ref aNb, .ref aNa, .ref aNt, .int (nI nts), .ref aNbo, .ref aNsz, .ref aNnu, .int (nI nta), .int (nI nop), .int nbd, .int ntp, .int (nI npr), .int nnw, .int nsn, .int nwn, .ref aNl, .ref aNal, .ref aNlo, .int (nI nac), .ref aNw, .ref aNtr, .ref aNis, .ref aNbg, .ref aNow])), (aNf, .inl (g.2.1 0, 8, .inl (nIf (fnF (updN fi 1 (fi 1 + 1))))))]) := by
  refine Ct.ofX (lv := [some (.ref aN), some (.int bb), some (.int (nI n)), none]) (by decide) rfl (Nat.le_of_ble_eq_true rfl) (fun κ => ?_)
  generalize hQ : xQ κ g 0 0 _ = Q
  refine x_iload_n dX9_feed_0 rfl ?_
  refine x_i2l dX9_feed_1 ?_
  refine x_lconst 1 dX9_feed_2 (by decide) ?_
  refine x_ldc2 dX9_feed_3 kl_X9_173 ?_
  refine x_cSi dX9_feed_6 ml_X9_98 mX9_isIn (ct_X9_isIn κ.2.1 g ((nI n).toInt64) 1 4) rfl (Nat.le_of_ble_eq_true rfl) (by decide) (Nat.le_refl _) (Nat.le_refl _) ?_
  refine x_rei (wI (nI n) 1 4) (inL_w (nI n) 1 4 (by first | rfl | decide) (by first | rfl | decide)) ?_
  refine x_rei 1 (show wI (nI n) 1 4 = 1 from wI_nat (n := n) (a := 1) (b := 4) ⟨by omega, by omega, by omega, by omega⟩) ?_
  refine x_if_ne dX9_feed_9 (fun c9 => ?_) (fun c9 => ?_)
  rotate_left
  · exact absurd c9 (by decide)
  refine x_aload_n dX9_feed_19 rfl ?_
  refine x_get dX9_feed_20 0 9 inX9 fl_X9_115 rfl rfl (by decide) rfl ?_
  refine x_iload_n dX9_feed_23 rfl ?_
  refine x_iadd dX9_feed_24 ?_
  refine x_rei (nI (nts + n)) (nI_iadd nts n) ?_
  refine x_bipush 60 dX9_feed_25 (by decide) ?_
  refine x_icmp_le dX9_feed_27 (fun c27 => ?_) (fun c27 => ?_)
  · have c27 : (nI (nts + n)) ≤ 60 := c27
    have c27n := (nI_leI (a := (nts + n)) (b := 60) (by omega) (by omega)).mp c27
    exact absurd c27n (by omega)
  · have c27 : ¬ ((nI (nts + n)) ≤ 60) := c27
    have c27n := mt (nI_leI (a := (nts + n)) (b := 60) (by omega) (by omega)).mpr c27
    refine x_aload_n dX9_feed_30 rfl ?_
    refine x_ldc dX9_feed_31 k_X9_104 ?_
    refine x_cVi (ws' := [(aN, .inr (9, [.ref aNs, .ref aNk, .int nkp, .ref aNf, .ref aNr, .ref aNp, .ref aNb, .ref aNa, .ref aNt, .int (nI nts), .ref aNbo, .ref aNsz, .ref aNnu, .int (nI nta), .int (nI nop), .int nbd, .int ntp, .int (nI npr), .int nnw, .int nsn, .int nwn, .ref aNl, .ref aNal, .ref aNlo, .int (nI nac), .ref aNw, .ref aNtr, .ref aNis, .ref aNbg, .ref aNow])), (aNf, .inl (g.2.1 0, 8, .inl (nIf (fnF (updN fi 1 (fi 1 + 1))))))]) dX9_feed_33 ml_X9_88 mX9_finds (ct_finds_1 κ.2.1 g aN aNs aNk aNf aNr aNp aNb aNa aNt aNbo aNsz aNnu aNl aNal aNlo aNw aNtr aNis aNbg aNow nts nta nop npr nac nkp nbd ntp nnw nsn nwn fi) [0, 1] rfl rfl 0 rfl rfl rfl (Nat.le_of_ble_eq_true rfl) (by decide) (Nat.le_refl _) (Nat.le_refl _) (rfl : [aN, aNf] = [aN, aNf]) rfl ?_
    rw [← hQ]
    refine x_iret dX9_feed_36 rfl (Nat.le_of_ble_eq_true rfl) (Nat.le_of_ble_eq_true rfl) ?_
    exact ⟨rfl, rfl⟩

-- == nfeed_1 ==
set_option maxRecDepth 100000 in
set_option maxHeartbeats 4000000 in
theorem ct_nfeed_1 (l : Launch) (g : XG) (aN aNs aNk aNf aNr aNp aNb aNa aNt aNbo aNsz aNnu aNl aNal aNlo aNw aNtr aNis aNbg aNow nts nta nop npr nac : Nat) (nkp nbd ntp nnw nsn nwn : Int32) (tb : Nat → Nat) (bb : Int32) (hf : nts + 1 ≤ 60) : Ct l g 34 0 0 yX9_feed cX9_feed 4 (some .int) [.ref aN, .int bb, .int 1] [(aN, .inr (9, [.ref aNs, .ref aNk, .int nkp, .ref aNf, .ref aNr, .ref aNp, .ref aNb, .ref aNa, .ref aNt, .int (nI nts), .ref aNbo, .ref aNsz, .ref aNnu, .int (nI nta), .int (nI nop), .int nbd, .int ntp, .int (nI npr), .int nnw, .int nsn, .int nwn, .ref aNl, .ref aNal, .ref aNlo, .int (nI nac), .ref aNw, .ref aNtr, .ref aNis, .ref aNbg, .ref aNow])), (aNt, .inl (g.2.1 0, 60, .inl (nIf tb)))] (xpi (nI (nts + 1)) [(aN, .inr (9, [.ref aNs, .ref aNk, .int nkp, .ref aNf, .ref aNr, .ref aNp, .ref aNb, .ref aNa, .ref aNt, .int (nI (nts + 1)), .ref aNbo, .ref aNsz, .ref aNnu, .int (nI nta), .int (nI nop), .int nbd, .int ntp, .int (nI npr), .int nnw, .int nsn, .int nwn, .ref aNl, .ref aNal, .ref aNlo, .int (nI nac), .ref aNw, .ref aNtr, .ref aNis, .ref aNbg, .ref aNow])), (aNt, .inl (g.2.1 0, 60, .inl (nIf (updN (tb) (nts) (byN bb 0)))))]) := by
  refine Ct.ofX (lv := [some (.ref aN), some (.int bb), some (.int 1), none]) (by decide) rfl (Nat.le_of_ble_eq_true rfl) (fun κ => ?_)
  generalize hQ : xQ κ g 0 0 _ = Q
  refine x_iload_n dX9_feed_0 rfl ?_
  refine x_i2l dX9_feed_1 ?_
  refine x_lconst 1 dX9_feed_2 (by decide) ?_
  refine x_ldc2 dX9_feed_3 kl_X9_173 ?_
  refine x_cSi dX9_feed_6 ml_X9_98 mX9_isIn (ct_X9_isIn κ.2.1 g ((1 : Int32).toInt64) 1 4) rfl (Nat.le_of_ble_eq_true rfl) (by decide) (Nat.le_refl _) (Nat.le_refl _) ?_
  refine x_rei (1) (by decide) ?_
  refine x_if_ne dX9_feed_9 (fun c9 => ?_) (fun c9 => ?_)
  rotate_left
  · exact absurd c9 (by decide)
  refine x_aload_n dX9_feed_19 rfl ?_
  refine x_get dX9_feed_20 0 9 inX9 fl_X9_115 rfl rfl (by decide) rfl ?_
  refine x_iload_n dX9_feed_23 rfl ?_
  refine x_iadd dX9_feed_24 ?_
  refine x_rei (nI (nts + 1)) (nI_addc nts 1 rfl) ?_
  refine x_bipush 60 dX9_feed_25 (by decide) ?_
  refine x_icmp_le dX9_feed_27 (fun c27 => ?_) (fun c27 => ?_)
  · have c27 : (nI (nts + 1)) ≤ 60 := c27
    have c27n := (nI_leI (a := (nts + 1)) (b := 60) (by omega) (by omega)).mp c27
    refine x_iload_n dX9_feed_37 rfl ?_
    refine x_iconst 1 dX9_feed_38 (by decide) ?_
    refine x_isub dX9_feed_39 ?_
    refine x_rei 0 (by decide) ?_
    refine x_istore_n (lv' := [some (.ref aN), some (.int bb), some (.int 1), some (.int 0)]) dX9_feed_40 (xlt rfl) rfl ?_
    refine x_iload_n dX9_feed_41 rfl ?_
    refine x_if_lt dX9_feed_42 (fun c42 => ?_) (fun c42 => ?_)
    · exact absurd c42 (by decide)
    refine x_aload_n dX9_feed_45 rfl ?_
    refine x_get dX9_feed_46 0 8 inX9 fl_X9_31 rfl rfl (by decide) rfl ?_
    refine x_aload_n dX9_feed_49 rfl ?_
    refine x_get dX9_feed_50 0 9 inX9 fl_X9_115 rfl rfl (by decide) rfl ?_
    refine x_iload_n dX9_feed_53 rfl ?_
    refine x_bipush 8 dX9_feed_54 (by decide) ?_
    refine x_iload_n dX9_feed_56 rfl ?_
    refine x_imul dX9_feed_57 ?_
    refine x_rei 0 (by decide) ?_
    refine x_ishr dX9_feed_58 ?_
    refine x_sipush 255 dX9_feed_59 (by decide) ?_
    refine x_iand dX9_feed_62 ?_
    refine x_rei (nI (byN bb 0)) ((byN_eq bb 0).1) ?_
    refine x_rei (nI (byN bb 0)) rfl ?_
    refine x_iast (ws' := [(aN, .inr (9, [.ref aNs, .ref aNk, .int nkp, .ref aNf, .ref aNr, .ref aNp, .ref aNb, .ref aNa, .ref aNt, .int (nI nts), .ref aNbo, .ref aNsz, .ref aNnu, .int (nI nta), .int (nI nop), .int nbd, .int ntp, .int (nI npr), .int nnw, .int nsn, .int nwn, .ref aNl, .ref aNal, .ref aNlo, .int (nI nac), .ref aNw, .ref aNtr, .ref aNis, .ref aNbg, .ref aNow])), (aNt, .inl (g.2.1 0, 60, .inl (nIf (updN tb nts (byN bb 0)))))]) dX9_feed_63 1 nts rfl (rfl) (by omega) (by decide) (by rw [upd_nIf]; rfl) ?_
    refine x_aload_n dX9_feed_64 rfl ?_
    refine x_dup dX9_feed_65 rfl ?_
    refine x_get dX9_feed_66 0 9 inX9 fl_X9_115 rfl rfl (by decide) rfl ?_
    refine x_iconst 1 dX9_feed_69 (by decide) ?_
    refine x_iadd dX9_feed_70 ?_
    refine x_rei (nI (nts + 1)) (nI_addc nts 1 rfl) ?_
    refine x_put (ws' := [(aN, .inr (9, [.ref aNs, .ref aNk, .int nkp, .ref aNf, .ref aNr, .ref aNp, .ref aNb, .ref aNa, .ref aNt, .int (nI (nts + 1)), .ref aNbo, .ref aNsz, .ref aNnu, .int (nI nta), .int (nI nop), .int nbd, .int ntp, .int (nI npr), .int nnw, .int nsn, .int nwn, .ref aNl, .ref aNal, .ref aNlo, .int (nI nac), .ref aNw, .ref aNtr, .ref aNis, .ref aNbg, .ref aNow])), (aNt, .inl (g.2.1 0, 60, .inl (nIf (updN tb nts (byN bb 0)))))]) dX9_feed_71 0 9 inX9 tyX9_ok nmX9 fl_X9_115 rfl rfl (by decide) rfl (rfl) rfl (xlt rfl) rfl ?_
    refine x_iinc (lv' := [some (.ref aN), some (.int bb), some (.int 1), some (.int ((-1)))]) ((-1)) dX9_feed_74 rfl (by decide) rfl ?_
    refine x_goto dX9_feed_77 ?_
    refine x_iload_n dX9_feed_41 rfl ?_
    refine x_if_lt dX9_feed_42 (fun c42 => ?_) (fun c42 => ?_)
    rotate_left
    · exact absurd c42 (by decide)
    refine x_aload_n dX9_feed_80 rfl ?_
    refine x_get dX9_feed_81 0 9 inX9 fl_X9_115 rfl rfl (by decide) rfl ?_
    rw [← hQ]
    refine x_iret dX9_feed_84 rfl (Nat.le_of_ble_eq_true rfl) (Nat.le_of_ble_eq_true rfl) ?_
    exact ⟨rfl, rfl⟩
  · have c27 : ¬ ((nI (nts + 1)) ≤ 60) := c27
    have c27n := mt (nI_leI (a := (nts + 1)) (b := 60) (by omega) (by omega)).mpr c27
    exact absurd c27n (by omega)

-- == nfeed_2 ==
set_option maxRecDepth 100000 in
set_option maxHeartbeats 4000000 in
theorem ct_nfeed_2 (l : Launch) (g : XG) (aN aNs aNk aNf aNr aNp aNb aNa aNt aNbo aNsz aNnu aNl aNal aNlo aNw aNtr aNis aNbg aNow nts nta nop npr nac : Nat) (nkp nbd ntp nnw nsn nwn : Int32) (tb : Nat → Nat) (bb : Int32) (hf : nts + 2 ≤ 60) : Ct l g 34 0 0 yX9_feed cX9_feed 4 (some .int) [.ref aN, .int bb, .int 2] [(aN, .inr (9, [.ref aNs, .ref aNk, .int nkp, .ref aNf, .ref aNr, .ref aNp, .ref aNb, .ref aNa, .ref aNt, .int (nI nts), .ref aNbo, .ref aNsz, .ref aNnu, .int (nI nta), .int (nI nop), .int nbd, .int ntp, .int (nI npr), .int nnw, .int nsn, .int nwn, .ref aNl, .ref aNal, .ref aNlo, .int (nI nac), .ref aNw, .ref aNtr, .ref aNis, .ref aNbg, .ref aNow])), (aNt, .inl (g.2.1 0, 60, .inl (nIf tb)))] (xpi (nI (nts + 1 + 1)) [(aN, .inr (9, [.ref aNs, .ref aNk, .int nkp, .ref aNf, .ref aNr, .ref aNp, .ref aNb, .ref aNa, .ref aNt, .int (nI (nts + 1 + 1)), .ref aNbo, .ref aNsz, .ref aNnu, .int (nI nta), .int (nI nop), .int nbd, .int ntp, .int (nI npr), .int nnw, .int nsn, .int nwn, .ref aNl, .ref aNal, .ref aNlo, .int (nI nac), .ref aNw, .ref aNtr, .ref aNis, .ref aNbg, .ref aNow])), (aNt, .inl (g.2.1 0, 60, .inl (nIf (updN (updN (tb) (nts) (byN bb 8)) (nts + 1) (byN bb 0)))))]) := by
  refine Ct.ofX (lv := [some (.ref aN), some (.int bb), some (.int 2), none]) (by decide) rfl (Nat.le_of_ble_eq_true rfl) (fun κ => ?_)
  generalize hQ : xQ κ g 0 0 _ = Q
  refine x_iload_n dX9_feed_0 rfl ?_
  refine x_i2l dX9_feed_1 ?_
  refine x_lconst 1 dX9_feed_2 (by decide) ?_
  refine x_ldc2 dX9_feed_3 kl_X9_173 ?_
  refine x_cSi dX9_feed_6 ml_X9_98 mX9_isIn (ct_X9_isIn κ.2.1 g ((2 : Int32).toInt64) 1 4) rfl (Nat.le_of_ble_eq_true rfl) (by decide) (Nat.le_refl _) (Nat.le_refl _) ?_
  refine x_rei (1) (by decide) ?_
  refine x_if_ne dX9_feed_9 (fun c9 => ?_) (fun c9 => ?_)
  rotate_left
  · exact absurd c9 (by decide)
  refine x_aload_n dX9_feed_19 rfl ?_
  refine x_get dX9_feed_20 0 9 inX9 fl_X9_115 rfl rfl (by decide) rfl ?_
  refine x_iload_n dX9_feed_23 rfl ?_
  refine x_iadd dX9_feed_24 ?_
  refine x_rei (nI (nts + 2)) (nI_addc nts 2 rfl) ?_
  refine x_bipush 60 dX9_feed_25 (by decide) ?_
  refine x_icmp_le dX9_feed_27 (fun c27 => ?_) (fun c27 => ?_)
  · have c27 : (nI (nts + 2)) ≤ 60 := c27
    have c27n := (nI_leI (a := (nts + 2)) (b := 60) (by omega) (by omega)).mp c27
    refine x_iload_n dX9_feed_37 rfl ?_
    refine x_iconst 1 dX9_feed_38 (by decide) ?_
    refine x_isub dX9_feed_39 ?_
    refine x_rei 1 (by decide) ?_
    refine x_istore_n (lv' := [some (.ref aN), some (.int bb), some (.int 2), some (.int 1)]) dX9_feed_40 (xlt rfl) rfl ?_
    refine x_iload_n dX9_feed_41 rfl ?_
    refine x_if_lt dX9_feed_42 (fun c42 => ?_) (fun c42 => ?_)
    · exact absurd c42 (by decide)
    refine x_aload_n dX9_feed_45 rfl ?_
    refine x_get dX9_feed_46 0 8 inX9 fl_X9_31 rfl rfl (by decide) rfl ?_
    refine x_aload_n dX9_feed_49 rfl ?_
    refine x_get dX9_feed_50 0 9 inX9 fl_X9_115 rfl rfl (by decide) rfl ?_
    refine x_iload_n dX9_feed_53 rfl ?_
    refine x_bipush 8 dX9_feed_54 (by decide) ?_
    refine x_iload_n dX9_feed_56 rfl ?_
    refine x_imul dX9_feed_57 ?_
    refine x_rei 8 (by decide) ?_
    refine x_ishr dX9_feed_58 ?_
    refine x_sipush 255 dX9_feed_59 (by decide) ?_
    refine x_iand dX9_feed_62 ?_
    refine x_rei (nI (byN bb 8)) ((byN_eq bb 8).1) ?_
    refine x_rei (nI (byN bb 8)) rfl ?_
    refine x_iast (ws' := [(aN, .inr (9, [.ref aNs, .ref aNk, .int nkp, .ref aNf, .ref aNr, .ref aNp, .ref aNb, .ref aNa, .ref aNt, .int (nI nts), .ref aNbo, .ref aNsz, .ref aNnu, .int (nI nta), .int (nI nop), .int nbd, .int ntp, .int (nI npr), .int nnw, .int nsn, .int nwn, .ref aNl, .ref aNal, .ref aNlo, .int (nI nac), .ref aNw, .ref aNtr, .ref aNis, .ref aNbg, .ref aNow])), (aNt, .inl (g.2.1 0, 60, .inl (nIf (updN tb nts (byN bb 8)))))]) dX9_feed_63 1 nts rfl (rfl) (by omega) (by decide) (by rw [upd_nIf]; rfl) ?_
    refine x_aload_n dX9_feed_64 rfl ?_
    refine x_dup dX9_feed_65 rfl ?_
    refine x_get dX9_feed_66 0 9 inX9 fl_X9_115 rfl rfl (by decide) rfl ?_
    refine x_iconst 1 dX9_feed_69 (by decide) ?_
    refine x_iadd dX9_feed_70 ?_
    refine x_rei (nI (nts + 1)) (nI_addc nts 1 rfl) ?_
    refine x_put (ws' := [(aN, .inr (9, [.ref aNs, .ref aNk, .int nkp, .ref aNf, .ref aNr, .ref aNp, .ref aNb, .ref aNa, .ref aNt, .int (nI (nts + 1)), .ref aNbo, .ref aNsz, .ref aNnu, .int (nI nta), .int (nI nop), .int nbd, .int ntp, .int (nI npr), .int nnw, .int nsn, .int nwn, .ref aNl, .ref aNal, .ref aNlo, .int (nI nac), .ref aNw, .ref aNtr, .ref aNis, .ref aNbg, .ref aNow])), (aNt, .inl (g.2.1 0, 60, .inl (nIf (updN tb nts (byN bb 8)))))]) dX9_feed_71 0 9 inX9 tyX9_ok nmX9 fl_X9_115 rfl rfl (by decide) rfl (rfl) rfl (xlt rfl) rfl ?_
    refine x_iinc (lv' := [some (.ref aN), some (.int bb), some (.int 2), some (.int 0)]) (0) dX9_feed_74 rfl (by decide) rfl ?_
    refine x_goto dX9_feed_77 ?_
    refine x_iload_n dX9_feed_41 rfl ?_
    refine x_if_lt dX9_feed_42 (fun c42 => ?_) (fun c42 => ?_)
    · exact absurd c42 (by decide)
    refine x_aload_n dX9_feed_45 rfl ?_
    refine x_get dX9_feed_46 0 8 inX9 fl_X9_31 rfl rfl (by decide) rfl ?_
    refine x_aload_n dX9_feed_49 rfl ?_
    refine x_get dX9_feed_50 0 9 inX9 fl_X9_115 rfl rfl (by decide) rfl ?_
    refine x_iload_n dX9_feed_53 rfl ?_
    refine x_bipush 8 dX9_feed_54 (by decide) ?_
    refine x_iload_n dX9_feed_56 rfl ?_
    refine x_imul dX9_feed_57 ?_
    refine x_rei 0 (by decide) ?_
    refine x_ishr dX9_feed_58 ?_
    refine x_sipush 255 dX9_feed_59 (by decide) ?_
    refine x_iand dX9_feed_62 ?_
    refine x_rei (nI (byN bb 0)) ((byN_eq bb 0).1) ?_
    refine x_rei (nI (byN bb 0)) rfl ?_
    refine x_iast (ws' := [(aN, .inr (9, [.ref aNs, .ref aNk, .int nkp, .ref aNf, .ref aNr, .ref aNp, .ref aNb, .ref aNa, .ref aNt, .int (nI (nts + 1)), .ref aNbo, .ref aNsz, .ref aNnu, .int (nI nta), .int (nI nop), .int nbd, .int ntp, .int (nI npr), .int nnw, .int nsn, .int nwn, .ref aNl, .ref aNal, .ref aNlo, .int (nI nac), .ref aNw, .ref aNtr, .ref aNis, .ref aNbg, .ref aNow])), (aNt, .inl (g.2.1 0, 60, .inl (nIf (updN (updN tb nts (byN bb 8)) (nts + 1) (byN bb 0)))))]) dX9_feed_63 1 (nts + 1) rfl (rfl) (by omega) (by decide) (by rw [upd_nIf]; rfl) ?_
    refine x_aload_n dX9_feed_64 rfl ?_
    refine x_dup dX9_feed_65 rfl ?_
    refine x_get dX9_feed_66 0 9 inX9 fl_X9_115 rfl rfl (by decide) rfl ?_
    refine x_iconst 1 dX9_feed_69 (by decide) ?_
    refine x_iadd dX9_feed_70 ?_
    refine x_rei (nI (nts + 1 + 1)) (nI_addc (nts + 1) 1 rfl) ?_
    refine x_put (ws' := [(aN, .inr (9, [.ref aNs, .ref aNk, .int nkp, .ref aNf, .ref aNr, .ref aNp, .ref aNb, .ref aNa, .ref aNt, .int (nI (nts + 1 + 1)), .ref aNbo, .ref aNsz, .ref aNnu, .int (nI nta), .int (nI nop), .int nbd, .int ntp, .int (nI npr), .int nnw, .int nsn, .int nwn, .ref aNl, .ref aNal, .ref aNlo, .int (nI nac), .ref aNw, .ref aNtr, .ref aNis, .ref aNbg, .ref aNow])), (aNt, .inl (g.2.1 0, 60, .inl (nIf (updN (updN tb nts (byN bb 8)) (nts + 1) (byN bb 0)))))]) dX9_feed_71 0 9 inX9 tyX9_ok nmX9 fl_X9_115 rfl rfl (by decide) rfl (rfl) rfl (xlt rfl) rfl ?_
    refine x_iinc (lv' := [some (.ref aN), some (.int bb), some (.int 2), some (.int ((-1)))]) ((-1)) dX9_feed_74 rfl (by decide) rfl ?_
    refine x_goto dX9_feed_77 ?_
    refine x_iload_n dX9_feed_41 rfl ?_
    refine x_if_lt dX9_feed_42 (fun c42 => ?_) (fun c42 => ?_)
    rotate_left
    · exact absurd c42 (by decide)
    refine x_aload_n dX9_feed_80 rfl ?_
    refine x_get dX9_feed_81 0 9 inX9 fl_X9_115 rfl rfl (by decide) rfl ?_
    rw [← hQ]
    refine x_iret dX9_feed_84 rfl (Nat.le_of_ble_eq_true rfl) (Nat.le_of_ble_eq_true rfl) ?_
    exact ⟨rfl, rfl⟩
  · have c27 : ¬ ((nI (nts + 2)) ≤ 60) := c27
    have c27n := mt (nI_leI (a := (nts + 2)) (b := 60) (by omega) (by omega)).mpr c27
    exact absurd c27n (by omega)

-- == nfeed_3 ==
set_option maxRecDepth 100000 in
set_option maxHeartbeats 4000000 in
theorem ct_nfeed_3 (l : Launch) (g : XG) (aN aNs aNk aNf aNr aNp aNb aNa aNt aNbo aNsz aNnu aNl aNal aNlo aNw aNtr aNis aNbg aNow nts nta nop npr nac : Nat) (nkp nbd ntp nnw nsn nwn : Int32) (tb : Nat → Nat) (bb : Int32) (hf : nts + 3 ≤ 60) : Ct l g 34 0 0 yX9_feed cX9_feed 4 (some .int) [.ref aN, .int bb, .int 3] [(aN, .inr (9, [.ref aNs, .ref aNk, .int nkp, .ref aNf, .ref aNr, .ref aNp, .ref aNb, .ref aNa, .ref aNt, .int (nI nts), .ref aNbo, .ref aNsz, .ref aNnu, .int (nI nta), .int (nI nop), .int nbd, .int ntp, .int (nI npr), .int nnw, .int nsn, .int nwn, .ref aNl, .ref aNal, .ref aNlo, .int (nI nac), .ref aNw, .ref aNtr, .ref aNis, .ref aNbg, .ref aNow])), (aNt, .inl (g.2.1 0, 60, .inl (nIf tb)))] (xpi (nI (nts + 1 + 1 + 1)) [(aN, .inr (9, [.ref aNs, .ref aNk, .int nkp, .ref aNf, .ref aNr, .ref aNp, .ref aNb, .ref aNa, .ref aNt, .int (nI (nts + 1 + 1 + 1)), .ref aNbo, .ref aNsz, .ref aNnu, .int (nI nta), .int (nI nop), .int nbd, .int ntp, .int (nI npr), .int nnw, .int nsn, .int nwn, .ref aNl, .ref aNal, .ref aNlo, .int (nI nac), .ref aNw, .ref aNtr, .ref aNis, .ref aNbg, .ref aNow])), (aNt, .inl (g.2.1 0, 60, .inl (nIf (updN (updN (updN (tb) (nts) (byN bb 16)) (nts + 1) (byN bb 8)) (nts + 1 + 1) (byN bb 0)))))]) := by
  refine Ct.ofX (lv := [some (.ref aN), some (.int bb), some (.int 3), none]) (by decide) rfl (Nat.le_of_ble_eq_true rfl) (fun κ => ?_)
  generalize hQ : xQ κ g 0 0 _ = Q
  refine x_iload_n dX9_feed_0 rfl ?_
  refine x_i2l dX9_feed_1 ?_
  refine x_lconst 1 dX9_feed_2 (by decide) ?_
  refine x_ldc2 dX9_feed_3 kl_X9_173 ?_
  refine x_cSi dX9_feed_6 ml_X9_98 mX9_isIn (ct_X9_isIn κ.2.1 g ((3 : Int32).toInt64) 1 4) rfl (Nat.le_of_ble_eq_true rfl) (by decide) (Nat.le_refl _) (Nat.le_refl _) ?_
  refine x_rei (1) (by decide) ?_
  refine x_if_ne dX9_feed_9 (fun c9 => ?_) (fun c9 => ?_)
  rotate_left
  · exact absurd c9 (by decide)
  refine x_aload_n dX9_feed_19 rfl ?_
  refine x_get dX9_feed_20 0 9 inX9 fl_X9_115 rfl rfl (by decide) rfl ?_
  refine x_iload_n dX9_feed_23 rfl ?_
  refine x_iadd dX9_feed_24 ?_
  refine x_rei (nI (nts + 3)) (nI_addc nts 3 rfl) ?_
  refine x_bipush 60 dX9_feed_25 (by decide) ?_
  refine x_icmp_le dX9_feed_27 (fun c27 => ?_) (fun c27 => ?_)
  · have c27 : (nI (nts + 3)) ≤ 60 := c27
    have c27n := (nI_leI (a := (nts + 3)) (b := 60) (by omega) (by omega)).mp c27
    refine x_iload_n dX9_feed_37 rfl ?_
    refine x_iconst 1 dX9_feed_38 (by decide) ?_
    refine x_isub dX9_feed_39 ?_
    refine x_rei 2 (by decide) ?_
    refine x_istore_n (lv' := [some (.ref aN), some (.int bb), some (.int 3), some (.int 2)]) dX9_feed_40 (xlt rfl) rfl ?_
    refine x_iload_n dX9_feed_41 rfl ?_
    refine x_if_lt dX9_feed_42 (fun c42 => ?_) (fun c42 => ?_)
    · exact absurd c42 (by decide)
    refine x_aload_n dX9_feed_45 rfl ?_
    refine x_get dX9_feed_46 0 8 inX9 fl_X9_31 rfl rfl (by decide) rfl ?_
    refine x_aload_n dX9_feed_49 rfl ?_
    refine x_get dX9_feed_50 0 9 inX9 fl_X9_115 rfl rfl (by decide) rfl ?_
    refine x_iload_n dX9_feed_53 rfl ?_
    refine x_bipush 8 dX9_feed_54 (by decide) ?_
    refine x_iload_n dX9_feed_56 rfl ?_
    refine x_imul dX9_feed_57 ?_
    refine x_rei 16 (by decide) ?_
    refine x_ishr dX9_feed_58 ?_
    refine x_sipush 255 dX9_feed_59 (by decide) ?_
    refine x_iand dX9_feed_62 ?_
    refine x_rei (nI (byN bb 16)) ((byN_eq bb 16).1) ?_
    refine x_rei (nI (byN bb 16)) rfl ?_
    refine x_iast (ws' := [(aN, .inr (9, [.ref aNs, .ref aNk, .int nkp, .ref aNf, .ref aNr, .ref aNp, .ref aNb, .ref aNa, .ref aNt, .int (nI nts), .ref aNbo, .ref aNsz, .ref aNnu, .int (nI nta), .int (nI nop), .int nbd, .int ntp, .int (nI npr), .int nnw, .int nsn, .int nwn, .ref aNl, .ref aNal, .ref aNlo, .int (nI nac), .ref aNw, .ref aNtr, .ref aNis, .ref aNbg, .ref aNow])), (aNt, .inl (g.2.1 0, 60, .inl (nIf (updN tb nts (byN bb 16)))))]) dX9_feed_63 1 nts rfl (rfl) (by omega) (by decide) (by rw [upd_nIf]; rfl) ?_
    refine x_aload_n dX9_feed_64 rfl ?_
    refine x_dup dX9_feed_65 rfl ?_
    refine x_get dX9_feed_66 0 9 inX9 fl_X9_115 rfl rfl (by decide) rfl ?_
    refine x_iconst 1 dX9_feed_69 (by decide) ?_
    refine x_iadd dX9_feed_70 ?_
    refine x_rei (nI (nts + 1)) (nI_addc nts 1 rfl) ?_
    refine x_put (ws' := [(aN, .inr (9, [.ref aNs, .ref aNk, .int nkp, .ref aNf, .ref aNr, .ref aNp, .ref aNb, .ref aNa, .ref aNt, .int (nI (nts + 1)), .ref aNbo, .ref aNsz, .ref aNnu, .int (nI nta), .int (nI nop), .int nbd, .int ntp, .int (nI npr), .int nnw, .int nsn, .int nwn, .ref aNl, .ref aNal, .ref aNlo, .int (nI nac), .ref aNw, .ref aNtr, .ref aNis, .ref aNbg, .ref aNow])), (aNt, .inl (g.2.1 0, 60, .inl (nIf (updN tb nts (byN bb 16)))))]) dX9_feed_71 0 9 inX9 tyX9_ok nmX9 fl_X9_115 rfl rfl (by decide) rfl (rfl) rfl (xlt rfl) rfl ?_
    refine x_iinc (lv' := [some (.ref aN), some (.int bb), some (.int 3), some (.int 1)]) (1) dX9_feed_74 rfl (by decide) rfl ?_
    refine x_goto dX9_feed_77 ?_
    refine x_iload_n dX9_feed_41 rfl ?_
    refine x_if_lt dX9_feed_42 (fun c42 => ?_) (fun c42 => ?_)
    · exact absurd c42 (by decide)
    refine x_aload_n dX9_feed_45 rfl ?_
    refine x_get dX9_feed_46 0 8 inX9 fl_X9_31 rfl rfl (by decide) rfl ?_
    refine x_aload_n dX9_feed_49 rfl ?_
    refine x_get dX9_feed_50 0 9 inX9 fl_X9_115 rfl rfl (by decide) rfl ?_
    refine x_iload_n dX9_feed_53 rfl ?_
    refine x_bipush 8 dX9_feed_54 (by decide) ?_
    refine x_iload_n dX9_feed_56 rfl ?_
    refine x_imul dX9_feed_57 ?_
    refine x_rei 8 (by decide) ?_
    refine x_ishr dX9_feed_58 ?_
    refine x_sipush 255 dX9_feed_59 (by decide) ?_
    refine x_iand dX9_feed_62 ?_
    refine x_rei (nI (byN bb 8)) ((byN_eq bb 8).1) ?_
    refine x_rei (nI (byN bb 8)) rfl ?_
    refine x_iast (ws' := [(aN, .inr (9, [.ref aNs, .ref aNk, .int nkp, .ref aNf, .ref aNr, .ref aNp, .ref aNb, .ref aNa, .ref aNt, .int (nI (nts + 1)), .ref aNbo, .ref aNsz, .ref aNnu, .int (nI nta), .int (nI nop), .int nbd, .int ntp, .int (nI npr), .int nnw, .int nsn, .int nwn, .ref aNl, .ref aNal, .ref aNlo, .int (nI nac), .ref aNw, .ref aNtr, .ref aNis, .ref aNbg, .ref aNow])), (aNt, .inl (g.2.1 0, 60, .inl (nIf (updN (updN tb nts (byN bb 16)) (nts + 1) (byN bb 8)))))]) dX9_feed_63 1 (nts + 1) rfl (rfl) (by omega) (by decide) (by rw [upd_nIf]; rfl) ?_
    refine x_aload_n dX9_feed_64 rfl ?_
    refine x_dup dX9_feed_65 rfl ?_
    refine x_get dX9_feed_66 0 9 inX9 fl_X9_115 rfl rfl (by decide) rfl ?_
    refine x_iconst 1 dX9_feed_69 (by decide) ?_
    refine x_iadd dX9_feed_70 ?_
    refine x_rei (nI (nts + 1 + 1)) (nI_addc (nts + 1) 1 rfl) ?_
    refine x_put (ws' := [(aN, .inr (9, [.ref aNs, .ref aNk, .int nkp, .ref aNf, .ref aNr, .ref aNp, .ref aNb, .ref aNa, .ref aNt, .int (nI (nts + 1 + 1)), .ref aNbo, .ref aNsz, .ref aNnu, .int (nI nta), .int (nI nop), .int nbd, .int ntp, .int (nI npr), .int nnw, .int nsn, .int nwn, .ref aNl, .ref aNal, .ref aNlo, .int (nI nac), .ref aNw, .ref aNtr, .ref aNis, .ref aNbg, .ref aNow])), (aNt, .inl (g.2.1 0, 60, .inl (nIf (updN (updN tb nts (byN bb 16)) (nts + 1) (byN bb 8)))))]) dX9_feed_71 0 9 inX9 tyX9_ok nmX9 fl_X9_115 rfl rfl (by decide) rfl (rfl) rfl (xlt rfl) rfl ?_
    refine x_iinc (lv' := [some (.ref aN), some (.int bb), some (.int 3), some (.int 0)]) (0) dX9_feed_74 rfl (by decide) rfl ?_
    refine x_goto dX9_feed_77 ?_
    refine x_iload_n dX9_feed_41 rfl ?_
    refine x_if_lt dX9_feed_42 (fun c42 => ?_) (fun c42 => ?_)
    · exact absurd c42 (by decide)
    refine x_aload_n dX9_feed_45 rfl ?_
    refine x_get dX9_feed_46 0 8 inX9 fl_X9_31 rfl rfl (by decide) rfl ?_
    refine x_aload_n dX9_feed_49 rfl ?_
    refine x_get dX9_feed_50 0 9 inX9 fl_X9_115 rfl rfl (by decide) rfl ?_
    refine x_iload_n dX9_feed_53 rfl ?_
    refine x_bipush 8 dX9_feed_54 (by decide) ?_
    refine x_iload_n dX9_feed_56 rfl ?_
    refine x_imul dX9_feed_57 ?_
    refine x_rei 0 (by decide) ?_
    refine x_ishr dX9_feed_58 ?_
    refine x_sipush 255 dX9_feed_59 (by decide) ?_
    refine x_iand dX9_feed_62 ?_
    refine x_rei (nI (byN bb 0)) ((byN_eq bb 0).1) ?_
    refine x_rei (nI (byN bb 0)) rfl ?_
    refine x_iast (ws' := [(aN, .inr (9, [.ref aNs, .ref aNk, .int nkp, .ref aNf, .ref aNr, .ref aNp, .ref aNb, .ref aNa, .ref aNt, .int (nI (nts + 1 + 1)), .ref aNbo, .ref aNsz, .ref aNnu, .int (nI nta), .int (nI nop), .int nbd, .int ntp, .int (nI npr), .int nnw, .int nsn, .int nwn, .ref aNl, .ref aNal, .ref aNlo, .int (nI nac), .ref aNw, .ref aNtr, .ref aNis, .ref aNbg, .ref aNow])), (aNt, .inl (g.2.1 0, 60, .inl (nIf (updN (updN (updN tb nts (byN bb 16)) (nts + 1) (byN bb 8)) (nts + 1 + 1) (byN bb 0)))))]) dX9_feed_63 1 (nts + 1 + 1) rfl (rfl) (by omega) (by decide) (by rw [upd_nIf]; rfl) ?_
    refine x_aload_n dX9_feed_64 rfl ?_
    refine x_dup dX9_feed_65 rfl ?_
    refine x_get dX9_feed_66 0 9 inX9 fl_X9_115 rfl rfl (by decide) rfl ?_
    refine x_iconst 1 dX9_feed_69 (by decide) ?_
    refine x_iadd dX9_feed_70 ?_
    refine x_rei (nI (nts + 1 + 1 + 1)) (nI_addc (nts + 1 + 1) 1 rfl) ?_
    refine x_put (ws' := [(aN, .inr (9, [.ref aNs, .ref aNk, .int nkp, .ref aNf, .ref aNr, .ref aNp, .ref aNb, .ref aNa, .ref aNt, .int (nI (nts + 1 + 1 + 1)), .ref aNbo, .ref aNsz, .ref aNnu, .int (nI nta), .int (nI nop), .int nbd, .int ntp, .int (nI npr), .int nnw, .int nsn, .int nwn, .ref aNl, .ref aNal, .ref aNlo, .int (nI nac), .ref aNw, .ref aNtr, .ref aNis, .ref aNbg, .ref aNow])), (aNt, .inl (g.2.1 0, 60, .inl (nIf (updN (updN (updN tb nts (byN bb 16)) (nts + 1) (byN bb 8)) (nts + 1 + 1) (byN bb 0)))))]) dX9_feed_71 0 9 inX9 tyX9_ok nmX9 fl_X9_115 rfl rfl (by decide) rfl (rfl) rfl (xlt rfl) rfl ?_
    refine x_iinc (lv' := [some (.ref aN), some (.int bb), some (.int 3), some (.int ((-1)))]) ((-1)) dX9_feed_74 rfl (by decide) rfl ?_
    refine x_goto dX9_feed_77 ?_
    refine x_iload_n dX9_feed_41 rfl ?_
    refine x_if_lt dX9_feed_42 (fun c42 => ?_) (fun c42 => ?_)
    rotate_left
    · exact absurd c42 (by decide)
    refine x_aload_n dX9_feed_80 rfl ?_
    refine x_get dX9_feed_81 0 9 inX9 fl_X9_115 rfl rfl (by decide) rfl ?_
    rw [← hQ]
    refine x_iret dX9_feed_84 rfl (Nat.le_of_ble_eq_true rfl) (Nat.le_of_ble_eq_true rfl) ?_
    exact ⟨rfl, rfl⟩
  · have c27 : ¬ ((nI (nts + 3)) ≤ 60) := c27
    have c27n := mt (nI_leI (a := (nts + 3)) (b := 60) (by omega) (by omega)).mpr c27
    exact absurd c27n (by omega)

-- == nfeed_4 ==
set_option maxRecDepth 100000 in
set_option maxHeartbeats 4000000 in
theorem ct_nfeed_4 (l : Launch) (g : XG) (aN aNs aNk aNf aNr aNp aNb aNa aNt aNbo aNsz aNnu aNl aNal aNlo aNw aNtr aNis aNbg aNow nts nta nop npr nac : Nat) (nkp nbd ntp nnw nsn nwn : Int32) (tb : Nat → Nat) (bb : Int32) (hf : nts + 4 ≤ 60) : Ct l g 34 0 0 yX9_feed cX9_feed 4 (some .int) [.ref aN, .int bb, .int 4] [(aN, .inr (9, [.ref aNs, .ref aNk, .int nkp, .ref aNf, .ref aNr, .ref aNp, .ref aNb, .ref aNa, .ref aNt, .int (nI nts), .ref aNbo, .ref aNsz, .ref aNnu, .int (nI nta), .int (nI nop), .int nbd, .int ntp, .int (nI npr), .int nnw, .int nsn, .int nwn, .ref aNl, .ref aNal, .ref aNlo, .int (nI nac), .ref aNw, .ref aNtr, .ref aNis, .ref aNbg, .ref aNow])), (aNt, .inl (g.2.1 0, 60, .inl (nIf tb)))] (xpi (nI (nts + 1 + 1 + 1 + 1)) [(aN, .inr (9, [.ref aNs, .ref aNk, .int nkp, .ref aNf, .ref aNr, .ref aNp, .ref aNb, .ref aNa, .ref aNt, .int (nI (nts + 1 + 1 + 1 + 1)), .ref aNbo, .ref aNsz, .ref aNnu, .int (nI nta), .int (nI nop), .int nbd, .int ntp, .int (nI npr), .int nnw, .int nsn, .int nwn, .ref aNl, .ref aNal, .ref aNlo, .int (nI nac), .ref aNw, .ref aNtr, .ref aNis, .ref aNbg, .ref aNow])), (aNt, .inl (g.2.1 0, 60, .inl (nIf (updN (updN (updN (updN (tb) (nts) (byN bb 24)) (nts + 1) (byN bb 16)) (nts + 1 + 1) (byN bb 8)) (nts + 1 + 1 + 1) (byN bb 0)))))]) := by
  refine Ct.ofX (lv := [some (.ref aN), some (.int bb), some (.int 4), none]) (by decide) rfl (Nat.le_of_ble_eq_true rfl) (fun κ => ?_)
  generalize hQ : xQ κ g 0 0 _ = Q
  refine x_iload_n dX9_feed_0 rfl ?_
  refine x_i2l dX9_feed_1 ?_
  refine x_lconst 1 dX9_feed_2 (by decide) ?_
  refine x_ldc2 dX9_feed_3 kl_X9_173 ?_
  refine x_cSi dX9_feed_6 ml_X9_98 mX9_isIn (ct_X9_isIn κ.2.1 g ((4 : Int32).toInt64) 1 4) rfl (Nat.le_of_ble_eq_true rfl) (by decide) (Nat.le_refl _) (Nat.le_refl _) ?_
  refine x_rei (1) (by decide) ?_
  refine x_if_ne dX9_feed_9 (fun c9 => ?_) (fun c9 => ?_)
  rotate_left
  · exact absurd c9 (by decide)
  refine x_aload_n dX9_feed_19 rfl ?_
  refine x_get dX9_feed_20 0 9 inX9 fl_X9_115 rfl rfl (by decide) rfl ?_
  refine x_iload_n dX9_feed_23 rfl ?_
  refine x_iadd dX9_feed_24 ?_
  refine x_rei (nI (nts + 4)) (nI_addc nts 4 rfl) ?_
  refine x_bipush 60 dX9_feed_25 (by decide) ?_
  refine x_icmp_le dX9_feed_27 (fun c27 => ?_) (fun c27 => ?_)
  · have c27 : (nI (nts + 4)) ≤ 60 := c27
    have c27n := (nI_leI (a := (nts + 4)) (b := 60) (by omega) (by omega)).mp c27
    refine x_iload_n dX9_feed_37 rfl ?_
    refine x_iconst 1 dX9_feed_38 (by decide) ?_
    refine x_isub dX9_feed_39 ?_
    refine x_rei 3 (by decide) ?_
    refine x_istore_n (lv' := [some (.ref aN), some (.int bb), some (.int 4), some (.int 3)]) dX9_feed_40 (xlt rfl) rfl ?_
    refine x_iload_n dX9_feed_41 rfl ?_
    refine x_if_lt dX9_feed_42 (fun c42 => ?_) (fun c42 => ?_)
    · exact absurd c42 (by decide)
    refine x_aload_n dX9_feed_45 rfl ?_
    refine x_get dX9_feed_46 0 8 inX9 fl_X9_31 rfl rfl (by decide) rfl ?_
    refine x_aload_n dX9_feed_49 rfl ?_
    refine x_get dX9_feed_50 0 9 inX9 fl_X9_115 rfl rfl (by decide) rfl ?_
    refine x_iload_n dX9_feed_53 rfl ?_
    refine x_bipush 8 dX9_feed_54 (by decide) ?_
    refine x_iload_n dX9_feed_56 rfl ?_
    refine x_imul dX9_feed_57 ?_
    refine x_rei 24 (by decide) ?_
    refine x_ishr dX9_feed_58 ?_
    refine x_sipush 255 dX9_feed_59 (by decide) ?_
    refine x_iand dX9_feed_62 ?_
    refine x_rei (nI (byN bb 24)) ((byN_eq bb 24).1) ?_
    refine x_rei (nI (byN bb 24)) rfl ?_
    refine x_iast (ws' := [(aN, .inr (9, [.ref aNs, .ref aNk, .int nkp, .ref aNf, .ref aNr, .ref aNp, .ref aNb, .ref aNa, .ref aNt, .int (nI nts), .ref aNbo, .ref aNsz, .ref aNnu, .int (nI nta), .int (nI nop), .int nbd, .int ntp, .int (nI npr), .int nnw, .int nsn, .int nwn, .ref aNl, .ref aNal, .ref aNlo, .int (nI nac), .ref aNw, .ref aNtr, .ref aNis, .ref aNbg, .ref aNow])), (aNt, .inl (g.2.1 0, 60, .inl (nIf (updN tb nts (byN bb 24)))))]) dX9_feed_63 1 nts rfl (rfl) (by omega) (by decide) (by rw [upd_nIf]; rfl) ?_
    refine x_aload_n dX9_feed_64 rfl ?_
    refine x_dup dX9_feed_65 rfl ?_
    refine x_get dX9_feed_66 0 9 inX9 fl_X9_115 rfl rfl (by decide) rfl ?_
    refine x_iconst 1 dX9_feed_69 (by decide) ?_
    refine x_iadd dX9_feed_70 ?_
    refine x_rei (nI (nts + 1)) (nI_addc nts 1 rfl) ?_
    refine x_put (ws' := [(aN, .inr (9, [.ref aNs, .ref aNk, .int nkp, .ref aNf, .ref aNr, .ref aNp, .ref aNb, .ref aNa, .ref aNt, .int (nI (nts + 1)), .ref aNbo, .ref aNsz, .ref aNnu, .int (nI nta), .int (nI nop), .int nbd, .int ntp, .int (nI npr), .int nnw, .int nsn, .int nwn, .ref aNl, .ref aNal, .ref aNlo, .int (nI nac), .ref aNw, .ref aNtr, .ref aNis, .ref aNbg, .ref aNow])), (aNt, .inl (g.2.1 0, 60, .inl (nIf (updN tb nts (byN bb 24)))))]) dX9_feed_71 0 9 inX9 tyX9_ok nmX9 fl_X9_115 rfl rfl (by decide) rfl (rfl) rfl (xlt rfl) rfl ?_
    refine x_iinc (lv' := [some (.ref aN), some (.int bb), some (.int 4), some (.int 2)]) (2) dX9_feed_74 rfl (by decide) rfl ?_
    refine x_goto dX9_feed_77 ?_
    refine x_iload_n dX9_feed_41 rfl ?_
    refine x_if_lt dX9_feed_42 (fun c42 => ?_) (fun c42 => ?_)
    · exact absurd c42 (by decide)
    refine x_aload_n dX9_feed_45 rfl ?_
    refine x_get dX9_feed_46 0 8 inX9 fl_X9_31 rfl rfl (by decide) rfl ?_
    refine x_aload_n dX9_feed_49 rfl ?_
    refine x_get dX9_feed_50 0 9 inX9 fl_X9_115 rfl rfl (by decide) rfl ?_
    refine x_iload_n dX9_feed_53 rfl ?_
    refine x_bipush 8 dX9_feed_54 (by decide) ?_
    refine x_iload_n dX9_feed_56 rfl ?_
    refine x_imul dX9_feed_57 ?_
    refine x_rei 16 (by decide) ?_
    refine x_ishr dX9_feed_58 ?_
    refine x_sipush 255 dX9_feed_59 (by decide) ?_
    refine x_iand dX9_feed_62 ?_
    refine x_rei (nI (byN bb 16)) ((byN_eq bb 16).1) ?_
    refine x_rei (nI (byN bb 16)) rfl ?_
    refine x_iast (ws' := [(aN, .inr (9, [.ref aNs, .ref aNk, .int nkp, .ref aNf, .ref aNr, .ref aNp, .ref aNb, .ref aNa, .ref aNt, .int (nI (nts + 1)), .ref aNbo, .ref aNsz, .ref aNnu, .int (nI nta), .int (nI nop), .int nbd, .int ntp, .int (nI npr), .int nnw, .int nsn, .int nwn, .ref aNl, .ref aNal, .ref aNlo, .int (nI nac), .ref aNw, .ref aNtr, .ref aNis, .ref aNbg, .ref aNow])), (aNt, .inl (g.2.1 0, 60, .inl (nIf (updN (updN tb nts (byN bb 24)) (nts + 1) (byN bb 16)))))]) dX9_feed_63 1 (nts + 1) rfl (rfl) (by omega) (by decide) (by rw [upd_nIf]; rfl) ?_
    refine x_aload_n dX9_feed_64 rfl ?_
    refine x_dup dX9_feed_65 rfl ?_
    refine x_get dX9_feed_66 0 9 inX9 fl_X9_115 rfl rfl (by decide) rfl ?_
    refine x_iconst 1 dX9_feed_69 (by decide) ?_
    refine x_iadd dX9_feed_70 ?_
    refine x_rei (nI (nts + 1 + 1)) (nI_addc (nts + 1) 1 rfl) ?_
    refine x_put (ws' := [(aN, .inr (9, [.ref aNs, .ref aNk, .int nkp, .ref aNf, .ref aNr, .ref aNp, .ref aNb, .ref aNa, .ref aNt, .int (nI (nts + 1 + 1)), .ref aNbo, .ref aNsz, .ref aNnu, .int (nI nta), .int (nI nop), .int nbd, .int ntp, .int (nI npr), .int nnw, .int nsn, .int nwn, .ref aNl, .ref aNal, .ref aNlo, .int (nI nac), .ref aNw, .ref aNtr, .ref aNis, .ref aNbg, .ref aNow])), (aNt, .inl (g.2.1 0, 60, .inl (nIf (updN (updN tb nts (byN bb 24)) (nts + 1) (byN bb 16)))))]) dX9_feed_71 0 9 inX9 tyX9_ok nmX9 fl_X9_115 rfl rfl (by decide) rfl (rfl) rfl (xlt rfl) rfl ?_
    refine x_iinc (lv' := [some (.ref aN), some (.int bb), some (.int 4), some (.int 1)]) (1) dX9_feed_74 rfl (by decide) rfl ?_
    refine x_goto dX9_feed_77 ?_
    refine x_iload_n dX9_feed_41 rfl ?_
    refine x_if_lt dX9_feed_42 (fun c42 => ?_) (fun c42 => ?_)
    · exact absurd c42 (by decide)
    refine x_aload_n dX9_feed_45 rfl ?_
    refine x_get dX9_feed_46 0 8 inX9 fl_X9_31 rfl rfl (by decide) rfl ?_
    refine x_aload_n dX9_feed_49 rfl ?_
    refine x_get dX9_feed_50 0 9 inX9 fl_X9_115 rfl rfl (by decide) rfl ?_
    refine x_iload_n dX9_feed_53 rfl ?_
    refine x_bipush 8 dX9_feed_54 (by decide) ?_
    refine x_iload_n dX9_feed_56 rfl ?_
    refine x_imul dX9_feed_57 ?_
    refine x_rei 8 (by decide) ?_
    refine x_ishr dX9_feed_58 ?_
    refine x_sipush 255 dX9_feed_59 (by decide) ?_
    refine x_iand dX9_feed_62 ?_
    refine x_rei (nI (byN bb 8)) ((byN_eq bb 8).1) ?_
    refine x_rei (nI (byN bb 8)) rfl ?_
    refine x_iast (ws' := [(aN, .inr (9, [.ref aNs, .ref aNk, .int nkp, .ref aNf, .ref aNr, .ref aNp, .ref aNb, .ref aNa, .ref aNt, .int (nI (nts + 1 + 1)), .ref aNbo, .ref aNsz, .ref aNnu, .int (nI nta), .int (nI nop), .int nbd, .int ntp, .int (nI npr), .int nnw, .int nsn, .int nwn, .ref aNl, .ref aNal, .ref aNlo, .int (nI nac), .ref aNw, .ref aNtr, .ref aNis, .ref aNbg, .ref aNow])), (aNt, .inl (g.2.1 0, 60, .inl (nIf (updN (updN (updN tb nts (byN bb 24)) (nts + 1) (byN bb 16)) (nts + 1 + 1) (byN bb 8)))))]) dX9_feed_63 1 (nts + 1 + 1) rfl (rfl) (by omega) (by decide) (by rw [upd_nIf]; rfl) ?_
    refine x_aload_n dX9_feed_64 rfl ?_
    refine x_dup dX9_feed_65 rfl ?_
    refine x_get dX9_feed_66 0 9 inX9 fl_X9_115 rfl rfl (by decide) rfl ?_
    refine x_iconst 1 dX9_feed_69 (by decide) ?_
    refine x_iadd dX9_feed_70 ?_
    refine x_rei (nI (nts + 1 + 1 + 1)) (nI_addc (nts + 1 + 1) 1 rfl) ?_
    refine x_put (ws' := [(aN, .inr (9, [.ref aNs, .ref aNk, .int nkp, .ref aNf, .ref aNr, .ref aNp, .ref aNb, .ref aNa, .ref aNt, .int (nI (nts + 1 + 1 + 1)), .ref aNbo, .ref aNsz, .ref aNnu, .int (nI nta), .int (nI nop), .int nbd, .int ntp, .int (nI npr), .int nnw, .int nsn, .int nwn, .ref aNl, .ref aNal, .ref aNlo, .int (nI nac), .ref aNw, .ref aNtr, .ref aNis, .ref aNbg, .ref aNow])), (aNt, .inl (g.2.1 0, 60, .inl (nIf (updN (updN (updN tb nts (byN bb 24)) (nts + 1) (byN bb 16)) (nts + 1 + 1) (byN bb 8)))))]) dX9_feed_71 0 9 inX9 tyX9_ok nmX9 fl_X9_115 rfl rfl (by decide) rfl (rfl) rfl (xlt rfl) rfl ?_
    refine x_iinc (lv' := [some (.ref aN), some (.int bb), some (.int 4), some (.int 0)]) (0) dX9_feed_74 rfl (by decide) rfl ?_
    refine x_goto dX9_feed_77 ?_
    refine x_iload_n dX9_feed_41 rfl ?_
    refine x_if_lt dX9_feed_42 (fun c42 => ?_) (fun c42 => ?_)
    · exact absurd c42 (by decide)
    refine x_aload_n dX9_feed_45 rfl ?_
    refine x_get dX9_feed_46 0 8 inX9 fl_X9_31 rfl rfl (by decide) rfl ?_
    refine x_aload_n dX9_feed_49 rfl ?_
    refine x_get dX9_feed_50 0 9 inX9 fl_X9_115 rfl rfl (by decide) rfl ?_
    refine x_iload_n dX9_feed_53 rfl ?_
    refine x_bipush 8 dX9_feed_54 (by decide) ?_
    refine x_iload_n dX9_feed_56 rfl ?_
    refine x_imul dX9_feed_57 ?_
    refine x_rei 0 (by decide) ?_
    refine x_ishr dX9_feed_58 ?_
    refine x_sipush 255 dX9_feed_59 (by decide) ?_
    refine x_iand dX9_feed_62 ?_
    refine x_rei (nI (byN bb 0)) ((byN_eq bb 0).1) ?_
    refine x_rei (nI (byN bb 0)) rfl ?_
    refine x_iast (ws' := [(aN, .inr (9, [.ref aNs, .ref aNk, .int nkp, .ref aNf, .ref aNr, .ref aNp, .ref aNb, .ref aNa, .ref aNt, .int (nI (nts + 1 + 1 + 1)), .ref aNbo, .ref aNsz, .ref aNnu, .int (nI nta), .int (nI nop), .int nbd, .int ntp, .int (nI npr), .int nnw, .int nsn, .int nwn, .ref aNl, .ref aNal, .ref aNlo, .int (nI nac), .ref aNw, .ref aNtr, .ref aNis, .ref aNbg, .ref aNow])), (aNt, .inl (g.2.1 0, 60, .inl (nIf (updN (updN (updN (updN tb nts (byN bb 24)) (nts + 1) (byN bb 16)) (nts + 1 + 1) (byN bb 8)) (nts + 1 + 1 + 1) (byN bb 0)))))]) dX9_feed_63 1 (nts + 1 + 1 + 1) rfl (rfl) (by omega) (by decide) (by rw [upd_nIf]; rfl) ?_
    refine x_aload_n dX9_feed_64 rfl ?_
    refine x_dup dX9_feed_65 rfl ?_
    refine x_get dX9_feed_66 0 9 inX9 fl_X9_115 rfl rfl (by decide) rfl ?_
    refine x_iconst 1 dX9_feed_69 (by decide) ?_
    refine x_iadd dX9_feed_70 ?_
    refine x_rei (nI (nts + 1 + 1 + 1 + 1)) (nI_addc (nts + 1 + 1 + 1) 1 rfl) ?_
    refine x_put (ws' := [(aN, .inr (9, [.ref aNs, .ref aNk, .int nkp, .ref aNf, .ref aNr, .ref aNp, .ref aNb, .ref aNa, .ref aNt, .int (nI (nts + 1 + 1 + 1 + 1)), .ref aNbo, .ref aNsz, .ref aNnu, .int (nI nta), .int (nI nop), .int nbd, .int ntp, .int (nI npr), .int nnw, .int nsn, .int nwn, .ref aNl, .ref aNal, .ref aNlo, .int (nI nac), .ref aNw, .ref aNtr, .ref aNis, .ref aNbg, .ref aNow])), (aNt, .inl (g.2.1 0, 60, .inl (nIf (updN (updN (updN (updN tb nts (byN bb 24)) (nts + 1) (byN bb 16)) (nts + 1 + 1) (byN bb 8)) (nts + 1 + 1 + 1) (byN bb 0)))))]) dX9_feed_71 0 9 inX9 tyX9_ok nmX9 fl_X9_115 rfl rfl (by decide) rfl (rfl) rfl (xlt rfl) rfl ?_
    refine x_iinc (lv' := [some (.ref aN), some (.int bb), some (.int 4), some (.int ((-1)))]) ((-1)) dX9_feed_74 rfl (by decide) rfl ?_
    refine x_goto dX9_feed_77 ?_
    refine x_iload_n dX9_feed_41 rfl ?_
    refine x_if_lt dX9_feed_42 (fun c42 => ?_) (fun c42 => ?_)
    rotate_left
    · exact absurd c42 (by decide)
    refine x_aload_n dX9_feed_80 rfl ?_
    refine x_get dX9_feed_81 0 9 inX9 fl_X9_115 rfl rfl (by decide) rfl ?_
    rw [← hQ]
    refine x_iret dX9_feed_84 rfl (Nat.le_of_ble_eq_true rfl) (Nat.le_of_ble_eq_true rfl) ?_
    exact ⟨rfl, rfl⟩
  · have c27 : ¬ ((nI (nts + 4)) ≤ 60) := c27
    have c27n := mt (nI_leI (a := (nts + 4)) (b := 60) (by omega) (by omega)).mpr c27
    exact absurd c27n (by omega)

-- == nsays_t ==
set_option maxRecDepth 100000 in
set_option maxHeartbeats 4000000 in
theorem ct_nsays_t (l : Launch) (g : XG) (aN aNs aNk aNf aNr aNp aNb aNa aNt aNbo aNsz aNnu aNl aNal aNlo aNw aNtr aNis aNbg aNow nts nta nop npr nac : Nat) (nkp nbd nnw nsn nwn : Int32) (gr wk lk sz br : Nat) (z : Int32) (ru ki ma bb hd : Nat → Nat) (ce : Nat → Int32) (tb : Nat → Nat) (L p : Nat) (hts : nts ≤ 60) (htb : ∀ j, tb j < 256) (hp : p < 495) (hwk : wk ≤ 40) (hlat : latI ce wk = nI L) : Ct l g 26 0 0 yX9_says cX9_says 3 (some .int) [.ref aN, .int (nI p)] [(aN, .inr (9, [.ref aNs, .ref aNk, .int nkp, .ref aNf, .ref aNr, .ref aNp, .ref aNb, .ref aNa, .ref aNt, .int (nI nts), .ref aNbo, .ref aNsz, .ref aNnu, .int (nI nta), .int (nI nop), .int nbd, .int 1, .int (nI npr), .int nnw, .int nsn, .int nwn, .ref aNl, .ref aNal, .ref aNlo, .int (nI nac), .ref aNw, .ref aNtr, .ref aNis, .ref aNbg, .ref aNow])), (aNs, .inl (g.2.1 0, 919, .inl (msF gr wk z lk sz br ru ki ma bb ce hd))), (aNt, .inl (g.2.1 0, 60, .inl (nIf tb))), (aNa, .inl (g.2.1 0, 2475, .inl (nIf fcN))), (aNr, .inl (g.2.1 0, 495, .inl (nIf rowB))), (aNb, .inl (g.2.1 0, 4096, .inl (nIf popN)))] (xpi ((srL (hB tb nts) (nmI wk L p) 4 0).2.2) [(aN, .inr (9, [.ref aNs, .ref aNk, .int nkp, .ref aNf, .ref aNr, .ref aNp, .ref aNb, .ref aNa, .ref aNt, .int (nI nts), .ref aNbo, .ref aNsz, .ref aNnu, .int (nI ((srL (hB tb nts) (nmI wk L p) 4 0).1)), .int 0, .int (syI (srL (hB tb nts) (nmI wk L p) 4 0) nts), .int 1, .int (nI p), .int nnw, .int nsn, .int nwn, .ref aNl, .ref aNal, .ref aNlo, .int (nI nac), .ref aNw, .ref aNtr, .ref aNis, .ref aNbg, .ref aNow])), (aNs, .inl (g.2.1 0, 919, .inl (msF gr wk z lk sz br ru ki ma bb ce hd))), (aNt, .inl (g.2.1 0, 60, .inl (nIf tb))), (aNa, .inl (g.2.1 0, 2475, .inl (nIf fcN))), (aNr, .inl (g.2.1 0, 495, .inl (nIf rowB))), (aNb, .inl (g.2.1 0, 4096, .inl (nIf popN)))]) := by
  refine Ct.ofX (lv := [some (.ref aN), some (.int (nI p)), none]) (by decide) rfl (Nat.le_of_ble_eq_true rfl) (fun κ => ?_)
  generalize hQ : xQ κ g 0 0 _ = Q
  refine x_aload_n dX9_says_0 rfl ?_
  refine x_iload_n dX9_says_1 rfl ?_
  refine x_put (ws' := [(aN, .inr (9, [.ref aNs, .ref aNk, .int nkp, .ref aNf, .ref aNr, .ref aNp, .ref aNb, .ref aNa, .ref aNt, .int (nI nts), .ref aNbo, .ref aNsz, .ref aNnu, .int (nI nta), .int (nI nop), .int nbd, .int 1, .int (nI p), .int nnw, .int nsn, .int nwn, .ref aNl, .ref aNal, .ref aNlo, .int (nI nac), .ref aNw, .ref aNtr, .ref aNis, .ref aNbg, .ref aNow])), (aNs, .inl (g.2.1 0, 919, .inl (msF gr wk z lk sz br ru ki ma bb ce hd))), (aNt, .inl (g.2.1 0, 60, .inl (nIf tb))), (aNa, .inl (g.2.1 0, 2475, .inl (nIf fcN))), (aNr, .inl (g.2.1 0, 495, .inl (nIf rowB))), (aNb, .inl (g.2.1 0, 4096, .inl (nIf popN)))]) dX9_says_2 0 17 inX9 tyX9_ok nmX9 fl_X9_126 rfl rfl (by decide) rfl (rfl) rfl (xlt rfl) rfl ?_
  refine x_aload_n dX9_says_5 rfl ?_
  refine x_iconst 0 dX9_says_6 (by decide) ?_
  refine x_put (ws' := [(aN, .inr (9, [.ref aNs, .ref aNk, .int nkp, .ref aNf, .ref aNr, .ref aNp, .ref aNb, .ref aNa, .ref aNt, .int (nI nts), .ref aNbo, .ref aNsz, .ref aNnu, .int 0, .int (nI nop), .int nbd, .int 1, .int (nI p), .int nnw, .int nsn, .int nwn, .ref aNl, .ref aNal, .ref aNlo, .int (nI nac), .ref aNw, .ref aNtr, .ref aNis, .ref aNbg, .ref aNow])), (aNs, .inl (g.2.1 0, 919, .inl (msF gr wk z lk sz br ru ki ma bb ce hd))), (aNt, .inl (g.2.1 0, 60, .inl (nIf tb))), (aNa, .inl (g.2.1 0, 2475, .inl (nIf fcN))), (aNr, .inl (g.2.1 0, 495, .inl (nIf rowB))), (aNb, .inl (g.2.1 0, 4096, .inl (nIf popN)))]) dX9_says_7 0 13 inX9 tyX9_ok nmX9 fl_X9_119 rfl rfl (by decide) rfl (rfl) rfl (xlt rfl) rfl ?_
  refine x_aload_n dX9_says_10 rfl ?_
  refine x_iconst 0 dX9_says_11 (by decide) ?_
  refine x_put (ws' := [(aN, .inr (9, [.ref aNs, .ref aNk, .int nkp, .ref aNf, .ref aNr, .ref aNp, .ref aNb, .ref aNa, .ref aNt, .int (nI nts), .ref aNbo, .ref aNsz, .ref aNnu, .int 0, .int 0, .int nbd, .int 1, .int (nI p), .int nnw, .int nsn, .int nwn, .ref aNl, .ref aNal, .ref aNlo, .int (nI nac), .ref aNw, .ref aNtr, .ref aNis, .ref aNbg, .ref aNow])), (aNs, .inl (g.2.1 0, 919, .inl (msF gr wk z lk sz br ru ki ma bb ce hd))), (aNt, .inl (g.2.1 0, 60, .inl (nIf tb))), (aNa, .inl (g.2.1 0, 2475, .inl (nIf fcN))), (aNr, .inl (g.2.1 0, 495, .inl (nIf rowB))), (aNb, .inl (g.2.1 0, 4096, .inl (nIf popN)))]) dX9_says_12 0 14 inX9 tyX9_ok nmX9 fl_X9_148 rfl rfl (by decide) rfl (rfl) rfl (xlt rfl) rfl ?_
  refine x_aload_n dX9_says_15 rfl ?_
  refine x_iconst 0 dX9_says_16 (by decide) ?_
  refine x_put (ws' := [(aN, .inr (9, [.ref aNs, .ref aNk, .int nkp, .ref aNf, .ref aNr, .ref aNp, .ref aNb, .ref aNa, .ref aNt, .int (nI nts), .ref aNbo, .ref aNsz, .ref aNnu, .int 0, .int 0, .int 0, .int 1, .int (nI p), .int nnw, .int nsn, .int nwn, .ref aNl, .ref aNal, .ref aNlo, .int (nI nac), .ref aNw, .ref aNtr, .ref aNis, .ref aNbg, .ref aNow])), (aNs, .inl (g.2.1 0, 919, .inl (msF gr wk z lk sz br ru ki ma bb ce hd))), (aNt, .inl (g.2.1 0, 60, .inl (nIf tb))), (aNa, .inl (g.2.1 0, 2475, .inl (nIf fcN))), (aNr, .inl (g.2.1 0, 495, .inl (nIf rowB))), (aNb, .inl (g.2.1 0, 4096, .inl (nIf popN)))]) dX9_says_17 0 15 inX9 tyX9_ok nmX9 fl_X9_135 rfl rfl (by decide) rfl (rfl) rfl (xlt rfl) rfl ?_
  refine x_aload_n dX9_says_20 rfl ?_
  refine x_cVi (ws' := [(aN, .inr (9, [.ref aNs, .ref aNk, .int nkp, .ref aNf, .ref aNr, .ref aNp, .ref aNb, .ref aNa, .ref aNt, .int (nI nts), .ref aNbo, .ref aNsz, .ref aNnu, .int (nI ((srL (hB tb nts) (nmI wk L p) 4 0).1)), .int 0, .int (bI (srL (hB tb nts) (nmI wk L p) 4 0).2.1), .int 1, .int (nI p), .int nnw, .int nsn, .int nwn, .ref aNl, .ref aNal, .ref aNlo, .int (nI nac), .ref aNw, .ref aNtr, .ref aNis, .ref aNbg, .ref aNow])), (aNs, .inl (g.2.1 0, 919, .inl (msF gr wk z lk sz br ru ki ma bb ce hd))), (aNt, .inl (g.2.1 0, 60, .inl (nIf tb))), (aNa, .inl (g.2.1 0, 2475, .inl (nIf fcN))), (aNr, .inl (g.2.1 0, 495, .inl (nIf rowB))), (aNb, .inl (g.2.1 0, 4096, .inl (nIf popN)))]) dX9_says_21 ml_X9_151 mX9_sum (ct_sr_4 κ.2.1 g aN aNs aNk aNf aNr aNp aNb aNa aNt aNbo aNsz aNnu aNl aNal aNlo aNw aNtr aNis aNbg aNow nts 0 nac nkp 1 nnw nsn nwn gr wk lk sz br z ru ki ma bb hd ce tb tb nts L p (Or.inl ⟨rfl, rfl, rfl⟩) (Nat.zero_le _) (hts) (htb) (hp) (hwk) (hlat)) [0, 1, 2, 3, 4, 5] rfl rfl 0 rfl rfl rfl (Nat.le_of_ble_eq_true rfl) (by decide) (Nat.le_refl _) (Nat.le_refl _) (rfl : [aN, aNs, aNt, aNa, aNr, aNb] = [aN, aNs, aNt, aNa, aNr, aNb]) rfl ?_
  have hk := srL_ok (nv := nmI wk L p) (okH_hB tb nts) 4 0 (Nat.zero_le _)
  refine x_istore_n (lv' := [some (.ref aN), some (.int (nI p)), some (.int ((srL (hB tb nts) (nmI wk L p) 4 0).2.2))]) dX9_says_24 (xlt rfl) rfl ?_
  refine x_aload_n dX9_says_25 rfl ?_
  refine x_aload_n dX9_says_26 rfl ?_
  refine x_get dX9_says_27 0 15 inX9 fl_X9_135 rfl rfl (by decide) rfl ?_
  refine x_if_ne dX9_says_30 (fun c30 => ?_) (fun c30 => ?_)
  · have c30 : ¬ ((bI (srL (hB tb nts) (nmI wk L p) 4 0).2.1) = 0) := c30
    refine x_iconst 1 dX9_says_44 (by decide) ?_
    refine x_goto dX9_says_45 ?_
    refine x_put (ws' := [(aN, .inr (9, [.ref aNs, .ref aNk, .int nkp, .ref aNf, .ref aNr, .ref aNp, .ref aNb, .ref aNa, .ref aNt, .int (nI nts), .ref aNbo, .ref aNsz, .ref aNnu, .int (nI ((srL (hB tb nts) (nmI wk L p) 4 0).1)), .int 0, .int 1, .int 1, .int (nI p), .int nnw, .int nsn, .int nwn, .ref aNl, .ref aNal, .ref aNlo, .int (nI nac), .ref aNw, .ref aNtr, .ref aNis, .ref aNbg, .ref aNow])), (aNs, .inl (g.2.1 0, 919, .inl (msF gr wk z lk sz br ru ki ma bb ce hd))), (aNt, .inl (g.2.1 0, 60, .inl (nIf tb))), (aNa, .inl (g.2.1 0, 2475, .inl (nIf fcN))), (aNr, .inl (g.2.1 0, 495, .inl (nIf rowB))), (aNb, .inl (g.2.1 0, 4096, .inl (nIf popN)))]) dX9_says_49 0 15 inX9 tyX9_ok nmX9 fl_X9_135 rfl rfl (by decide) rfl (rfl) rfl (xlt rfl) rfl ?_
    refine x_iload_n dX9_says_52 rfl ?_
    rw [← hQ]
    refine x_iret dX9_says_53 rfl (Nat.le_of_ble_eq_true rfl) (Nat.le_of_ble_eq_true rfl) ?_
    refine ⟨rfl, ?_⟩
    first | (rw [syI, if_pos (by assumption)] <;> rfl) | (rw [syI, if_neg (by simpa using c30), if_pos c41] <;> rfl) | (rw [syI, if_neg (by simpa using c30), if_neg c41] <;> rfl)
  · have c30 : (bI (srL (hB tb nts) (nmI wk L p) 4 0).2.1) = 0 := c30
    refine x_aload_n dX9_says_33 rfl ?_
    refine x_get dX9_says_34 0 13 inX9 fl_X9_119 rfl rfl (by decide) rfl ?_
    refine x_aload_n dX9_says_37 rfl ?_
    refine x_cVi0 dX9_says_38 ml_X9_122 mX9_end (ct_end_t κ.2.1 g aN aNs aNk aNf aNr aNp aNb aNa aNt aNbo aNsz aNnu aNl aNal aNlo aNw aNtr aNis aNbg aNow nts ((srL (hB tb nts) (nmI wk L p) 4 0).1) 0 p nac nkp (bI (srL (hB tb nts) (nmI wk L p) 4 0).2.1) nnw nsn nwn gr wk lk sz br z ru ki ma bb hd ce tb) [0, 1, 2] rfl rfl 0 rfl rfl rfl (Nat.le_of_ble_eq_true rfl) (by decide) (Nat.le_refl _) (Nat.le_refl _) ?_
    refine x_icmp_ge dX9_says_41 (fun c41 => ?_) (fun c41 => ?_)
    · have c41 : (nI nts) ≤ (nI ((srL (hB tb nts) (nmI wk L p) 4 0).1)) := c41
      have c41n := (nI_leI (a := nts) (b := ((srL (hB tb nts) (nmI wk L p) 4 0).1)) (by omega) (by omega)).mp c41
      refine x_iconst 0 dX9_says_48 (by decide) ?_
      refine x_put (ws' := [(aN, .inr (9, [.ref aNs, .ref aNk, .int nkp, .ref aNf, .ref aNr, .ref aNp, .ref aNb, .ref aNa, .ref aNt, .int (nI nts), .ref aNbo, .ref aNsz, .ref aNnu, .int (nI ((srL (hB tb nts) (nmI wk L p) 4 0).1)), .int 0, .int 0, .int 1, .int (nI p), .int nnw, .int nsn, .int nwn, .ref aNl, .ref aNal, .ref aNlo, .int (nI nac), .ref aNw, .ref aNtr, .ref aNis, .ref aNbg, .ref aNow])), (aNs, .inl (g.2.1 0, 919, .inl (msF gr wk z lk sz br ru ki ma bb ce hd))), (aNt, .inl (g.2.1 0, 60, .inl (nIf tb))), (aNa, .inl (g.2.1 0, 2475, .inl (nIf fcN))), (aNr, .inl (g.2.1 0, 495, .inl (nIf rowB))), (aNb, .inl (g.2.1 0, 4096, .inl (nIf popN)))]) dX9_says_49 0 15 inX9 tyX9_ok nmX9 fl_X9_135 rfl rfl (by decide) rfl (rfl) rfl (xlt rfl) rfl ?_
      refine x_iload_n dX9_says_52 rfl ?_
      rw [← hQ]
      refine x_iret dX9_says_53 rfl (Nat.le_of_ble_eq_true rfl) (Nat.le_of_ble_eq_true rfl) ?_
      refine ⟨rfl, ?_⟩
      first | (rw [syI, if_pos (by assumption)] <;> rfl) | (rw [syI, if_neg (by simpa using c30), if_pos c41] <;> rfl) | (rw [syI, if_neg (by simpa using c30), if_neg c41] <;> rfl)
    · have c41 : ¬ ((nI nts) ≤ (nI ((srL (hB tb nts) (nmI wk L p) 4 0).1))) := c41
      have c41n := mt (nI_leI (a := nts) (b := ((srL (hB tb nts) (nmI wk L p) 4 0).1)) (by omega) (by omega)).mpr c41
      refine x_iconst 1 dX9_says_44 (by decide) ?_
      refine x_goto dX9_says_45 ?_
      refine x_put (ws' := [(aN, .inr (9, [.ref aNs, .ref aNk, .int nkp, .ref aNf, .ref aNr, .ref aNp, .ref aNb, .ref aNa, .ref aNt, .int (nI nts), .ref aNbo, .ref aNsz, .ref aNnu, .int (nI ((srL (hB tb nts) (nmI wk L p) 4 0).1)), .int 0, .int 1, .int 1, .int (nI p), .int nnw, .int nsn, .int nwn, .ref aNl, .ref aNal, .ref aNlo, .int (nI nac), .ref aNw, .ref aNtr, .ref aNis, .ref aNbg, .ref aNow])), (aNs, .inl (g.2.1 0, 919, .inl (msF gr wk z lk sz br ru ki ma bb ce hd))), (aNt, .inl (g.2.1 0, 60, .inl (nIf tb))), (aNa, .inl (g.2.1 0, 2475, .inl (nIf fcN))), (aNr, .inl (g.2.1 0, 495, .inl (nIf rowB))), (aNb, .inl (g.2.1 0, 4096, .inl (nIf popN)))]) dX9_says_49 0 15 inX9 tyX9_ok nmX9 fl_X9_135 rfl rfl (by decide) rfl (rfl) rfl (xlt rfl) rfl ?_
      refine x_iload_n dX9_says_52 rfl ?_
      rw [← hQ]
      refine x_iret dX9_says_53 rfl (Nat.le_of_ble_eq_true rfl) (Nat.le_of_ble_eq_true rfl) ?_
      refine ⟨rfl, ?_⟩
      first | (rw [syI, if_pos (by assumption)] <;> rfl) | (rw [syI, if_neg (by simpa using c30), if_pos c41] <;> rfl) | (rw [syI, if_neg (by simpa using c30), if_neg c41] <;> rfl)

-- == nliking_f ==
theorem dX9_liking_0 : xd cX9_liking 0 (.aload_n 0) 1 1 := ⟨by decide +kernel, rfl⟩
theorem dX9_liking_1 : xd cX9_liking 1 (.iconst 1) 1 2 := ⟨by decide +kernel, rfl⟩
theorem dX9_liking_2 : xd cX9_liking 2 (.putfield 112) 3 5 := ⟨by decide +kernel, rfl⟩
theorem dX9_liking_5 : xd cX9_liking 5 (.aload_n 0) 1 6 := ⟨by decide +kernel, rfl⟩
theorem dX9_liking_6 : xd cX9_liking 6 (.iconst 0) 1 7 := ⟨by decide +kernel, rfl⟩
theorem dX9_liking_7 : xd cX9_liking 7 (.invokevirtual 175) 3 10 := ⟨by decide +kernel, rfl⟩
theorem dX9_liking_10 : xd cX9_liking 10 (.istore_n 1) 1 11 := ⟨by decide +kernel, rfl⟩
theorem dX9_liking_11 : xd cX9_liking 11 (.aload_n 0) 1 12 := ⟨by decide +kernel, rfl⟩
theorem dX9_liking_12 : xd cX9_liking 12 (.iconst 0) 1 13 := ⟨by decide +kernel, rfl⟩
theorem dX9_liking_13 : xd cX9_liking 13 (.putfield 112) 3 16 := ⟨by decide +kernel, rfl⟩
theorem dX9_liking_16 : xd cX9_liking 16 (.aload_n 0) 1 17 := ⟨by decide +kernel, rfl⟩
theorem dX9_liking_17 : xd cX9_liking 17 (.getfield 135) 3 20 := ⟨by decide +kernel, rfl⟩
theorem dX9_liking_20 : xj cX9_liking 20 (.ifCond .eq) 23 30 := ⟨10, by decide +kernel, rfl, by decide⟩
theorem dX9_liking_23 : xd cX9_liking 23 (.iconst (-1)) 1 24 := ⟨by decide +kernel, rfl⟩
theorem dX9_liking_24 : xd cX9_liking 24 (.aload_n 0) 1 25 := ⟨by decide +kernel, rfl⟩
theorem dX9_liking_25 : xd cX9_liking 25 (.getfield 119) 3 28 := ⟨by decide +kernel, rfl⟩
theorem dX9_liking_28 : xd cX9_liking 28 .isub 1 29 := ⟨by decide +kernel, rfl⟩
theorem dX9_liking_29 : xd cX9_liking 29 .ireturn 1 30 := ⟨by decide +kernel, rfl⟩
theorem dX9_liking_30 : xd cX9_liking 30 (.iconst 0) 1 31 := ⟨by decide +kernel, rfl⟩
theorem dX9_liking_31 : xd cX9_liking 31 (.istore_n 2) 1 32 := ⟨by decide +kernel, rfl⟩
theorem dX9_liking_32 : xd cX9_liking 32 (.iload_n 2) 1 33 := ⟨by decide +kernel, rfl⟩
theorem dX9_liking_33 : xd cX9_liking 33 (.aload_n 0) 1 34 := ⟨by decide +kernel, rfl⟩
theorem dX9_liking_34 : xd cX9_liking 34 (.getfield 115) 3 37 := ⟨by decide +kernel, rfl⟩
theorem dX9_liking_37 : xj cX9_liking 37 (.if_icmp .ge) 40 61 := ⟨24, by decide +kernel, rfl, by decide⟩
theorem dX9_liking_40 : xd cX9_liking 40 (.aload_n 0) 1 41 := ⟨by decide +kernel, rfl⟩
theorem dX9_liking_41 : xd cX9_liking 41 (.getfield 7) 3 44 := ⟨by decide +kernel, rfl⟩
theorem dX9_liking_44 : xd cX9_liking 44 (.bipush 44) 2 46 := ⟨by decide +kernel, rfl⟩
theorem dX9_liking_46 : xd cX9_liking 46 (.iload_n 2) 1 47 := ⟨by decide +kernel, rfl⟩
theorem dX9_liking_47 : xd cX9_liking 47 .iadd 1 48 := ⟨by decide +kernel, rfl⟩
theorem dX9_liking_48 : xd cX9_liking 48 (.aload_n 0) 1 49 := ⟨by decide +kernel, rfl⟩
theorem dX9_liking_49 : xd cX9_liking 49 (.getfield 31) 3 52 := ⟨by decide +kernel, rfl⟩
theorem dX9_liking_52 : xd cX9_liking 52 (.iload_n 2) 1 53 := ⟨by decide +kernel, rfl⟩
theorem dX9_liking_53 : xd cX9_liking 53 .iaload 1 54 := ⟨by decide +kernel, rfl⟩
theorem dX9_liking_54 : xd cX9_liking 54 .iastore 1 55 := ⟨by decide +kernel, rfl⟩
theorem dX9_liking_55 : xd cX9_liking 55 (.iinc 2 1) 3 58 := ⟨by decide +kernel, rfl⟩
theorem dX9_liking_58 : xj cX9_liking 58 .goto 61 32 := ⟨(-26), by decide +kernel, rfl, by decide⟩
theorem dX9_liking_61 : xd cX9_liking 61 (.aload_n 0) 1 62 := ⟨by decide +kernel, rfl⟩
theorem dX9_liking_62 : xd cX9_liking 62 (.getfield 7) 3 65 := ⟨by decide +kernel, rfl⟩
theorem dX9_liking_65 : xd cX9_liking 65 (.iconst 4) 1 66 := ⟨by decide +kernel, rfl⟩
theorem dX9_liking_66 : xd cX9_liking 66 (.aload_n 0) 1 67 := ⟨by decide +kernel, rfl⟩
theorem dX9_liking_67 : xd cX9_liking 67 (.getfield 115) 3 70 := ⟨by decide +kernel, rfl⟩
theorem dX9_liking_70 : xd cX9_liking 70 .iastore 1 71 := ⟨by decide +kernel, rfl⟩
theorem dX9_liking_71 : xd cX9_liking 71 (.aload_n 0) 1 72 := ⟨by decide +kernel, rfl⟩
theorem dX9_liking_72 : xd cX9_liking 72 (.getfield 7) 3 75 := ⟨by decide +kernel, rfl⟩
theorem dX9_liking_75 : xd cX9_liking 75 (.iconst 3) 1 76 := ⟨by decide +kernel, rfl⟩
theorem dX9_liking_76 : xd cX9_liking 76 (.iconst 1) 1 77 := ⟨by decide +kernel, rfl⟩
theorem dX9_liking_77 : xd cX9_liking 77 .iastore 1 78 := ⟨by decide +kernel, rfl⟩
theorem dX9_liking_78 : xd cX9_liking 78 (.aload_n 0) 1 79 := ⟨by decide +kernel, rfl⟩
theorem dX9_liking_79 : xd cX9_liking 79 (.iconst 0) 1 80 := ⟨by decide +kernel, rfl⟩
theorem dX9_liking_80 : xd cX9_liking 80 (.putfield 115) 3 83 := ⟨by decide +kernel, rfl⟩
theorem dX9_liking_83 : xd cX9_liking 83 (.aload_n 0) 1 84 := ⟨by decide +kernel, rfl⟩
theorem dX9_liking_84 : xd cX9_liking 84 (.iconst 1) 1 85 := ⟨by decide +kernel, rfl⟩
theorem dX9_liking_85 : xd cX9_liking 85 (.putfield 44) 3 88 := ⟨by decide +kernel, rfl⟩
theorem dX9_liking_88 : xd cX9_liking 88 (.aload_n 0) 1 89 := ⟨by decide +kernel, rfl⟩
theorem dX9_liking_89 : xd cX9_liking 89 (.iconst 1) 1 90 := ⟨by decide +kernel, rfl⟩
theorem dX9_liking_90 : xd cX9_liking 90 (.putfield 48) 3 93 := ⟨by decide +kernel, rfl⟩
theorem dX9_liking_93 : xd cX9_liking 93 (.iconst 0) 1 94 := ⟨by decide +kernel, rfl⟩
theorem dX9_liking_94 : xd cX9_liking 94 .ireturn 1 95 := ⟨by decide +kernel, rfl⟩

set_option maxRecDepth 100000 in
set_option maxHeartbeats 4000000 in
theorem ct_nliking_f (l : Launch) (g : XG) (aN aNs aNk aNf aNr aNp aNb aNa aNt aNbo aNsz aNnu aNl aNal aNlo aNw aNtr aNis aNbg aNow nts nta nop npr nac : Nat) (nkp nbd ntp nnw nsn nwn : Int32) (gr wk lk sz br : Nat) (z : Int32) (ru ki ma bb hd : Nat → Nat) (ce : Nat → Int32) (tb : Nat → Nat) (L : Nat) (hts : nts ≤ 60) (htb : ∀ j, tb j < 256) (hwk : wk ≤ 40) (hlat : latI ce wk = nI L) (hq : syI (srL (hB tb nts) (nmI wk L 0) 4 0) nts = 1) : Ct l g 34 0 0 yX9_liking cX9_liking 3 (some .int) [.ref aN] [(aN, .inr (9, [.ref aNs, .ref aNk, .int nkp, .ref aNf, .ref aNr, .ref aNp, .ref aNb, .ref aNa, .ref aNt, .int (nI nts), .ref aNbo, .ref aNsz, .ref aNnu, .int (nI nta), .int (nI nop), .int nbd, .int ntp, .int (nI npr), .int nnw, .int nsn, .int nwn, .ref aNl, .ref aNal, .ref aNlo, .int (nI nac), .ref aNw, .ref aNtr, .ref aNis, .ref aNbg, .ref aNow])), (aNs, .inl (g.2.1 0, 919, .inl (msF gr wk z lk sz br ru ki ma bb ce hd))), (aNt, .inl (g.2.1 0, 60, .inl (nIf tb))), (aNa, .inl (g.2.1 0, 2475, .inl (nIf fcN))), (aNr, .inl (g.2.1 0, 495, .inl (nIf rowB))), (aNb, .inl (g.2.1 0, 4096, .inl (nIf popN)))] (xpi ((-1) - nI (srL (hB tb nts) (nmI wk L 0) 4 0).1) [(aN, .inr (9, [.ref aNs, .ref aNk, .int nkp, .ref aNf, .ref aNr, .ref aNp, .ref aNb, .ref aNa, .ref aNt, .int (nI nts), .ref aNbo, .ref aNsz, .ref aNnu, .int (nI ((srL (hB tb nts) (nmI wk L 0) 4 0).1)), .int 0, .int (syI (srL (hB tb nts) (nmI wk L 0) 4 0) nts), .int 0, .int 0, .int nnw, .int nsn, .int nwn, .ref aNl, .ref aNal, .ref aNlo, .int (nI nac), .ref aNw, .ref aNtr, .ref aNis, .ref aNbg, .ref aNow])), (aNs, .inl (g.2.1 0, 919, .inl (msF gr wk z lk sz br ru ki ma bb ce hd))), (aNt, .inl (g.2.1 0, 60, .inl (nIf tb))), (aNa, .inl (g.2.1 0, 2475, .inl (nIf fcN))), (aNr, .inl (g.2.1 0, 495, .inl (nIf rowB))), (aNb, .inl (g.2.1 0, 4096, .inl (nIf popN)))]) := by
  refine Ct.ofX (lv := [some (.ref aN), none, none]) (by decide) rfl (Nat.le_of_ble_eq_true rfl) (fun κ => ?_)
  generalize hQ : xQ κ g 0 0 _ = Q
  refine x_aload_n dX9_liking_0 rfl ?_
  refine x_iconst 1 dX9_liking_1 (by decide) ?_
  refine x_put (ws' := [(aN, .inr (9, [.ref aNs, .ref aNk, .int nkp, .ref aNf, .ref aNr, .ref aNp, .ref aNb, .ref aNa, .ref aNt, .int (nI nts), .ref aNbo, .ref aNsz, .ref aNnu, .int (nI nta), .int (nI nop), .int nbd, .int 1, .int (nI npr), .int nnw, .int nsn, .int nwn, .ref aNl, .ref aNal, .ref aNlo, .int (nI nac), .ref aNw, .ref aNtr, .ref aNis, .ref aNbg, .ref aNow])), (aNs, .inl (g.2.1 0, 919, .inl (msF gr wk z lk sz br ru ki ma bb ce hd))), (aNt, .inl (g.2.1 0, 60, .inl (nIf tb))), (aNa, .inl (g.2.1 0, 2475, .inl (nIf fcN))), (aNr, .inl (g.2.1 0, 495, .inl (nIf rowB))), (aNb, .inl (g.2.1 0, 4096, .inl (nIf popN)))]) dX9_liking_2 0 16 inX9 tyX9_ok nmX9 fl_X9_112 rfl rfl (by decide) rfl (rfl) rfl (xlt rfl) rfl ?_
  refine x_aload_n dX9_liking_5 rfl ?_
  refine x_iconst 0 dX9_liking_6 (by decide) ?_
  refine x_cVi (ws' := [(aN, .inr (9, [.ref aNs, .ref aNk, .int nkp, .ref aNf, .ref aNr, .ref aNp, .ref aNb, .ref aNa, .ref aNt, .int (nI nts), .ref aNbo, .ref aNsz, .ref aNnu, .int (nI ((srL (hB tb nts) (nmI wk L 0) 4 0).1)), .int 0, .int (syI (srL (hB tb nts) (nmI wk L 0) 4 0) nts), .int 1, .int 0, .int nnw, .int nsn, .int nwn, .ref aNl, .ref aNal, .ref aNlo, .int (nI nac), .ref aNw, .ref aNtr, .ref aNis, .ref aNbg, .ref aNow])), (aNs, .inl (g.2.1 0, 919, .inl (msF gr wk z lk sz br ru ki ma bb ce hd))), (aNt, .inl (g.2.1 0, 60, .inl (nIf tb))), (aNa, .inl (g.2.1 0, 2475, .inl (nIf fcN))), (aNr, .inl (g.2.1 0, 495, .inl (nIf rowB))), (aNb, .inl (g.2.1 0, 4096, .inl (nIf popN)))]) dX9_liking_7 ml_X9_175 mX9_says (ct_nsays_t κ.2.1 g aN aNs aNk aNf aNr aNp aNb aNa aNt aNbo aNsz aNnu aNl aNal aNlo aNw aNtr aNis aNbg aNow nts nta nop npr nac nkp nbd nnw nsn nwn gr wk lk sz br z ru ki ma bb hd ce tb L 0 (hts) (htb) (by decide) (hwk) (hlat)) [0, 1, 2, 3, 4, 5] rfl rfl 0 rfl rfl rfl (Nat.le_of_ble_eq_true rfl) (by decide) (Nat.le_refl _) (Nat.le_refl _) (rfl : [aN, aNs, aNt, aNa, aNr, aNb] = [aN, aNs, aNt, aNa, aNr, aNb]) rfl ?_
  refine x_istore_n (lv' := [some (.ref aN), some (.int ((srL (hB tb nts) (nmI wk L 0) 4 0).2.2)), none]) dX9_liking_10 (xlt rfl) rfl ?_
  refine x_aload_n dX9_liking_11 rfl ?_
  refine x_iconst 0 dX9_liking_12 (by decide) ?_
  refine x_put (ws' := [(aN, .inr (9, [.ref aNs, .ref aNk, .int nkp, .ref aNf, .ref aNr, .ref aNp, .ref aNb, .ref aNa, .ref aNt, .int (nI nts), .ref aNbo, .ref aNsz, .ref aNnu, .int (nI ((srL (hB tb nts) (nmI wk L 0) 4 0).1)), .int 0, .int (syI (srL (hB tb nts) (nmI wk L 0) 4 0) nts), .int 0, .int 0, .int nnw, .int nsn, .int nwn, .ref aNl, .ref aNal, .ref aNlo, .int (nI nac), .ref aNw, .ref aNtr, .ref aNis, .ref aNbg, .ref aNow])), (aNs, .inl (g.2.1 0, 919, .inl (msF gr wk z lk sz br ru ki ma bb ce hd))), (aNt, .inl (g.2.1 0, 60, .inl (nIf tb))), (aNa, .inl (g.2.1 0, 2475, .inl (nIf fcN))), (aNr, .inl (g.2.1 0, 495, .inl (nIf rowB))), (aNb, .inl (g.2.1 0, 4096, .inl (nIf popN)))]) dX9_liking_13 0 16 inX9 tyX9_ok nmX9 fl_X9_112 rfl rfl (by decide) rfl (rfl) rfl (xlt rfl) rfl ?_
  refine x_aload_n dX9_liking_16 rfl ?_
  refine x_get dX9_liking_17 0 15 inX9 fl_X9_135 rfl rfl (by decide) rfl ?_
  refine x_if_eq dX9_liking_20 (fun c20 => ?_) (fun c20 => ?_)
  · have c20 : (syI (srL (hB tb nts) (nmI wk L 0) 4 0) nts) = 0 := c20
    exact absurd c20 (by rw [hq]; decide)
  · have c20 : ¬ ((syI (srL (hB tb nts) (nmI wk L 0) 4 0) nts) = 0) := c20
    refine x_iconst (-1) dX9_liking_23 (by decide) ?_
    refine x_aload_n dX9_liking_24 rfl ?_
    refine x_get dX9_liking_25 0 13 inX9 fl_X9_119 rfl rfl (by decide) rfl ?_
    refine x_isub dX9_liking_28 ?_
    rw [← hQ]
    refine x_iret dX9_liking_29 rfl (Nat.le_of_ble_eq_true rfl) (Nat.le_of_ble_eq_true rfl) ?_
    exact ⟨rfl, rfl⟩

-- == nliking_o ==
set_option maxRecDepth 100000 in
set_option maxHeartbeats 4000000 in
theorem ct_nliking_o (l : Launch) (g : XG) (aN aNs aNk aNf aNr aNp aNb aNa aNt aNbo aNsz aNnu aNl aNal aNlo aNw aNtr aNis aNbg aNow nts nta nop npr nac : Nat) (nkp nbd ntp nnw nsn nwn : Int32) (gr wk lk sz br : Nat) (z : Int32) (ru ki ma bb hd : Nat → Nat) (ce : Nat → Int32) (tb : Nat → Nat) (L : Nat) (hts : nts ≤ 60) (htb : ∀ j, tb j < 256) (hwk : wk ≤ 40) (hlat : latI ce wk = nI L) (hq : syI (srL (hB tb nts) (nmI wk L 0) 4 0) nts = 0) : Ct l g 34 0 0 yX9_liking cX9_liking 3 (some .int) [.ref aN] [(aN, .inr (9, [.ref aNs, .ref aNk, .int nkp, .ref aNf, .ref aNr, .ref aNp, .ref aNb, .ref aNa, .ref aNt, .int (nI nts), .ref aNbo, .ref aNsz, .ref aNnu, .int (nI nta), .int (nI nop), .int nbd, .int ntp, .int (nI npr), .int nnw, .int nsn, .int nwn, .ref aNl, .ref aNal, .ref aNlo, .int (nI nac), .ref aNw, .ref aNtr, .ref aNis, .ref aNbg, .ref aNow])), (aNs, .inl (g.2.1 0, 919, .inl (msF gr wk z lk sz br ru ki ma bb ce hd))), (aNt, .inl (g.2.1 0, 60, .inl (nIf tb))), (aNa, .inl (g.2.1 0, 2475, .inl (nIf fcN))), (aNr, .inl (g.2.1 0, 495, .inl (nIf rowB))), (aNb, .inl (g.2.1 0, 4096, .inl (nIf popN)))] (xpi (0) [(aN, .inr (9, [.ref aNs, .ref aNk, .int nkp, .ref aNf, .ref aNr, .ref aNp, .ref aNb, .ref aNa, .ref aNt, .int 0, .ref aNbo, .ref aNsz, .ref aNnu, .int (nI ((srL (hB tb nts) (nmI wk L 0) 4 0).1)), .int 0, .int (syI (srL (hB tb nts) (nmI wk L 0) 4 0) nts), .int 0, .int 0, .int 1, .int 1, .int nwn, .ref aNl, .ref aNal, .ref aNlo, .int (nI nac), .ref aNw, .ref aNtr, .ref aNis, .ref aNbg, .ref aNow])), (aNs, .inl (g.2.1 0, 919, .inl (msF gr wk z 1 nts br ru ki ma (fillT nts tb bb) ce hd))), (aNt, .inl (g.2.1 0, 60, .inl (nIf tb))), (aNa, .inl (g.2.1 0, 2475, .inl (nIf fcN))), (aNr, .inl (g.2.1 0, 495, .inl (nIf rowB))), (aNb, .inl (g.2.1 0, 4096, .inl (nIf popN)))]) := by
  refine Ct.ofX (lv := [some (.ref aN), none, none]) (by decide) rfl (Nat.le_of_ble_eq_true rfl) (fun κ => ?_)
  generalize hQ : xQ κ g 0 0 _ = Q
  refine x_aload_n dX9_liking_0 rfl ?_
  refine x_iconst 1 dX9_liking_1 (by decide) ?_
  refine x_put (ws' := [(aN, .inr (9, [.ref aNs, .ref aNk, .int nkp, .ref aNf, .ref aNr, .ref aNp, .ref aNb, .ref aNa, .ref aNt, .int (nI nts), .ref aNbo, .ref aNsz, .ref aNnu, .int (nI nta), .int (nI nop), .int nbd, .int 1, .int (nI npr), .int nnw, .int nsn, .int nwn, .ref aNl, .ref aNal, .ref aNlo, .int (nI nac), .ref aNw, .ref aNtr, .ref aNis, .ref aNbg, .ref aNow])), (aNs, .inl (g.2.1 0, 919, .inl (msF gr wk z lk sz br ru ki ma bb ce hd))), (aNt, .inl (g.2.1 0, 60, .inl (nIf tb))), (aNa, .inl (g.2.1 0, 2475, .inl (nIf fcN))), (aNr, .inl (g.2.1 0, 495, .inl (nIf rowB))), (aNb, .inl (g.2.1 0, 4096, .inl (nIf popN)))]) dX9_liking_2 0 16 inX9 tyX9_ok nmX9 fl_X9_112 rfl rfl (by decide) rfl (rfl) rfl (xlt rfl) rfl ?_
  refine x_aload_n dX9_liking_5 rfl ?_
  refine x_iconst 0 dX9_liking_6 (by decide) ?_
  refine x_cVi (ws' := [(aN, .inr (9, [.ref aNs, .ref aNk, .int nkp, .ref aNf, .ref aNr, .ref aNp, .ref aNb, .ref aNa, .ref aNt, .int (nI nts), .ref aNbo, .ref aNsz, .ref aNnu, .int (nI ((srL (hB tb nts) (nmI wk L 0) 4 0).1)), .int 0, .int (syI (srL (hB tb nts) (nmI wk L 0) 4 0) nts), .int 1, .int 0, .int nnw, .int nsn, .int nwn, .ref aNl, .ref aNal, .ref aNlo, .int (nI nac), .ref aNw, .ref aNtr, .ref aNis, .ref aNbg, .ref aNow])), (aNs, .inl (g.2.1 0, 919, .inl (msF gr wk z lk sz br ru ki ma bb ce hd))), (aNt, .inl (g.2.1 0, 60, .inl (nIf tb))), (aNa, .inl (g.2.1 0, 2475, .inl (nIf fcN))), (aNr, .inl (g.2.1 0, 495, .inl (nIf rowB))), (aNb, .inl (g.2.1 0, 4096, .inl (nIf popN)))]) dX9_liking_7 ml_X9_175 mX9_says (ct_nsays_t κ.2.1 g aN aNs aNk aNf aNr aNp aNb aNa aNt aNbo aNsz aNnu aNl aNal aNlo aNw aNtr aNis aNbg aNow nts nta nop npr nac nkp nbd nnw nsn nwn gr wk lk sz br z ru ki ma bb hd ce tb L 0 (hts) (htb) (by decide) (hwk) (hlat)) [0, 1, 2, 3, 4, 5] rfl rfl 0 rfl rfl rfl (Nat.le_of_ble_eq_true rfl) (by decide) (Nat.le_refl _) (Nat.le_refl _) (rfl : [aN, aNs, aNt, aNa, aNr, aNb] = [aN, aNs, aNt, aNa, aNr, aNb]) rfl ?_
  refine x_istore_n (lv' := [some (.ref aN), some (.int ((srL (hB tb nts) (nmI wk L 0) 4 0).2.2)), none]) dX9_liking_10 (xlt rfl) rfl ?_
  refine x_aload_n dX9_liking_11 rfl ?_
  refine x_iconst 0 dX9_liking_12 (by decide) ?_
  refine x_put (ws' := [(aN, .inr (9, [.ref aNs, .ref aNk, .int nkp, .ref aNf, .ref aNr, .ref aNp, .ref aNb, .ref aNa, .ref aNt, .int (nI nts), .ref aNbo, .ref aNsz, .ref aNnu, .int (nI ((srL (hB tb nts) (nmI wk L 0) 4 0).1)), .int 0, .int (syI (srL (hB tb nts) (nmI wk L 0) 4 0) nts), .int 0, .int 0, .int nnw, .int nsn, .int nwn, .ref aNl, .ref aNal, .ref aNlo, .int (nI nac), .ref aNw, .ref aNtr, .ref aNis, .ref aNbg, .ref aNow])), (aNs, .inl (g.2.1 0, 919, .inl (msF gr wk z lk sz br ru ki ma bb ce hd))), (aNt, .inl (g.2.1 0, 60, .inl (nIf tb))), (aNa, .inl (g.2.1 0, 2475, .inl (nIf fcN))), (aNr, .inl (g.2.1 0, 495, .inl (nIf rowB))), (aNb, .inl (g.2.1 0, 4096, .inl (nIf popN)))]) dX9_liking_13 0 16 inX9 tyX9_ok nmX9 fl_X9_112 rfl rfl (by decide) rfl (rfl) rfl (xlt rfl) rfl ?_
  refine x_aload_n dX9_liking_16 rfl ?_
  refine x_get dX9_liking_17 0 15 inX9 fl_X9_135 rfl rfl (by decide) rfl ?_
  refine x_if_eq dX9_liking_20 (fun c20 => ?_) (fun c20 => ?_)
  · have c20 : (syI (srL (hB tb nts) (nmI wk L 0) 4 0) nts) = 0 := c20
    refine x_iconst 0 dX9_liking_30 (by decide) ?_
    refine x_istore_n (lv' := [some (.ref aN), some (.int ((srL (hB tb nts) (nmI wk L 0) 4 0).2.2)), some (.int 0)]) dX9_liking_31 (xlt rfl) rfl ?_
    have L32_1 : ∀ (i : Nat), i ≤ nts → ∀ (bf : Nat → Nat), bf = fillT i tb bb → Xs κ g 34 0 0 cX9_liking yX9_liking (some .int) Q 0 0 32 [some (.ref aN), some (.int ((srL (hB tb nts) (nmI wk L 0) 4 0).2.2)), some (.int (nI i))] [] [(aN, .inr (9, [.ref aNs, .ref aNk, .int nkp, .ref aNf, .ref aNr, .ref aNp, .ref aNb, .ref aNa, .ref aNt, .int (nI nts), .ref aNbo, .ref aNsz, .ref aNnu, .int (nI ((srL (hB tb nts) (nmI wk L 0) 4 0).1)), .int 0, .int (syI (srL (hB tb nts) (nmI wk L 0) 4 0) nts), .int 0, .int 0, .int nnw, .int nsn, .int nwn, .ref aNl, .ref aNal, .ref aNlo, .int (nI nac), .ref aNw, .ref aNtr, .ref aNis, .ref aNbg, .ref aNow])), (aNs, .inl (g.2.1 0, 919, .inl (msF gr wk z lk sz br ru ki ma bf ce hd))), (aNt, .inl (g.2.1 0, 60, .inl (nIf tb))), (aNa, .inl (g.2.1 0, 2475, .inl (nIf fcN))), (aNr, .inl (g.2.1 0, 495, .inl (nIf rowB))), (aNb, .inl (g.2.1 0, 4096, .inl (nIf popN)))] := by
      refine upTo nts (fun i hi32 ih32 => ?_)
      intro bf ebf
      subst ebf
      refine x_iload_n dX9_liking_32 rfl ?_
      refine x_aload_n dX9_liking_33 rfl ?_
      refine x_get dX9_liking_34 0 9 inX9 fl_X9_115 rfl rfl (by decide) rfl ?_
      refine x_icmp_ge dX9_liking_37 (fun c37 => ?_) (fun c37 => ?_)
      · have c37 : (nI nts) ≤ (nI i) := c37
        have c37n := (nI_leI (a := nts) (b := i) (by omega) (by omega)).mp c37
        have hxc37 : i = nts := by omega
        try rw [hxc37]
        refine x_aload_n dX9_liking_61 rfl ?_
        refine x_get dX9_liking_62 0 0 inX9 fl_X9_7 rfl rfl (by decide) rfl ?_
        refine x_iconst 4 dX9_liking_65 (by decide) ?_
        refine x_aload_n dX9_liking_66 rfl ?_
        refine x_get dX9_liking_67 0 9 inX9 fl_X9_115 rfl rfl (by decide) rfl ?_
        refine x_rei (nI nts) rfl ?_
        refine x_iast (ws' := [(aN, .inr (9, [.ref aNs, .ref aNk, .int nkp, .ref aNf, .ref aNr, .ref aNp, .ref aNb, .ref aNa, .ref aNt, .int (nI nts), .ref aNbo, .ref aNsz, .ref aNnu, .int (nI ((srL (hB tb nts) (nmI wk L 0) 4 0).1)), .int 0, .int (syI (srL (hB tb nts) (nmI wk L 0) 4 0) nts), .int 0, .int 0, .int nnw, .int nsn, .int nwn, .ref aNl, .ref aNal, .ref aNlo, .int (nI nac), .ref aNw, .ref aNtr, .ref aNis, .ref aNbg, .ref aNow])), (aNs, .inl (g.2.1 0, 919, .inl (msF gr wk z lk nts br ru ki ma (fillT nts tb bb) ce hd))), (aNt, .inl (g.2.1 0, 60, .inl (nIf tb))), (aNa, .inl (g.2.1 0, 2475, .inl (nIf fcN))), (aNr, .inl (g.2.1 0, 495, .inl (nIf rowB))), (aNb, .inl (g.2.1 0, 4096, .inl (nIf popN)))]) dX9_liking_70 1 4 rfl (rfl) (by decide) (by decide) (by rw [mss_4]; rfl) ?_
        refine x_aload_n dX9_liking_71 rfl ?_
        refine x_get dX9_liking_72 0 0 inX9 fl_X9_7 rfl rfl (by decide) rfl ?_
        refine x_iconst 3 dX9_liking_75 (by decide) ?_
        refine x_iconst 1 dX9_liking_76 (by decide) ?_
        refine x_rei (nI 1) rfl ?_
        refine x_iast (ws' := [(aN, .inr (9, [.ref aNs, .ref aNk, .int nkp, .ref aNf, .ref aNr, .ref aNp, .ref aNb, .ref aNa, .ref aNt, .int (nI nts), .ref aNbo, .ref aNsz, .ref aNnu, .int (nI ((srL (hB tb nts) (nmI wk L 0) 4 0).1)), .int 0, .int (syI (srL (hB tb nts) (nmI wk L 0) 4 0) nts), .int 0, .int 0, .int nnw, .int nsn, .int nwn, .ref aNl, .ref aNal, .ref aNlo, .int (nI nac), .ref aNw, .ref aNtr, .ref aNis, .ref aNbg, .ref aNow])), (aNs, .inl (g.2.1 0, 919, .inl (msF gr wk z 1 nts br ru ki ma (fillT nts tb bb) ce hd))), (aNt, .inl (g.2.1 0, 60, .inl (nIf tb))), (aNa, .inl (g.2.1 0, 2475, .inl (nIf fcN))), (aNr, .inl (g.2.1 0, 495, .inl (nIf rowB))), (aNb, .inl (g.2.1 0, 4096, .inl (nIf popN)))]) dX9_liking_77 1 3 rfl (rfl) (by decide) (by decide) (by rw [mss_3]; rfl) ?_
        refine x_aload_n dX9_liking_78 rfl ?_
        refine x_iconst 0 dX9_liking_79 (by decide) ?_
        refine x_put (ws' := [(aN, .inr (9, [.ref aNs, .ref aNk, .int nkp, .ref aNf, .ref aNr, .ref aNp, .ref aNb, .ref aNa, .ref aNt, .int 0, .ref aNbo, .ref aNsz, .ref aNnu, .int (nI ((srL (hB tb nts) (nmI wk L 0) 4 0).1)), .int 0, .int (syI (srL (hB tb nts) (nmI wk L 0) 4 0) nts), .int 0, .int 0, .int nnw, .int nsn, .int nwn, .ref aNl, .ref aNal, .ref aNlo, .int (nI nac), .ref aNw, .ref aNtr, .ref aNis, .ref aNbg, .ref aNow])), (aNs, .inl (g.2.1 0, 919, .inl (msF gr wk z 1 nts br ru ki ma (fillT nts tb bb) ce hd))), (aNt, .inl (g.2.1 0, 60, .inl (nIf tb))), (aNa, .inl (g.2.1 0, 2475, .inl (nIf fcN))), (aNr, .inl (g.2.1 0, 495, .inl (nIf rowB))), (aNb, .inl (g.2.1 0, 4096, .inl (nIf popN)))]) dX9_liking_80 0 9 inX9 tyX9_ok nmX9 fl_X9_115 rfl rfl (by decide) rfl (rfl) rfl (xlt rfl) rfl ?_
        refine x_aload_n dX9_liking_83 rfl ?_
        refine x_iconst 1 dX9_liking_84 (by decide) ?_
        refine x_put (ws' := [(aN, .inr (9, [.ref aNs, .ref aNk, .int nkp, .ref aNf, .ref aNr, .ref aNp, .ref aNb, .ref aNa, .ref aNt, .int 0, .ref aNbo, .ref aNsz, .ref aNnu, .int (nI ((srL (hB tb nts) (nmI wk L 0) 4 0).1)), .int 0, .int (syI (srL (hB tb nts) (nmI wk L 0) 4 0) nts), .int 0, .int 0, .int 1, .int nsn, .int nwn, .ref aNl, .ref aNal, .ref aNlo, .int (nI nac), .ref aNw, .ref aNtr, .ref aNis, .ref aNbg, .ref aNow])), (aNs, .inl (g.2.1 0, 919, .inl (msF gr wk z 1 nts br ru ki ma (fillT nts tb bb) ce hd))), (aNt, .inl (g.2.1 0, 60, .inl (nIf tb))), (aNa, .inl (g.2.1 0, 2475, .inl (nIf fcN))), (aNr, .inl (g.2.1 0, 495, .inl (nIf rowB))), (aNb, .inl (g.2.1 0, 4096, .inl (nIf popN)))]) dX9_liking_85 0 18 inX9 tyX9_ok nmX9 fl_X9_44 rfl rfl (by decide) rfl (rfl) rfl (xlt rfl) rfl ?_
        refine x_aload_n dX9_liking_88 rfl ?_
        refine x_iconst 1 dX9_liking_89 (by decide) ?_
        refine x_put (ws' := [(aN, .inr (9, [.ref aNs, .ref aNk, .int nkp, .ref aNf, .ref aNr, .ref aNp, .ref aNb, .ref aNa, .ref aNt, .int 0, .ref aNbo, .ref aNsz, .ref aNnu, .int (nI ((srL (hB tb nts) (nmI wk L 0) 4 0).1)), .int 0, .int (syI (srL (hB tb nts) (nmI wk L 0) 4 0) nts), .int 0, .int 0, .int 1, .int 1, .int nwn, .ref aNl, .ref aNal, .ref aNlo, .int (nI nac), .ref aNw, .ref aNtr, .ref aNis, .ref aNbg, .ref aNow])), (aNs, .inl (g.2.1 0, 919, .inl (msF gr wk z 1 nts br ru ki ma (fillT nts tb bb) ce hd))), (aNt, .inl (g.2.1 0, 60, .inl (nIf tb))), (aNa, .inl (g.2.1 0, 2475, .inl (nIf fcN))), (aNr, .inl (g.2.1 0, 495, .inl (nIf rowB))), (aNb, .inl (g.2.1 0, 4096, .inl (nIf popN)))]) dX9_liking_90 0 19 inX9 tyX9_ok nmX9 fl_X9_48 rfl rfl (by decide) rfl (rfl) rfl (xlt rfl) rfl ?_
        refine x_iconst 0 dX9_liking_93 (by decide) ?_
        rw [← hQ]
        refine x_iret dX9_liking_94 rfl (Nat.le_of_ble_eq_true rfl) (Nat.le_of_ble_eq_true rfl) ?_
        exact ⟨rfl, rfl⟩
      · have c37 : ¬ ((nI nts) ≤ (nI i)) := c37
        have c37n := mt (nI_leI (a := nts) (b := i) (by omega) (by omega)).mpr c37
        refine x_aload_n dX9_liking_40 rfl ?_
        refine x_get dX9_liking_41 0 0 inX9 fl_X9_7 rfl rfl (by decide) rfl ?_
        refine x_bipush 44 dX9_liking_44 (by decide) ?_
        refine x_iload_n dX9_liking_46 rfl ?_
        refine x_iadd dX9_liking_47 ?_
        refine x_rei (nI (44 + i)) (nI_iadd 44 i) ?_
        refine x_aload_n dX9_liking_48 rfl ?_
        refine x_get dX9_liking_49 0 8 inX9 fl_X9_31 rfl rfl (by decide) rfl ?_
        refine x_iload_n dX9_liking_52 rfl ?_
        refine x_iald dX9_liking_53 2 i rfl (rfl) (by omega) (by decide) ?_
        refine x_rei (nI (tb i)) rfl ?_
        refine x_iast (ws' := [(aN, .inr (9, [.ref aNs, .ref aNk, .int nkp, .ref aNf, .ref aNr, .ref aNp, .ref aNb, .ref aNa, .ref aNt, .int (nI nts), .ref aNbo, .ref aNsz, .ref aNnu, .int (nI ((srL (hB tb nts) (nmI wk L 0) 4 0).1)), .int 0, .int (syI (srL (hB tb nts) (nmI wk L 0) 4 0) nts), .int 0, .int 0, .int nnw, .int nsn, .int nwn, .ref aNl, .ref aNal, .ref aNlo, .int (nI nac), .ref aNw, .ref aNtr, .ref aNis, .ref aNbg, .ref aNow])), (aNs, .inl (g.2.1 0, 919, .inl (msF gr wk z lk sz br ru ki ma (updN ((fillT i tb bb)) i (tb i)) ce hd))), (aNt, .inl (g.2.1 0, 60, .inl (nIf tb))), (aNa, .inl (g.2.1 0, 2475, .inl (nIf fcN))), (aNr, .inl (g.2.1 0, 495, .inl (nIf rowB))), (aNb, .inl (g.2.1 0, 4096, .inl (nIf popN)))]) dX9_liking_54 1 (44 + i) rfl (rfl) (by omega) (by decide) (by rw [mss_bb (x := i) (by omega) (by omega)]; rfl) ?_
        refine x_iinc (lv' := [some (.ref aN), some (.int ((srL (hB tb nts) (nmI wk L 0) 4 0).2.2)), some (.int (nI (i + 1)))]) (nI (i + 1)) dX9_liking_55 rfl (nI_addc i 1 rfl) rfl ?_
        refine x_goto dX9_liking_58 ?_
        exact ih32 (by omega) _ (by exact fillT_updN i tb bb)
    exact L32_1 0 (Nat.zero_le _) _ (by exact (fillT_0 _ _).symm)
  · have c20 : ¬ ((syI (srL (hB tb nts) (nmI wk L 0) 4 0) nts) = 0) := c20
    exact absurd hq c20

