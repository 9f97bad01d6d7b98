
-- == X9_isOneLine ==
theorem dX9_isOneLine_0 : xd cX9_isOneLine 0 (.iload_n 0) 1 1 := ⟨by decide +kernel, rfl⟩
theorem dX9_isOneLine_1 : xd cX9_isOneLine 1 (.bipush (-16)) 2 3 := ⟨by decide +kernel, rfl⟩
theorem dX9_isOneLine_3 : xd cX9_isOneLine 3 .iand 1 4 := ⟨by decide +kernel, rfl⟩
theorem dX9_isOneLine_4 : xj cX9_isOneLine 4 (.ifCond .eq) 7 23 := ⟨19, by decide +kernel, rfl, by decide⟩
theorem dX9_isOneLine_7 : xd cX9_isOneLine 7 (.iload_n 0) 1 8 := ⟨by decide +kernel, rfl⟩
theorem dX9_isOneLine_8 : xd cX9_isOneLine 8 (.sipush (-241)) 3 11 := ⟨by decide +kernel, rfl⟩
theorem dX9_isOneLine_11 : xd cX9_isOneLine 11 .iand 1 12 := ⟨by decide +kernel, rfl⟩
theorem dX9_isOneLine_12 : xj cX9_isOneLine 12 (.ifCond .eq) 15 23 := ⟨11, by decide +kernel, rfl, by decide⟩
theorem dX9_isOneLine_15 : xd cX9_isOneLine 15 (.iload_n 0) 1 16 := ⟨by decide +kernel, rfl⟩
theorem dX9_isOneLine_16 : xd cX9_isOneLine 16 (.sipush (-3841)) 3 19 := ⟨by decide +kernel, rfl⟩
theorem dX9_isOneLine_19 : xd cX9_isOneLine 19 .iand 1 20 := ⟨by decide +kernel, rfl⟩
theorem dX9_isOneLine_20 : xj cX9_isOneLine 20 (.ifCond .ne) 23 27 := ⟨7, by decide +kernel, rfl, by decide⟩
theorem dX9_isOneLine_23 : xd cX9_isOneLine 23 (.iconst 1) 1 24 := ⟨by decide +kernel, rfl⟩
theorem dX9_isOneLine_24 : xj cX9_isOneLine 24 .goto 27 28 := ⟨4, by decide +kernel, rfl, by decide⟩
theorem dX9_isOneLine_27 : xd cX9_isOneLine 27 (.iconst 0) 1 28 := ⟨by decide +kernel, rfl⟩
theorem dX9_isOneLine_28 : xd cX9_isOneLine 28 .ireturn 1 29 := ⟨by decide +kernel, rfl⟩

set_option maxRecDepth 100000 in
set_option maxHeartbeats 4000000 in
theorem ct_X9_isOneLine (l : Launch) (g : XG) (r : Nat) (hr : r < 4096) : Ct l g 1 0 0 yX9_isOneLine cX9_isOneLine 1 (some .boolean) [.int (nI r)] [] (xpi (nI (lineF r)) []) := by
  refine Ct.ofX (lv := [some (.int (nI r))]) (by decide) rfl (Nat.le_of_ble_eq_true rfl) (fun κ => ?_)
  generalize hQ : xQ κ g 0 0 _ = Q
  refine x_iload_n dX9_isOneLine_0 rfl ?_
  refine x_bipush (-16) dX9_isOneLine_1 (by decide) ?_
  refine x_iand dX9_isOneLine_3 ?_
  have J4_8 : ∀ (v7 : Int32), v7 = (if ((nI r) &&& (-16)) = 0 then 1 else ((if ((nI r) &&& (-241)) = 0 then 1 else ((if ((nI r) &&& (-3841)) = 0 then 1 else 0))))) → Xs κ g 1 0 0 cX9_isOneLine yX9_isOneLine (some .boolean) Q 0 0 28 [some (.int (nI r))] [.int v7] [] := by
    intro v7 ev7
    rw [← hQ]
    refine x_zret dX9_isOneLine_28 rfl (by simp only [ev7, line2_eq hr]; exact nar01 (lineF_lt r)) (Nat.le_of_ble_eq_true rfl) (Nat.le_of_ble_eq_true rfl) ?_
    exact ⟨by simp only [ev7, line2_eq hr], rfl⟩
  refine x_if_eq dX9_isOneLine_4 (fun c4 => ?_) (fun c4 => ?_)
  · have c4 : ((nI r) &&& (-16)) = 0 := c4
    refine x_iconst 1 dX9_isOneLine_23 (by decide) ?_
    refine x_goto dX9_isOneLine_24 ?_
    exact J4_8 _ (if_pos c4).symm
  · have c4 : ¬ (((nI r) &&& (-16)) = 0) := c4
    refine x_iload_n dX9_isOneLine_7 rfl ?_
    refine x_sipush (-241) dX9_isOneLine_8 (by decide) ?_
    refine x_iand dX9_isOneLine_11 ?_
    have J12_12 : ∀ (v11 : Int32), v11 = (if ((nI r) &&& (-241)) = 0 then 1 else ((if ((nI r) &&& (-3841)) = 0 then 1 else 0))) → Xs κ g 1 0 0 cX9_isOneLine yX9_isOneLine (some .boolean) Q 0 0 28 [some (.int (nI r))] [.int v11] [] := by
      intro v11 ev11
      exact J4_8 _ (by rw [if_neg c4]; try simp only [ev11])
    refine x_if_eq dX9_isOneLine_12 (fun c12 => ?_) (fun c12 => ?_)
    · have c12 : ((nI r) &&& (-241)) = 0 := c12
      refine x_iconst 1 dX9_isOneLine_23 (by decide) ?_
      refine x_goto dX9_isOneLine_24 ?_
      exact J12_12 _ (if_pos c12).symm
    · have c12 : ¬ (((nI r) &&& (-241)) = 0) := c12
      refine x_iload_n dX9_isOneLine_15 rfl ?_
      refine x_sipush (-3841) dX9_isOneLine_16 (by decide) ?_
      refine x_iand dX9_isOneLine_19 ?_
      have J20_14 : ∀ (v13 : Int32), v13 = (if ((nI r) &&& (-3841)) = 0 then 1 else 0) → Xs κ g 1 0 0 cX9_isOneLine yX9_isOneLine (some .boolean) Q 0 0 28 [some (.int (nI r))] [.int v13] [] := by
        intro v13 ev13
        exact J12_12 _ (by rw [if_neg c12]; try simp only [ev13])
      refine x_if_ne dX9_isOneLine_20 (fun c20 => ?_) (fun c20 => ?_)
      · have c20 : ¬ (((nI r) &&& (-3841)) = 0) := c20
        refine x_iconst 0 dX9_isOneLine_27 (by decide) ?_
        exact J20_14 _ (if_neg c20).symm
      · have c20 : ((nI r) &&& (-3841)) = 0 := c20
        refine x_iconst 1 dX9_isOneLine_23 (by decide) ?_
        refine x_goto dX9_isOneLine_24 ?_
        exact J20_14 _ (if_pos c20).symm

-- == X9_isThreeUp ==
theorem dX9_isThreeUp_0 : xd cX9_isThreeUp 0 (.iconst 0) 1 1 := ⟨by decide +kernel, rfl⟩
theorem dX9_isThreeUp_1 : xd cX9_isThreeUp 1 (.istore_n 2) 1 2 := ⟨by decide +kernel, rfl⟩
theorem dX9_isThreeUp_2 : xd cX9_isThreeUp 2 (.iconst 0) 1 3 := ⟨by decide +kernel, rfl⟩
theorem dX9_isThreeUp_3 : xd cX9_isThreeUp 3 (.istore_n 3) 1 4 := ⟨by decide +kernel, rfl⟩
theorem dX9_isThreeUp_4 : xd cX9_isThreeUp 4 (.iload_n 3) 1 5 := ⟨by decide +kernel, rfl⟩
theorem dX9_isThreeUp_5 : xd cX9_isThreeUp 5 (.iconst 4) 1 6 := ⟨by decide +kernel, rfl⟩
theorem dX9_isThreeUp_6 : xj cX9_isThreeUp 6 (.if_icmp .ge) 9 40 := ⟨34, by decide +kernel, rfl, by decide⟩
theorem dX9_isThreeUp_9 : xd cX9_isThreeUp 9 (.iload_n 2) 1 10 := ⟨by decide +kernel, rfl⟩
theorem dX9_isThreeUp_10 : xj cX9_isThreeUp 10 (.ifCond .ne) 13 28 := ⟨18, by decide +kernel, rfl, by decide⟩
theorem dX9_isThreeUp_13 : xd cX9_isThreeUp 13 (.aload_n 0) 1 14 := ⟨by decide +kernel, rfl⟩
theorem dX9_isThreeUp_14 : xd cX9_isThreeUp 14 (.iload_n 1) 1 15 := ⟨by decide +kernel, rfl⟩
theorem dX9_isThreeUp_15 : xd cX9_isThreeUp 15 (.sipush 273) 3 18 := ⟨by decide +kernel, rfl⟩
theorem dX9_isThreeUp_18 : xd cX9_isThreeUp 18 (.iload_n 3) 1 19 := ⟨by decide +kernel, rfl⟩
theorem dX9_isThreeUp_19 : xd cX9_isThreeUp 19 .ishl 1 20 := ⟨by decide +kernel, rfl⟩
theorem dX9_isThreeUp_20 : xd cX9_isThreeUp 20 .iand 1 21 := ⟨by decide +kernel, rfl⟩
theorem dX9_isThreeUp_21 : xd cX9_isThreeUp 21 (.invokevirtual 132) 3 24 := ⟨by decide +kernel, rfl⟩
theorem dX9_isThreeUp_24 : xd cX9_isThreeUp 24 (.iconst 3) 1 25 := ⟨by decide +kernel, rfl⟩
theorem dX9_isThreeUp_25 : xj cX9_isThreeUp 25 (.if_icmp .ne) 28 32 := ⟨7, by decide +kernel, rfl, by decide⟩
theorem dX9_isThreeUp_28 : xd cX9_isThreeUp 28 (.iconst 1) 1 29 := ⟨by decide +kernel, rfl⟩
theorem dX9_isThreeUp_29 : xj cX9_isThreeUp 29 .goto 32 33 := ⟨4, by decide +kernel, rfl, by decide⟩
theorem dX9_isThreeUp_32 : xd cX9_isThreeUp 32 (.iconst 0) 1 33 := ⟨by decide +kernel, rfl⟩
theorem dX9_isThreeUp_33 : xd cX9_isThreeUp 33 (.istore_n 2) 1 34 := ⟨by decide +kernel, rfl⟩
theorem dX9_isThreeUp_34 : xd cX9_isThreeUp 34 (.iinc 3 1) 3 37 := ⟨by decide +kernel, rfl⟩
theorem dX9_isThreeUp_37 : xj cX9_isThreeUp 37 .goto 40 4 := ⟨(-33), by decide +kernel, rfl, by decide⟩
theorem dX9_isThreeUp_40 : xd cX9_isThreeUp 40 (.iload_n 2) 1 41 := ⟨by decide +kernel, rfl⟩
theorem dX9_isThreeUp_41 : xd cX9_isThreeUp 41 .ireturn 1 42 := ⟨by decide +kernel, rfl⟩

set_option maxRecDepth 100000 in
set_option maxHeartbeats 4000000 in
theorem ct_X9_isThreeUp (l : Launch) (g : XG) (aN aNs aNk aNf aNr aNp aNb aNa aNt aNbo aNsz aNnu aNl aNal aNlo aNw aNtr aNis aNbg aNow nts nta nop npr nac : Nat) (nkp nbd ntp nnw nsn nwn : Int32) (r : Nat) (hr : r < 4096) : Ct l g 2 0 0 yX9_isThreeUp cX9_isThreeUp 4 (some .boolean) [.ref aN, .int (nI r)] [(aN, .inr (9, [.ref aNs, .ref aNk, .int nkp, .ref aNf, .ref aNr, .ref aNp, .ref aNb, .ref aNa, .ref aNt, .int (nI nts), .ref aNbo, .ref aNsz, .ref aNnu, .int (nI nta), .int (nI nop), .int nbd, .int ntp, .int (nI npr), .int nnw, .int nsn, .int nwn, .ref aNl, .ref aNal, .ref aNlo, .int (nI nac), .ref aNw, .ref aNtr, .ref aNis, .ref aNbg, .ref aNow])), (aNb, .inl (g.2.1 0, 4096, .inl (nIf popN)))] (xpi (nI (colF r)) [(aN, .inr (9, [.ref aNs, .ref aNk, .int nkp, .ref aNf, .ref aNr, .ref aNp, .ref aNb, .ref aNa, .ref aNt, .int (nI nts), .ref aNbo, .ref aNsz, .ref aNnu, .int (nI nta), .int (nI nop), .int nbd, .int ntp, .int (nI npr), .int nnw, .int nsn, .int nwn, .ref aNl, .ref aNal, .ref aNlo, .int (nI nac), .ref aNw, .ref aNtr, .ref aNis, .ref aNbg, .ref aNow])), (aNb, .inl (g.2.1 0, 4096, .inl (nIf popN)))]) := by
  refine Ct.ofX (lv := [some (.ref aN), some (.int (nI r)), none, none]) (by decide) rfl (Nat.le_of_ble_eq_true rfl) (fun κ => ?_)
  generalize hQ : xQ κ g 0 0 _ = Q
  refine x_iconst 0 dX9_isThreeUp_0 (by decide) ?_
  refine x_istore_n (lv' := [some (.ref aN), some (.int (nI r)), some (.int 0), none]) dX9_isThreeUp_1 (xlt rfl) rfl ?_
  refine x_iconst 0 dX9_isThreeUp_2 (by decide) ?_
  refine x_istore_n (lv' := [some (.ref aN), some (.int (nI r)), some (.int 0), some (.int 0)]) dX9_isThreeUp_3 (xlt rfl) rfl ?_
  refine x_iload_n dX9_isThreeUp_4 rfl ?_
  refine x_iconst 4 dX9_isThreeUp_5 (by decide) ?_
  refine x_icmp_ge dX9_isThreeUp_6 (fun c6 => ?_) (fun c6 => ?_)
  · exact absurd c6 (by decide)
  refine x_iload_n dX9_isThreeUp_9 rfl ?_
  refine x_if_ne dX9_isThreeUp_10 (fun c10 => ?_) (fun c10 => ?_)
  · exact absurd c10 (by decide)
  refine x_aload_n dX9_isThreeUp_13 rfl ?_
  refine x_iload_n dX9_isThreeUp_14 rfl ?_
  refine x_sipush 273 dX9_isThreeUp_15 (by decide) ?_
  refine x_iload_n dX9_isThreeUp_18 rfl ?_
  refine x_ishl dX9_isThreeUp_19 ?_
  refine x_rei (273) (by decide) ?_
  refine x_iand dX9_isThreeUp_20 ?_
  refine x_rei (nI (r &&& 273)) (nI_iand r 273) ?_
  refine x_cVi0 dX9_isThreeUp_21 ml_X9_132 mX9_ones (ct_X9_ones κ.2.1 g aN aNs aNk aNf aNr aNp aNb aNa aNt aNbo aNsz aNnu aNl aNal aNlo aNw aNtr aNis aNbg aNow nts nta nop npr nac nkp nbd ntp nnw nsn nwn (r &&& 273) (by first | exact and_lt (by decide) | exact and_ltl (rowB_lt _) | exact rowB_lt _ | omega)) [0, 1] rfl rfl 0 rfl rfl rfl (Nat.le_of_ble_eq_true rfl) (by decide) (Nat.le_refl _) (Nat.le_refl _) ?_
  refine x_iconst 3 dX9_isThreeUp_24 (by decide) ?_
  refine x_icmp_ne dX9_isThreeUp_25 (fun c25 => ?_) (fun c25 => ?_)
  · have c25 : ¬ ((nI (popN (r &&& 273))) = 3) := c25
    have c25n := mt (nI_eq (a := (popN (r &&& 273))) (b := 3) (by omega) (by omega)).mpr c25
    refine x_iconst 0 dX9_isThreeUp_32 (by decide) ?_
    refine x_istore_n (lv' := [some (.ref aN), some (.int (nI r)), some (.int 0), some (.int 0)]) dX9_isThreeUp_33 (xlt rfl) rfl ?_
    refine x_iinc (lv' := [some (.ref aN), some (.int (nI r)), some (.int 0), some (.int 1)]) (1) dX9_isThreeUp_34 rfl (by decide) rfl ?_
    refine x_goto dX9_isThreeUp_37 ?_
    refine x_iload_n dX9_isThreeUp_4 rfl ?_
    refine x_iconst 4 dX9_isThreeUp_5 (by decide) ?_
    refine x_icmp_ge dX9_isThreeUp_6 (fun c6 => ?_) (fun c6 => ?_)
    · exact absurd c6 (by decide)
    refine x_iload_n dX9_isThreeUp_9 rfl ?_
    refine x_if_ne dX9_isThreeUp_10 (fun c10 => ?_) (fun c10 => ?_)
    · exact absurd c10 (by decide)
    refine x_aload_n dX9_isThreeUp_13 rfl ?_
    refine x_iload_n dX9_isThreeUp_14 rfl ?_
    refine x_sipush 273 dX9_isThreeUp_15 (by decide) ?_
    refine x_iload_n dX9_isThreeUp_18 rfl ?_
    refine x_ishl dX9_isThreeUp_19 ?_
    refine x_rei (546) (by decide) ?_
    refine x_iand dX9_isThreeUp_20 ?_
    refine x_rei (nI (r &&& 546)) (nI_iand r 546) ?_
    refine x_cVi0 dX9_isThreeUp_21 ml_X9_132 mX9_ones (ct_X9_ones κ.2.1 g aN aNs aNk aNf aNr aNp aNb aNa aNt aNbo aNsz aNnu aNl aNal aNlo aNw aNtr aNis aNbg aNow nts nta nop npr nac nkp nbd ntp nnw nsn nwn (r &&& 546) (by first | exact and_lt (by decide) | exact and_ltl (rowB_lt _) | exact rowB_lt _ | omega)) [0, 1] rfl rfl 0 rfl rfl rfl (Nat.le_of_ble_eq_true rfl) (by decide) (Nat.le_refl _) (Nat.le_refl _) ?_
    refine x_iconst 3 dX9_isThreeUp_24 (by decide) ?_
    refine x_icmp_ne dX9_isThreeUp_25 (fun c25 => ?_) (fun c25 => ?_)
    · have c25 : ¬ ((nI (popN (r &&& 546))) = 3) := c25
      have c25n := mt (nI_eq (a := (popN (r &&& 546))) (b := 3) (by omega) (by omega)).mpr c25
      refine x_iconst 0 dX9_isThreeUp_32 (by decide) ?_
      refine x_istore_n (lv' := [some (.ref aN), some (.int (nI r)), some (.int 0), some (.int 1)]) dX9_isThreeUp_33 (xlt rfl) rfl ?_
      refine x_iinc (lv' := [some (.ref aN), some (.int (nI r)), some (.int 0), some (.int 2)]) (2) dX9_isThreeUp_34 rfl (by decide) rfl ?_
      refine x_goto dX9_isThreeUp_37 ?_
      refine x_iload_n dX9_isThreeUp_4 rfl ?_
      refine x_iconst 4 dX9_isThreeUp_5 (by decide) ?_
      refine x_icmp_ge dX9_isThreeUp_6 (fun c6 => ?_) (fun c6 => ?_)
      · exact absurd c6 (by decide)
      refine x_iload_n dX9_isThreeUp_9 rfl ?_
      refine x_if_ne dX9_isThreeUp_10 (fun c10 => ?_) (fun c10 => ?_)
      · exact absurd c10 (by decide)
      refine x_aload_n dX9_isThreeUp_13 rfl ?_
      refine x_iload_n dX9_isThreeUp_14 rfl ?_
      refine x_sipush 273 dX9_isThreeUp_15 (by decide) ?_
      refine x_iload_n dX9_isThreeUp_18 rfl ?_
      refine x_ishl dX9_isThreeUp_19 ?_
      refine x_rei (1092) (by decide) ?_
      refine x_iand dX9_isThreeUp_20 ?_
      refine x_rei (nI (r &&& 1092)) (nI_iand r 1092) ?_
      refine x_cVi0 dX9_isThreeUp_21 ml_X9_132 mX9_ones (ct_X9_ones κ.2.1 g aN aNs aNk aNf aNr aNp aNb aNa aNt aNbo aNsz aNnu aNl aNal aNlo aNw aNtr aNis aNbg aNow nts nta nop npr nac nkp nbd ntp nnw nsn nwn (r &&& 1092) (by first | exact and_lt (by decide) | exact and_ltl (rowB_lt _) | exact rowB_lt _ | omega)) [0, 1] rfl rfl 0 rfl rfl rfl (Nat.le_of_ble_eq_true rfl) (by decide) (Nat.le_refl _) (Nat.le_refl _) ?_
      refine x_iconst 3 dX9_isThreeUp_24 (by decide) ?_
      refine x_icmp_ne dX9_isThreeUp_25 (fun c25 => ?_) (fun c25 => ?_)
      · have c25 : ¬ ((nI (popN (r &&& 1092))) = 3) := c25
        have c25n := mt (nI_eq (a := (popN (r &&& 1092))) (b := 3) (by omega) (by omega)).mpr c25
        refine x_iconst 0 dX9_isThreeUp_32 (by decide) ?_
        refine x_istore_n (lv' := [some (.ref aN), some (.int (nI r)), some (.int 0), some (.int 2)]) dX9_isThreeUp_33 (xlt rfl) rfl ?_
        refine x_iinc (lv' := [some (.ref aN), some (.int (nI r)), some (.int 0), some (.int 3)]) (3) dX9_isThreeUp_34 rfl (by decide) rfl ?_
        refine x_goto dX9_isThreeUp_37 ?_
        refine x_iload_n dX9_isThreeUp_4 rfl ?_
        refine x_iconst 4 dX9_isThreeUp_5 (by decide) ?_
        refine x_icmp_ge dX9_isThreeUp_6 (fun c6 => ?_) (fun c6 => ?_)
        · exact absurd c6 (by decide)
        refine x_iload_n dX9_isThreeUp_9 rfl ?_
        refine x_if_ne dX9_isThreeUp_10 (fun c10 => ?_) (fun c10 => ?_)
        · exact absurd c10 (by decide)
        refine x_aload_n dX9_isThreeUp_13 rfl ?_
        refine x_iload_n dX9_isThreeUp_14 rfl ?_
        refine x_sipush 273 dX9_isThreeUp_15 (by decide) ?_
        refine x_iload_n dX9_isThreeUp_18 rfl ?_
        refine x_ishl dX9_isThreeUp_19 ?_
        refine x_rei (2184) (by decide) ?_
        refine x_iand dX9_isThreeUp_20 ?_
        refine x_rei (nI (r &&& 2184)) (nI_iand r 2184) ?_
        refine x_cVi0 dX9_isThreeUp_21 ml_X9_132 mX9_ones (ct_X9_ones κ.2.1 g aN aNs aNk aNf aNr aNp aNb aNa aNt aNbo aNsz aNnu aNl aNal aNlo aNw aNtr aNis aNbg aNow nts nta nop npr nac nkp nbd ntp nnw nsn nwn (r &&& 2184) (by first | exact and_lt (by decide) | exact and_ltl (rowB_lt _) | exact rowB_lt _ | omega)) [0, 1] rfl rfl 0 rfl rfl rfl (Nat.le_of_ble_eq_true rfl) (by decide) (Nat.le_refl _) (Nat.le_refl _) ?_
        refine x_iconst 3 dX9_isThreeUp_24 (by decide) ?_
        refine x_icmp_ne dX9_isThreeUp_25 (fun c25 => ?_) (fun c25 => ?_)
        · have c25 : ¬ ((nI (popN (r &&& 2184))) = 3) := c25
          have c25n := mt (nI_eq (a := (popN (r &&& 2184))) (b := 3) (by omega) (by omega)).mpr c25
          refine x_iconst 0 dX9_isThreeUp_32 (by decide) ?_
          refine x_istore_n (lv' := [some (.ref aN), some (.int (nI r)), some (.int 0), some (.int 3)]) dX9_isThreeUp_33 (xlt rfl) rfl ?_
          refine x_iinc (lv' := [some (.ref aN), some (.int (nI r)), some (.int 0), some (.int 4)]) (4) dX9_isThreeUp_34 rfl (by decide) rfl ?_
          refine x_goto dX9_isThreeUp_37 ?_
          refine x_iload_n dX9_isThreeUp_4 rfl ?_
          refine x_iconst 4 dX9_isThreeUp_5 (by decide) ?_
          refine x_icmp_ge dX9_isThreeUp_6 (fun c6 => ?_) (fun c6 => ?_)
          rotate_left
          · exact absurd c6 (by decide)
          refine x_iload_n dX9_isThreeUp_40 rfl ?_
          rw [← hQ]
          refine x_zret dX9_isThreeUp_41 rfl (by rfl) (Nat.le_of_ble_eq_true rfl) (Nat.le_of_ble_eq_true rfl) ?_
          exact ⟨by rw [col2_eq hr]; simp [*] <;> rfl, rfl⟩
        · have c25 : (nI (popN (r &&& 2184))) = 3 := c25
          have c25n := (nI_eq (a := (popN (r &&& 2184))) (b := 3) (by omega) (by omega)).mp c25
          refine x_iconst 1 dX9_isThreeUp_28 (by decide) ?_
          refine x_goto dX9_isThreeUp_29 ?_
          refine x_istore_n (lv' := [some (.ref aN), some (.int (nI r)), some (.int 1), some (.int 3)]) dX9_isThreeUp_33 (xlt rfl) rfl ?_
          refine x_iinc (lv' := [some (.ref aN), some (.int (nI r)), some (.int 1), some (.int 4)]) (4) dX9_isThreeUp_34 rfl (by decide) rfl ?_
          refine x_goto dX9_isThreeUp_37 ?_
          refine x_iload_n dX9_isThreeUp_4 rfl ?_
          refine x_iconst 4 dX9_isThreeUp_5 (by decide) ?_
          refine x_icmp_ge dX9_isThreeUp_6 (fun c6 => ?_) (fun c6 => ?_)
          rotate_left
          · exact absurd c6 (by decide)
          refine x_iload_n dX9_isThreeUp_40 rfl ?_
          rw [← hQ]
          refine x_zret dX9_isThreeUp_41 rfl (by rfl) (Nat.le_of_ble_eq_true rfl) (Nat.le_of_ble_eq_true rfl) ?_
          exact ⟨by rw [col2_eq hr]; simp [*] <;> rfl, rfl⟩
      · have c25 : (nI (popN (r &&& 1092))) = 3 := c25
        have c25n := (nI_eq (a := (popN (r &&& 1092))) (b := 3) (by omega) (by omega)).mp c25
        refine x_iconst 1 dX9_isThreeUp_28 (by decide) ?_
        refine x_goto dX9_isThreeUp_29 ?_
        refine x_istore_n (lv' := [some (.ref aN), some (.int (nI r)), some (.int 1), some (.int 2)]) dX9_isThreeUp_33 (xlt rfl) rfl ?_
        refine x_iinc (lv' := [some (.ref aN), some (.int (nI r)), some (.int 1), some (.int 3)]) (3) dX9_isThreeUp_34 rfl (by decide) rfl ?_
        refine x_goto dX9_isThreeUp_37 ?_
        refine x_iload_n dX9_isThreeUp_4 rfl ?_
        refine x_iconst 4 dX9_isThreeUp_5 (by decide) ?_
        refine x_icmp_ge dX9_isThreeUp_6 (fun c6 => ?_) (fun c6 => ?_)
        · exact absurd c6 (by decide)
        refine x_iload_n dX9_isThreeUp_9 rfl ?_
        refine x_if_ne dX9_isThreeUp_10 (fun c10 => ?_) (fun c10 => ?_)
        rotate_left
        · exact absurd c10 (by decide)
        refine x_iconst 1 dX9_isThreeUp_28 (by decide) ?_
        refine x_goto dX9_isThreeUp_29 ?_
        refine x_istore_n (lv' := [some (.ref aN), some (.int (nI r)), some (.int 1), some (.int 3)]) dX9_isThreeUp_33 (xlt rfl) rfl ?_
        refine x_iinc (lv' := [some (.ref aN), some (.int (nI r)), some (.int 1), some (.int 4)]) (4) dX9_isThreeUp_34 rfl (by decide) rfl ?_
        refine x_goto dX9_isThreeUp_37 ?_
        refine x_iload_n dX9_isThreeUp_4 rfl ?_
        refine x_iconst 4 dX9_isThreeUp_5 (by decide) ?_
        refine x_icmp_ge dX9_isThreeUp_6 (fun c6 => ?_) (fun c6 => ?_)
        rotate_left
        · exact absurd c6 (by decide)
        refine x_iload_n dX9_isThreeUp_40 rfl ?_
        rw [← hQ]
        refine x_zret dX9_isThreeUp_41 rfl (by rfl) (Nat.le_of_ble_eq_true rfl) (Nat.le_of_ble_eq_true rfl) ?_
        exact ⟨by rw [col2_eq hr]; simp [*] <;> rfl, rfl⟩
    · have c25 : (nI (popN (r &&& 546))) = 3 := c25
      have c25n := (nI_eq (a := (popN (r &&& 546))) (b := 3) (by omega) (by omega)).mp c25
      refine x_iconst 1 dX9_isThreeUp_28 (by decide) ?_
      refine x_goto dX9_isThreeUp_29 ?_
      refine x_istore_n (lv' := [some (.ref aN), some (.int (nI r)), some (.int 1), some (.int 1)]) dX9_isThreeUp_33 (xlt rfl) rfl ?_
      refine x_iinc (lv' := [some (.ref aN), some (.int (nI r)), some (.int 1), some (.int 2)]) (2) dX9_isThreeUp_34 rfl (by decide) rfl ?_
      refine x_goto dX9_isThreeUp_37 ?_
      refine x_iload_n dX9_isThreeUp_4 rfl ?_
      refine x_iconst 4 dX9_isThreeUp_5 (by decide) ?_
      refine x_icmp_ge dX9_isThreeUp_6 (fun c6 => ?_) (fun c6 => ?_)
      · exact absurd c6 (by decide)
      refine x_iload_n dX9_isThreeUp_9 rfl ?_
      refine x_if_ne dX9_isThreeUp_10 (fun c10 => ?_) (fun c10 => ?_)
      rotate_left
      · exact absurd c10 (by decide)
      refine x_iconst 1 dX9_isThreeUp_28 (by decide) ?_
      refine x_goto dX9_isThreeUp_29 ?_
      refine x_istore_n (lv' := [some (.ref aN), some (.int (nI r)), some (.int 1), some (.int 2)]) dX9_isThreeUp_33 (xlt rfl) rfl ?_
      refine x_iinc (lv' := [some (.ref aN), some (.int (nI r)), some (.int 1), some (.int 3)]) (3) dX9_isThreeUp_34 rfl (by decide) rfl ?_
      refine x_goto dX9_isThreeUp_37 ?_
      refine x_iload_n dX9_isThreeUp_4 rfl ?_
      refine x_iconst 4 dX9_isThreeUp_5 (by decide) ?_
      refine x_icmp_ge dX9_isThreeUp_6 (fun c6 => ?_) (fun c6 => ?_)
      · exact absurd c6 (by decide)
      refine x_iload_n dX9_isThreeUp_9 rfl ?_
      refine x_if_ne dX9_isThreeUp_10 (fun c10 => ?_) (fun c10 => ?_)
      rotate_left
      · exact absurd c10 (by decide)
      refine x_iconst 1 dX9_isThreeUp_28 (by decide) ?_
      refine x_goto dX9_isThreeUp_29 ?_
      refine x_istore_n (lv' := [some (.ref aN), some (.int (nI r)), some (.int 1), some (.int 3)]) dX9_isThreeUp_33 (xlt rfl) rfl ?_
      refine x_iinc (lv' := [some (.ref aN), some (.int (nI r)), some (.int 1), some (.int 4)]) (4) dX9_isThreeUp_34 rfl (by decide) rfl ?_
      refine x_goto dX9_isThreeUp_37 ?_
      refine x_iload_n dX9_isThreeUp_4 rfl ?_
      refine x_iconst 4 dX9_isThreeUp_5 (by decide) ?_
      refine x_icmp_ge dX9_isThreeUp_6 (fun c6 => ?_) (fun c6 => ?_)
      rotate_left
      · exact absurd c6 (by decide)
      refine x_iload_n dX9_isThreeUp_40 rfl ?_
      rw [← hQ]
      refine x_zret dX9_isThreeUp_41 rfl (by rfl) (Nat.le_of_ble_eq_true rfl) (Nat.le_of_ble_eq_true rfl) ?_
      exact ⟨by rw [col2_eq hr]; simp [*] <;> rfl, rfl⟩
  · have c25 : (nI (popN (r &&& 273))) = 3 := c25
    have c25n := (nI_eq (a := (popN (r &&& 273))) (b := 3) (by omega) (by omega)).mp c25
    refine x_iconst 1 dX9_isThreeUp_28 (by decide) ?_
    refine x_goto dX9_isThreeUp_29 ?_
    refine x_istore_n (lv' := [some (.ref aN), some (.int (nI r)), some (.int 1), some (.int 0)]) dX9_isThreeUp_33 (xlt rfl) rfl ?_
    refine x_iinc (lv' := [some (.ref aN), some (.int (nI r)), some (.int 1), some (.int 1)]) (1) dX9_isThreeUp_34 rfl (by decide) rfl ?_
    refine x_goto dX9_isThreeUp_37 ?_
    refine x_iload_n dX9_isThreeUp_4 rfl ?_
    refine x_iconst 4 dX9_isThreeUp_5 (by decide) ?_
    refine x_icmp_ge dX9_isThreeUp_6 (fun c6 => ?_) (fun c6 => ?_)
    · exact absurd c6 (by decide)
    refine x_iload_n dX9_isThreeUp_9 rfl ?_
    refine x_if_ne dX9_isThreeUp_10 (fun c10 => ?_) (fun c10 => ?_)
    rotate_left
    · exact absurd c10 (by decide)
    refine x_iconst 1 dX9_isThreeUp_28 (by decide) ?_
    refine x_goto dX9_isThreeUp_29 ?_
    refine x_istore_n (lv' := [some (.ref aN), some (.int (nI r)), some (.int 1), some (.int 1)]) dX9_isThreeUp_33 (xlt rfl) rfl ?_
    refine x_iinc (lv' := [some (.ref aN), some (.int (nI r)), some (.int 1), some (.int 2)]) (2) dX9_isThreeUp_34 rfl (by decide) rfl ?_
    refine x_goto dX9_isThreeUp_37 ?_
    refine x_iload_n dX9_isThreeUp_4 rfl ?_
    refine x_iconst 4 dX9_isThreeUp_5 (by decide) ?_
    refine x_icmp_ge dX9_isThreeUp_6 (fun c6 => ?_) (fun c6 => ?_)
    · exact absurd c6 (by decide)
    refine x_iload_n dX9_isThreeUp_9 rfl ?_
    refine x_if_ne dX9_isThreeUp_10 (fun c10 => ?_) (fun c10 => ?_)
    rotate_left
    · exact absurd c10 (by decide)
    refine x_iconst 1 dX9_isThreeUp_28 (by decide) ?_
    refine x_goto dX9_isThreeUp_29 ?_
    refine x_istore_n (lv' := [some (.ref aN), some (.int (nI r)), some (.int 1), some (.int 2)]) dX9_isThreeUp_33 (xlt rfl) rfl ?_
    refine x_iinc (lv' := [some (.ref aN), some (.int (nI r)), some (.int 1), some (.int 3)]) (3) dX9_isThreeUp_34 rfl (by decide) rfl ?_
    refine x_goto dX9_isThreeUp_37 ?_
    refine x_iload_n dX9_isThreeUp_4 rfl ?_
    refine x_iconst 4 dX9_isThreeUp_5 (by decide) ?_
    refine x_icmp_ge dX9_isThreeUp_6 (fun c6 => ?_) (fun c6 => ?_)
    · exact absurd c6 (by decide)
    refine x_iload_n dX9_isThreeUp_9 rfl ?_
    refine x_if_ne dX9_isThreeUp_10 (fun c10 => ?_) (fun c10 => ?_)
    rotate_left
    · exact absurd c10 (by decide)
    refine x_iconst 1 dX9_isThreeUp_28 (by decide) ?_
    refine x_goto dX9_isThreeUp_29 ?_
    refine x_istore_n (lv' := [some (.ref aN), some (.int (nI r)), some (.int 1), some (.int 3)]) dX9_isThreeUp_33 (xlt rfl) rfl ?_
    refine x_iinc (lv' := [some (.ref aN), some (.int (nI r)), some (.int 1), some (.int 4)]) (4) dX9_isThreeUp_34 rfl (by decide) rfl ?_
    refine x_goto dX9_isThreeUp_37 ?_
    refine x_iload_n dX9_isThreeUp_4 rfl ?_
    refine x_iconst 4 dX9_isThreeUp_5 (by decide) ?_
    refine x_icmp_ge dX9_isThreeUp_6 (fun c6 => ?_) (fun c6 => ?_)
    rotate_left
    · exact absurd c6 (by decide)
    refine x_iload_n dX9_isThreeUp_40 rfl ?_
    rw [← hQ]
    refine x_zret dX9_isThreeUp_41 rfl (by rfl) (Nat.le_of_ble_eq_true rfl) (Nat.le_of_ble_eq_true rfl) ?_
    exact ⟨by rw [col2_eq hr]; simp [*] <;> rfl, rfl⟩

-- == X9_fancied ==
theorem dX9_fancied_0 : xd cX9_fancied 0 (.aload_n 0) 1 1 := ⟨by decide +kernel, rfl⟩
theorem dX9_fancied_1 : xd cX9_fancied 1 (.getfield 19) 3 4 := ⟨by decide +kernel, rfl⟩
theorem dX9_fancied_4 : xd cX9_fancied 4 (.iload_n 3) 1 5 := ⟨by decide +kernel, rfl⟩
theorem dX9_fancied_5 : xd cX9_fancied 5 .iaload 1 6 := ⟨by decide +kernel, rfl⟩
theorem dX9_fancied_6 : xd cX9_fancied 6 (.istore 5) 2 8 := ⟨by decide +kernel, rfl⟩
theorem dX9_fancied_8 : xd cX9_fancied 8 (.iload_n 1) 1 9 := ⟨by decide +kernel, rfl⟩
theorem dX9_fancied_9 : decode cX9_fancied 9 = .ok (.tableswitch 158 0 6 #[43, 46, 61, 95, 97, 114, 145], 43) := by decide +kernel
theorem dX9_fancied_52 : xd cX9_fancied 52 (.iload 4) 2 54 := ⟨by decide +kernel, rfl⟩
theorem dX9_fancied_54 : xd cX9_fancied 54 .ireturn 1 55 := ⟨by decide +kernel, rfl⟩
theorem dX9_fancied_55 : xd cX9_fancied 55 (.iload 4) 2 57 := ⟨by decide +kernel, rfl⟩
theorem dX9_fancied_57 : xd cX9_fancied 57 (.iconst 2) 1 58 := ⟨by decide +kernel, rfl⟩
theorem dX9_fancied_58 : xd cX9_fancied 58 (.aload_n 0) 1 59 := ⟨by decide +kernel, rfl⟩
theorem dX9_fancied_59 : xd cX9_fancied 59 (.iload 5) 2 61 := ⟨by decide +kernel, rfl⟩
theorem dX9_fancied_61 : xd cX9_fancied 61 (.bipush 63) 2 63 := ⟨by decide +kernel, rfl⟩
theorem dX9_fancied_63 : xd cX9_fancied 63 .iand 1 64 := ⟨by decide +kernel, rfl⟩
theorem dX9_fancied_64 : xd cX9_fancied 64 (.invokevirtual 132) 3 67 := ⟨by decide +kernel, rfl⟩
theorem dX9_fancied_67 : xd cX9_fancied 67 .imul 1 68 := ⟨by decide +kernel, rfl⟩
theorem dX9_fancied_68 : xd cX9_fancied 68 .iadd 1 69 := ⟨by decide +kernel, rfl⟩
theorem dX9_fancied_69 : xd cX9_fancied 69 .ireturn 1 70 := ⟨by decide +kernel, rfl⟩
theorem dX9_fancied_70 : xd cX9_fancied 70 (.iload 4) 2 72 := ⟨by decide +kernel, rfl⟩
theorem dX9_fancied_72 : xd cX9_fancied 72 (.iload 5) 2 74 := ⟨by decide +kernel, rfl⟩
theorem dX9_fancied_74 : xd cX9_fancied 74 (.invokestatic 178) 3 77 := ⟨by decide +kernel, rfl⟩
theorem dX9_fancied_77 : xj cX9_fancied 77 (.ifCond .eq) 80 85 := ⟨8, by decide +kernel, rfl, by decide⟩
theorem dX9_fancied_80 : xd cX9_fancied 80 (.bipush 20) 2 82 := ⟨by decide +kernel, rfl⟩
theorem dX9_fancied_82 : xj cX9_fancied 82 .goto 85 86 := ⟨4, by decide +kernel, rfl, by decide⟩
theorem dX9_fancied_85 : xd cX9_fancied 85 (.iconst 0) 1 86 := ⟨by decide +kernel, rfl⟩
theorem dX9_fancied_86 : xd cX9_fancied 86 .iadd 1 87 := ⟨by decide +kernel, rfl⟩
theorem dX9_fancied_87 : xd cX9_fancied 87 (.aload_n 0) 1 88 := ⟨by decide +kernel, rfl⟩
theorem dX9_fancied_88 : xd cX9_fancied 88 (.iload 5) 2 90 := ⟨by decide +kernel, rfl⟩
theorem dX9_fancied_90 : xd cX9_fancied 90 (.invokevirtual 181) 3 93 := ⟨by decide +kernel, rfl⟩
theorem dX9_fancied_93 : xj cX9_fancied 93 (.ifCond .eq) 96 101 := ⟨8, by decide +kernel, rfl, by decide⟩
theorem dX9_fancied_96 : xd cX9_fancied 96 (.bipush 10) 2 98 := ⟨by decide +kernel, rfl⟩
theorem dX9_fancied_98 : xj cX9_fancied 98 .goto 101 102 := ⟨4, by decide +kernel, rfl, by decide⟩
theorem dX9_fancied_101 : xd cX9_fancied 101 (.iconst 0) 1 102 := ⟨by decide +kernel, rfl⟩
theorem dX9_fancied_102 : xd cX9_fancied 102 .iadd 1 103 := ⟨by decide +kernel, rfl⟩
theorem dX9_fancied_103 : xd cX9_fancied 103 .ireturn 1 104 := ⟨by decide +kernel, rfl⟩
theorem dX9_fancied_104 : xd cX9_fancied 104 (.iconst 1) 1 105 := ⟨by decide +kernel, rfl⟩
theorem dX9_fancied_105 : xd cX9_fancied 105 .ireturn 1 106 := ⟨by decide +kernel, rfl⟩
theorem dX9_fancied_106 : xd cX9_fancied 106 (.iload 4) 2 108 := ⟨by decide +kernel, rfl⟩
theorem dX9_fancied_108 : xd cX9_fancied 108 (.iconst 3) 1 109 := ⟨by decide +kernel, rfl⟩
theorem dX9_fancied_109 : xd cX9_fancied 109 (.aload_n 0) 1 110 := ⟨by decide +kernel, rfl⟩
theorem dX9_fancied_110 : xd cX9_fancied 110 (.iload 5) 2 112 := ⟨by decide +kernel, rfl⟩
theorem dX9_fancied_112 : xd cX9_fancied 112 (.aload_n 0) 1 113 := ⟨by decide +kernel, rfl⟩
theorem dX9_fancied_113 : xd cX9_fancied 113 (.invokevirtual 129) 3 116 := ⟨by decide +kernel, rfl⟩
theorem dX9_fancied_116 : xd cX9_fancied 116 .iand 1 117 := ⟨by decide +kernel, rfl⟩
theorem dX9_fancied_117 : xd cX9_fancied 117 (.invokevirtual 132) 3 120 := ⟨by decide +kernel, rfl⟩
theorem dX9_fancied_120 : xd cX9_fancied 120 .imul 1 121 := ⟨by decide +kernel, rfl⟩
theorem dX9_fancied_121 : xd cX9_fancied 121 .iadd 1 122 := ⟨by decide +kernel, rfl⟩
theorem dX9_fancied_122 : xd cX9_fancied 122 .ireturn 1 123 := ⟨by decide +kernel, rfl⟩
theorem dX9_fancied_123 : xd cX9_fancied 123 (.iload 4) 2 125 := ⟨by decide +kernel, rfl⟩
theorem dX9_fancied_125 : xd cX9_fancied 125 (.iconst 2) 1 126 := ⟨by decide +kernel, rfl⟩
theorem dX9_fancied_126 : xd cX9_fancied 126 (.aload_n 0) 1 127 := ⟨by decide +kernel, rfl⟩
theorem dX9_fancied_127 : xd cX9_fancied 127 (.iload 5) 2 129 := ⟨by decide +kernel, rfl⟩
theorem dX9_fancied_129 : xd cX9_fancied 129 (.bipush 63) 2 131 := ⟨by decide +kernel, rfl⟩
theorem dX9_fancied_131 : xd cX9_fancied 131 .iand 1 132 := ⟨by decide +kernel, rfl⟩
theorem dX9_fancied_132 : xd cX9_fancied 132 (.invokevirtual 132) 3 135 := ⟨by decide +kernel, rfl⟩
theorem dX9_fancied_135 : xd cX9_fancied 135 .imul 1 136 := ⟨by decide +kernel, rfl⟩
theorem dX9_fancied_136 : xd cX9_fancied 136 .iadd 1 137 := ⟨by decide +kernel, rfl⟩
theorem dX9_fancied_137 : xd cX9_fancied 137 (.iload 5) 2 139 := ⟨by decide +kernel, rfl⟩
theorem dX9_fancied_139 : xd cX9_fancied 139 (.bipush 7) 2 141 := ⟨by decide +kernel, rfl⟩
theorem dX9_fancied_141 : xd cX9_fancied 141 (.invokestatic 83) 3 144 := ⟨by decide +kernel, rfl⟩
theorem dX9_fancied_144 : xj cX9_fancied 144 (.ifCond .eq) 147 151 := ⟨7, by decide +kernel, rfl, by decide⟩
theorem dX9_fancied_147 : xd cX9_fancied 147 (.iconst 2) 1 148 := ⟨by decide +kernel, rfl⟩
theorem dX9_fancied_148 : xj cX9_fancied 148 .goto 151 152 := ⟨4, by decide +kernel, rfl, by decide⟩
theorem dX9_fancied_151 : xd cX9_fancied 151 (.iconst 1) 1 152 := ⟨by decide +kernel, rfl⟩
theorem dX9_fancied_152 : xd cX9_fancied 152 .imul 1 153 := ⟨by decide +kernel, rfl⟩
theorem dX9_fancied_153 : xd cX9_fancied 153 .ireturn 1 154 := ⟨by decide +kernel, rfl⟩
theorem dX9_fancied_154 : xd cX9_fancied 154 (.iconst 1) 1 155 := ⟨by decide +kernel, rfl⟩
theorem dX9_fancied_155 : xd cX9_fancied 155 (.aload_n 0) 1 156 := ⟨by decide +kernel, rfl⟩
theorem dX9_fancied_156 : xd cX9_fancied 156 (.iload 5) 2 158 := ⟨by decide +kernel, rfl⟩
theorem dX9_fancied_158 : xd cX9_fancied 158 (.sipush 3840) 3 161 := ⟨by decide +kernel, rfl⟩
theorem dX9_fancied_161 : xd cX9_fancied 161 .iand 1 162 := ⟨by decide +kernel, rfl⟩
theorem dX9_fancied_162 : xd cX9_fancied 162 (.invokevirtual 132) 3 165 := ⟨by decide +kernel, rfl⟩
theorem dX9_fancied_165 : xd cX9_fancied 165 .iadd 1 166 := ⟨by decide +kernel, rfl⟩
theorem dX9_fancied_166 : xd cX9_fancied 166 .ireturn 1 167 := ⟨by decide +kernel, rfl⟩
theorem dX9_fancied_167 : xd cX9_fancied 167 (.iload_n 3) 1 168 := ⟨by decide +kernel, rfl⟩
theorem dX9_fancied_168 : xd cX9_fancied 168 (.iload_n 2) 1 169 := ⟨by decide +kernel, rfl⟩
theorem dX9_fancied_169 : xj cX9_fancied 169 (.if_icmp .ge) 172 187 := ⟨18, by decide +kernel, rfl, by decide⟩
theorem dX9_fancied_172 : xd cX9_fancied 172 (.iconst 1) 1 173 := ⟨by decide +kernel, rfl⟩
theorem dX9_fancied_173 : xd cX9_fancied 173 (.aload_n 0) 1 174 := ⟨by decide +kernel, rfl⟩
theorem dX9_fancied_174 : xd cX9_fancied 174 (.iload 5) 2 176 := ⟨by decide +kernel, rfl⟩
theorem dX9_fancied_176 : xd cX9_fancied 176 (.sipush 3840) 3 179 := ⟨by decide +kernel, rfl⟩
theorem dX9_fancied_179 : xd cX9_fancied 179 .iand 1 180 := ⟨by decide +kernel, rfl⟩
theorem dX9_fancied_180 : xd cX9_fancied 180 (.invokevirtual 132) 3 183 := ⟨by decide +kernel, rfl⟩
theorem dX9_fancied_183 : xd cX9_fancied 183 .iadd 1 184 := ⟨by decide +kernel, rfl⟩
theorem dX9_fancied_184 : xj cX9_fancied 184 .goto 187 188 := ⟨4, by decide +kernel, rfl, by decide⟩
theorem dX9_fancied_187 : xd cX9_fancied 187 (.iconst 0) 1 188 := ⟨by decide +kernel, rfl⟩
theorem dX9_fancied_188 : xd cX9_fancied 188 .ireturn 1 189 := ⟨by decide +kernel, rfl⟩

set_option maxRecDepth 100000 in
set_option maxHeartbeats 4000000 in
theorem ct_X9_fancied (l : Launch) (g : XG) (aN aNs aNk aNf aNr aNp aNb aNa aNt aNbo aNsz aNnu aNl aNal aNlo aNw aNtr aNis aNbg aNow nts nta nop npr nac : Nat) (nkp nbd ntp nnw nsn nwn : Int32) (gr wk lk sz br : Nat) (z : Int32) (ru ki ma bb hd : Nat → Nat) (ce : Nat → Int32) (L p kd mn sd : Nat) (hkd : kd < 2 ^ 31) (hmn : mn ≤ 99999) (hp : p < 495) (hwk : wk ≤ 40) (hlat : latI ce wk = nI L) (hL : L < 4096) : Ct l g 3 0 0 yX9_fancied cX9_fancied 6 (some .int) [.ref aN, .int (nI kd), .int (nI mn), .int (nI p), .int (nI sd)] [(aN, .inr (9, [.ref aNs, .ref aNk, .int nkp, .ref aNf, .ref aNr, .ref aNp, .ref aNb, .ref aNa, .ref aNt, .int (nI nts), .ref aNbo, .ref aNsz, .ref aNnu, .int (nI nta), .int (nI nop), .int nbd, .int ntp, .int (nI npr), .int nnw, .int nsn, .int nwn, .ref aNl, .ref aNal, .ref aNlo, .int (nI nac), .ref aNw, .ref aNtr, .ref aNis, .ref aNbg, .ref aNow])), (aNs, .inl (g.2.1 0, 919, .inl (msF gr wk z lk sz br ru ki ma bb ce hd))), (aNr, .inl (g.2.1 0, 495, .inl (nIf rowB))), (aNb, .inl (g.2.1 0, 4096, .inl (nIf popN)))] (xpi (nI (lkN kd mn p L sd)) [(aN, .inr (9, [.ref aNs, .ref aNk, .int nkp, .ref aNf, .ref aNr, .ref aNp, .ref aNb, .ref aNa, .ref aNt, .int (nI nts), .ref aNbo, .ref aNsz, .ref aNnu, .int (nI nta), .int (nI nop), .int nbd, .int ntp, .int (nI npr), .int nnw, .int nsn, .int nwn, .ref aNl, .ref aNal, .ref aNlo, .int (nI nac), .ref aNw, .ref aNtr, .ref aNis, .ref aNbg, .ref aNow])), (aNs, .inl (g.2.1 0, 919, .inl (msF gr wk z lk sz br ru ki ma bb ce hd))), (aNr, .inl (g.2.1 0, 495, .inl (nIf rowB))), (aNb, .inl (g.2.1 0, 4096, .inl (nIf popN)))]) := by
  refine Ct.ofX (lv := [some (.ref aN), some (.int (nI kd)), some (.int (nI mn)), some (.int (nI p)), some (.int (nI sd)), none]) (by decide) rfl (Nat.le_of_ble_eq_true rfl) (fun κ => ?_)
  generalize hQ : xQ κ g 0 0 _ = Q
  refine x_aload_n dX9_fancied_0 rfl ?_
  refine x_get dX9_fancied_1 0 4 inX9 fl_X9_19 rfl rfl (by decide) rfl ?_
  refine x_iload_n dX9_fancied_4 rfl ?_
  refine x_iald dX9_fancied_5 2 p rfl (rfl) (by omega) (by decide) ?_
  refine x_istore (lv' := [some (.ref aN), some (.int (nI kd)), some (.int (nI mn)), some (.int (nI p)), some (.int (nI sd)), some (.int (nI (rowB p)))]) dX9_fancied_6 (xlt rfl) rfl ?_
  refine x_iload_n dX9_fancied_8 rfl ?_
  by_cases c9_0 : nI kd = 0
  · refine x_reS c9_0 ?_
    have c9_0n := (nI_eq (a := kd) (b := 0) (by omega) (by decide)).mp c9_0
    refine x_tabIn (off := 43) 52 dX9_fancied_9 (by decide) (by decide) rfl (by decide) ?_
    refine x_iload dX9_fancied_52 rfl ?_
    rw [← hQ]
    refine x_iret dX9_fancied_54 rfl (Nat.le_of_ble_eq_true rfl) (Nat.le_of_ble_eq_true rfl) ?_
    exact ⟨by simp [lkN, c9_0n] <;> rfl, rfl⟩
  have c9_0n := mt (nI_eq (a := kd) (b := 0) (by omega) (by decide)).mpr c9_0
  by_cases c9_1 : nI kd = 1
  · refine x_reS c9_1 ?_
    have c9_1n := (nI_eq (a := kd) (b := 1) (by omega) (by decide)).mp c9_1
    refine x_tabIn (off := 46) 55 dX9_fancied_9 (by decide) (by decide) rfl (by decide) ?_
    refine x_iload dX9_fancied_55 rfl ?_
    refine x_iconst 2 dX9_fancied_57 (by decide) ?_
    refine x_aload_n dX9_fancied_58 rfl ?_
    refine x_iload dX9_fancied_59 rfl ?_
    refine x_bipush 63 dX9_fancied_61 (by decide) ?_
    refine x_iand dX9_fancied_63 ?_
    refine x_rei (nI ((rowB p) &&& 63)) (nI_iand (rowB p) 63) ?_
    refine x_cVi0 dX9_fancied_64 ml_X9_132 mX9_ones (ct_X9_ones κ.2.1 g aN aNs aNk aNf aNr aNp aNb aNa aNt aNbo aNsz aNnu aNl aNal aNlo aNw aNtr aNis aNbg aNow nts nta nop npr nac nkp nbd ntp nnw nsn nwn ((rowB p) &&& 63) (by first | exact and_lt (by decide) | exact and_ltl (rowB_lt _) | exact rowB_lt _ | omega)) [0, 3] rfl rfl 0 rfl rfl rfl (Nat.le_of_ble_eq_true rfl) (by decide) (Nat.le_refl _) (Nat.le_refl _) ?_
    refine x_imul dX9_fancied_67 ?_
    refine x_rei (nI (2 * (popN ((rowB p) &&& 63)))) (nI_imul 2 (popN ((rowB p) &&& 63))) ?_
    refine x_iadd dX9_fancied_68 ?_
    refine x_rei (nI (sd + (2 * (popN ((rowB p) &&& 63))))) (nI_iadd sd (2 * (popN ((rowB p) &&& 63)))) ?_
    rw [← hQ]
    refine x_iret dX9_fancied_69 rfl (Nat.le_of_ble_eq_true rfl) (Nat.le_of_ble_eq_true rfl) ?_
    exact ⟨by simp [lkN, c9_1n] <;> rfl, rfl⟩
  have c9_1n := mt (nI_eq (a := kd) (b := 1) (by omega) (by decide)).mpr c9_1
  by_cases c9_2 : nI kd = 2
  · refine x_reS c9_2 ?_
    have c9_2n := (nI_eq (a := kd) (b := 2) (by omega) (by decide)).mp c9_2
    refine x_tabIn (off := 61) 70 dX9_fancied_9 (by decide) (by decide) rfl (by decide) ?_
    refine x_iload dX9_fancied_70 rfl ?_
    refine x_iload dX9_fancied_72 rfl ?_
    refine x_cSi dX9_fancied_74 ml_X9_178 mX9_isOneLine (ct_X9_isOneLine κ.2.1 g (rowB p) (by first | exact rowB_lt _ | omega)) rfl (Nat.le_of_ble_eq_true rfl) (by decide) (Nat.le_refl _) (Nat.le_refl _) ?_
    have J77_2 : ∀ (v1 : Int32), v1 = (if (nI (lineF (rowB p))) = 0 then 0 else 20) → Xs κ g 3 0 0 cX9_fancied yX9_fancied (some .int) Q 0 0 86 [some (.ref aN), some (.int (nI kd)), some (.int (nI mn)), some (.int (nI p)), some (.int (nI sd)), some (.int (nI (rowB p)))] [.int v1, .int (nI sd)] [(aN, .inr (9, [.ref aNs, .ref aNk, .int nkp, .ref aNf, .ref aNr, .ref aNp, .ref aNb, .ref aNa, .ref aNt, .int (nI nts), .ref aNbo, .ref aNsz, .ref aNnu, .int (nI nta), .int (nI nop), .int nbd, .int ntp, .int (nI npr), .int nnw, .int nsn, .int nwn, .ref aNl, .ref aNal, .ref aNlo, .int (nI nac), .ref aNw, .ref aNtr, .ref aNis, .ref aNbg, .ref aNow])), (aNs, .inl (g.2.1 0, 919, .inl (msF gr wk z lk sz br ru ki ma bb ce hd))), (aNr, .inl (g.2.1 0, 495, .inl (nIf rowB))), (aNb, .inl (g.2.1 0, 4096, .inl (nIf popN)))] := by
      intro v1 ev1
      refine x_rei (nI (20 * lineF (rowB p))) (by simp only [ev1]; exact if01 (lineF_lt _) 20) ?_
      refine x_iadd dX9_fancied_86 ?_
      refine x_rei (nI (sd + (20 * lineF (rowB p)))) (nI_iadd sd (20 * lineF (rowB p))) ?_
      refine x_aload_n dX9_fancied_87 rfl ?_
      refine x_iload dX9_fancied_88 rfl ?_
      refine x_cVi0 dX9_fancied_90 ml_X9_181 mX9_isThreeUp (ct_X9_isThreeUp κ.2.1 g aN aNs aNk aNf aNr aNp aNb aNa aNt aNbo aNsz aNnu aNl aNal aNlo aNw aNtr aNis aNbg aNow nts nta nop npr nac nkp nbd ntp nnw nsn nwn (rowB p) (by first | exact rowB_lt _ | omega)) [0, 3] rfl rfl 0 rfl rfl rfl (Nat.le_of_ble_eq_true rfl) (by decide) (Nat.le_refl _) (Nat.le_refl _) ?_
      have J93_4 : ∀ (v3 : Int32), v3 = (if (nI (colF (rowB p))) = 0 then 0 else 10) → Xs κ g 3 0 0 cX9_fancied yX9_fancied (some .int) Q 0 0 102 [some (.ref aN), some (.int (nI kd)), some (.int (nI mn)), some (.int (nI p)), some (.int (nI sd)), some (.int (nI (rowB p)))] [.int v3, .int (nI (sd + (20 * lineF (rowB p))))] [(aN, .inr (9, [.ref aNs, .ref aNk, .int nkp, .ref aNf, .ref aNr, .ref aNp, .ref aNb, .ref aNa, .ref aNt, .int (nI nts), .ref aNbo, .ref aNsz, .ref aNnu, .int (nI nta), .int (nI nop), .int nbd, .int ntp, .int (nI npr), .int nnw, .int nsn, .int nwn, .ref aNl, .ref aNal, .ref aNlo, .int (nI nac), .ref aNw, .ref aNtr, .ref aNis, .ref aNbg, .ref aNow])), (aNs, .inl (g.2.1 0, 919, .inl (msF gr wk z lk sz br ru ki ma bb ce hd))), (aNr, .inl (g.2.1 0, 495, .inl (nIf rowB))), (aNb, .inl (g.2.1 0, 4096, .inl (nIf popN)))] := by
        intro v3 ev3
        refine x_rei (nI (10 * colF (rowB p))) (by simp only [ev3]; exact if01 (colF_lt _) 10) ?_
        refine x_iadd dX9_fancied_102 ?_
        refine x_rei (nI ((sd + (20 * lineF (rowB p))) + (10 * colF (rowB p)))) (nI_iadd (sd + (20 * lineF (rowB p))) (10 * colF (rowB p))) ?_
        rw [← hQ]
        refine x_iret dX9_fancied_103 rfl (Nat.le_of_ble_eq_true rfl) (Nat.le_of_ble_eq_true rfl) ?_
        exact ⟨by simp [lkN, c9_2n] <;> rfl, rfl⟩
      refine x_if_eq dX9_fancied_93 (fun c93 => ?_) (fun c93 => ?_)
      · have c93 : (nI (colF (rowB p))) = 0 := c93
        refine x_iconst 0 dX9_fancied_101 (by decide) ?_
        exact J93_4 _ (if_pos c93).symm
      · have c93 : ¬ ((nI (colF (rowB p))) = 0) := c93
        refine x_bipush 10 dX9_fancied_96 (by decide) ?_
        refine x_goto dX9_fancied_98 ?_
        exact J93_4 _ (if_neg c93).symm
    refine x_if_eq dX9_fancied_77 (fun c77 => ?_) (fun c77 => ?_)
    · have c77 : (nI (lineF (rowB p))) = 0 := c77
      refine x_iconst 0 dX9_fancied_85 (by decide) ?_
      exact J77_2 _ (if_pos c77).symm
    · have c77 : ¬ ((nI (lineF (rowB p))) = 0) := c77
      refine x_bipush 20 dX9_fancied_80 (by decide) ?_
      refine x_goto dX9_fancied_82 ?_
      exact J77_2 _ (if_neg c77).symm
  have c9_2n := mt (nI_eq (a := kd) (b := 2) (by omega) (by decide)).mpr c9_2
  by_cases c9_3 : nI kd = 3
  · refine x_reS c9_3 ?_
    have c9_3n := (nI_eq (a := kd) (b := 3) (by omega) (by decide)).mp c9_3
    refine x_tabIn (off := 95) 104 dX9_fancied_9 (by decide) (by decide) rfl (by decide) ?_
    refine x_iconst 1 dX9_fancied_104 (by decide) ?_
    rw [← hQ]
    refine x_iret dX9_fancied_105 rfl (Nat.le_of_ble_eq_true rfl) (Nat.le_of_ble_eq_true rfl) ?_
    exact ⟨by simp [lkN, c9_3n] <;> rfl, rfl⟩
  have c9_3n := mt (nI_eq (a := kd) (b := 3) (by omega) (by decide)).mpr c9_3
  by_cases c9_4 : nI kd = 4
  · refine x_reS c9_4 ?_
    have c9_4n := (nI_eq (a := kd) (b := 4) (by omega) (by decide)).mp c9_4
    refine x_tabIn (off := 97) 106 dX9_fancied_9 (by decide) (by decide) rfl (by decide) ?_
    refine x_iload dX9_fancied_106 rfl ?_
    refine x_iconst 3 dX9_fancied_108 (by decide) ?_
    refine x_aload_n dX9_fancied_109 rfl ?_
    refine x_iload dX9_fancied_110 rfl ?_
    refine x_aload_n dX9_fancied_112 rfl ?_
    refine x_cVi0 dX9_fancied_113 ml_X9_129 mX9_latest (ct_X9_latest κ.2.1 g aN aNs aNk aNf aNr aNp aNb aNa aNt aNbo aNsz aNnu aNl aNal aNlo aNw aNtr aNis aNbg aNow nts nta nop npr nac nkp nbd ntp nnw nsn nwn gr wk lk sz br z ru ki ma bb hd ce L (hwk) (hlat)) [0, 1] rfl rfl 0 rfl rfl rfl (Nat.le_of_ble_eq_true rfl) (by decide) (Nat.le_refl _) (Nat.le_refl _) ?_
    refine x_iand dX9_fancied_116 ?_
    refine x_rei (nI ((rowB p) &&& L)) (nI_iand (rowB p) L) ?_
    refine x_cVi0 dX9_fancied_117 ml_X9_132 mX9_ones (ct_X9_ones κ.2.1 g aN aNs aNk aNf aNr aNp aNb aNa aNt aNbo aNsz aNnu aNl aNal aNlo aNw aNtr aNis aNbg aNow nts nta nop npr nac nkp nbd ntp nnw nsn nwn ((rowB p) &&& L) (by first | exact and_lt (by decide) | exact and_ltl (rowB_lt _) | exact rowB_lt _ | omega)) [0, 3] rfl rfl 0 rfl rfl rfl (Nat.le_of_ble_eq_true rfl) (by decide) (Nat.le_refl _) (Nat.le_refl _) ?_
    refine x_imul dX9_fancied_120 ?_
    refine x_rei (nI (3 * (popN ((rowB p) &&& L)))) (nI_imul 3 (popN ((rowB p) &&& L))) ?_
    refine x_iadd dX9_fancied_121 ?_
    refine x_rei (nI (sd + (3 * (popN ((rowB p) &&& L))))) (nI_iadd sd (3 * (popN ((rowB p) &&& L)))) ?_
    rw [← hQ]
    refine x_iret dX9_fancied_122 rfl (Nat.le_of_ble_eq_true rfl) (Nat.le_of_ble_eq_true rfl) ?_
    exact ⟨by simp [lkN, c9_4n] <;> rfl, rfl⟩
  have c9_4n := mt (nI_eq (a := kd) (b := 4) (by omega) (by decide)).mpr c9_4
  by_cases c9_5 : nI kd = 5
  · refine x_reS c9_5 ?_
    have c9_5n := (nI_eq (a := kd) (b := 5) (by omega) (by decide)).mp c9_5
    refine x_tabIn (off := 114) 123 dX9_fancied_9 (by decide) (by decide) rfl (by decide) ?_
    refine x_iload dX9_fancied_123 rfl ?_
    refine x_iconst 2 dX9_fancied_125 (by decide) ?_
    refine x_aload_n dX9_fancied_126 rfl ?_
    refine x_iload dX9_fancied_127 rfl ?_
    refine x_bipush 63 dX9_fancied_129 (by decide) ?_
    refine x_iand dX9_fancied_131 ?_
    refine x_rei (nI ((rowB p) &&& 63)) (nI_iand (rowB p) 63) ?_
    refine x_cVi0 dX9_fancied_132 ml_X9_132 mX9_ones (ct_X9_ones κ.2.1 g aN aNs aNk aNf aNr aNp aNb aNa aNt aNbo aNsz aNnu aNl aNal aNlo aNw aNtr aNis aNbg aNow nts nta nop npr nac nkp nbd ntp nnw nsn nwn ((rowB p) &&& 63) (by first | exact and_lt (by decide) | exact and_ltl (rowB_lt _) | exact rowB_lt _ | omega)) [0, 3] rfl rfl 0 rfl rfl rfl (Nat.le_of_ble_eq_true rfl) (by decide) (Nat.le_refl _) (Nat.le_refl _) ?_
    refine x_imul dX9_fancied_135 ?_
    refine x_rei (nI (2 * (popN ((rowB p) &&& 63)))) (nI_imul 2 (popN ((rowB p) &&& 63))) ?_
    refine x_iadd dX9_fancied_136 ?_
    refine x_rei (nI (sd + (2 * (popN ((rowB p) &&& 63))))) (nI_iadd sd (2 * (popN ((rowB p) &&& 63)))) ?_
    refine x_iload dX9_fancied_137 rfl ?_
    refine x_bipush 7 dX9_fancied_139 (by decide) ?_
    refine x_cSi dX9_fancied_141 ml_X9_83 mX9_has (ct_X9_has κ.2.1 g (rowB p) 7 (by omega)) rfl (Nat.le_of_ble_eq_true rfl) (by decide) (Nat.le_refl _) (Nat.le_refl _) ?_
    have J144_6 : ∀ (v5 : Int32), v5 = (if (nI (bitN (rowB p) 7)) = 0 then 1 else 2) → Xs κ g 3 0 0 cX9_fancied yX9_fancied (some .int) Q 0 0 152 [some (.ref aN), some (.int (nI kd)), some (.int (nI mn)), some (.int (nI p)), some (.int (nI sd)), some (.int (nI (rowB p)))] [.int v5, .int (nI (sd + (2 * (popN ((rowB p) &&& 63)))))] [(aN, .inr (9, [.ref aNs, .ref aNk, .int nkp, .ref aNf, .ref aNr, .ref aNp, .ref aNb, .ref aNa, .ref aNt, .int (nI nts), .ref aNbo, .ref aNsz, .ref aNnu, .int (nI nta), .int (nI nop), .int nbd, .int ntp, .int (nI npr), .int nnw, .int nsn, .int nwn, .ref aNl, .ref aNal, .ref aNlo, .int (nI nac), .ref aNw, .ref aNtr, .ref aNis, .ref aNbg, .ref aNow])), (aNs, .inl (g.2.1 0, 919, .inl (msF gr wk z lk sz br ru ki ma bb ce hd))), (aNr, .inl (g.2.1 0, 495, .inl (nIf rowB))), (aNb, .inl (g.2.1 0, 4096, .inl (nIf popN)))] := by
      intro v5 ev5
      refine x_rei (nI (if rowB p &&& 128 = 0 then 1 else 2)) (by simp only [ev5, bitI0, bit7 (rowB_lt p)]; split <;> rfl) ?_
      refine x_imul dX9_fancied_152 ?_
      refine x_rei (nI ((sd + (2 * (popN ((rowB p) &&& 63)))) * (if rowB p &&& 128 = 0 then 1 else 2))) (nI_imul (sd + (2 * (popN ((rowB p) &&& 63)))) (if rowB p &&& 128 = 0 then 1 else 2)) ?_
      rw [← hQ]
      refine x_iret dX9_fancied_153 rfl (Nat.le_of_ble_eq_true rfl) (Nat.le_of_ble_eq_true rfl) ?_
      exact ⟨by simp [lkN, c9_5n] <;> rfl, rfl⟩
    refine x_if_eq dX9_fancied_144 (fun c144 => ?_) (fun c144 => ?_)
    · have c144 : (nI (bitN (rowB p) 7)) = 0 := c144
      refine x_iconst 1 dX9_fancied_151 (by decide) ?_
      exact J144_6 _ (if_pos c144).symm
    · have c144 : ¬ ((nI (bitN (rowB p) 7)) = 0) := c144
      refine x_iconst 2 dX9_fancied_147 (by decide) ?_
      refine x_goto dX9_fancied_148 ?_
      exact J144_6 _ (if_neg c144).symm
  have c9_5n := mt (nI_eq (a := kd) (b := 5) (by omega) (by decide)).mpr c9_5
  by_cases c9_6 : nI kd = 6
  · refine x_reS c9_6 ?_
    have c9_6n := (nI_eq (a := kd) (b := 6) (by omega) (by decide)).mp c9_6
    refine x_tabIn (off := 145) 154 dX9_fancied_9 (by decide) (by decide) rfl (by decide) ?_
    refine x_iconst 1 dX9_fancied_154 (by decide) ?_
    refine x_aload_n dX9_fancied_155 rfl ?_
    refine x_iload dX9_fancied_156 rfl ?_
    refine x_sipush 3840 dX9_fancied_158 (by decide) ?_
    refine x_iand dX9_fancied_161 ?_
    refine x_rei (nI ((rowB p) &&& 3840)) (nI_iand (rowB p) 3840) ?_
    refine x_cVi0 dX9_fancied_162 ml_X9_132 mX9_ones (ct_X9_ones κ.2.1 g aN aNs aNk aNf aNr aNp aNb aNa aNt aNbo aNsz aNnu aNl aNal aNlo aNw aNtr aNis aNbg aNow nts nta nop npr nac nkp nbd ntp nnw nsn nwn ((rowB p) &&& 3840) (by first | exact and_lt (by decide) | exact and_ltl (rowB_lt _) | exact rowB_lt _ | omega)) [0, 3] rfl rfl 0 rfl rfl rfl (Nat.le_of_ble_eq_true rfl) (by decide) (Nat.le_refl _) (Nat.le_refl _) ?_
    refine x_iadd dX9_fancied_165 ?_
    refine x_rei (nI (1 + (popN ((rowB p) &&& 3840)))) (nI_iadd 1 (popN ((rowB p) &&& 3840))) ?_
    rw [← hQ]
    refine x_iret dX9_fancied_166 rfl (Nat.le_of_ble_eq_true rfl) (Nat.le_of_ble_eq_true rfl) ?_
    exact ⟨by simp [lkN, c9_6n] <;> rfl, rfl⟩
  have c9_6n := mt (nI_eq (a := kd) (b := 6) (by omega) (by decide)).mpr c9_6
  refine x_tabD 167 dX9_fancied_9 (by decide) (fun t ht => match t, ht with | 0, _ => Or.inr (xtne c9_0 (by decide)) | 1, _ => Or.inr (xtne c9_1 (by decide)) | 2, _ => Or.inr (xtne c9_2 (by decide)) | 3, _ => Or.inr (xtne c9_3 (by decide)) | 4, _ => Or.inr (xtne c9_4 (by decide)) | 5, _ => Or.inr (xtne c9_5 (by decide)) | 6, _ => Or.inr (xtne c9_6 (by decide)) | t + 7, ht => absurd ht (by simp)) (by decide) ?_
  refine x_iload_n dX9_fancied_167 rfl ?_
  refine x_iload_n dX9_fancied_168 rfl ?_
  have J169_8 : ∀ (v7 : Nat), v7 = (if (nI mn) ≤ (nI p) then 0 else 1 + (popN ((rowB p) &&& 3840))) → Xs κ g 3 0 0 cX9_fancied yX9_fancied (some .int) Q 0 0 188 [some (.ref aN), some (.int (nI kd)), some (.int (nI mn)), some (.int (nI p)), some (.int (nI sd)), some (.int (nI (rowB p)))] [.int (nI v7)] [(aN, .inr (9, [.ref aNs, .ref aNk, .int nkp, .ref aNf, .ref aNr, .ref aNp, .ref aNb, .ref aNa, .ref aNt, .int (nI nts), .ref aNbo, .ref aNsz, .ref aNnu, .int (nI nta), .int (nI nop), .int nbd, .int ntp, .int (nI npr), .int nnw, .int nsn, .int nwn, .ref aNl, .ref aNal, .ref aNlo, .int (nI nac), .ref aNw, .ref aNtr, .ref aNis, .ref aNbg, .ref aNow])), (aNs, .inl (g.2.1 0, 919, .inl (msF gr wk z lk sz br ru ki ma bb ce hd))), (aNr, .inl (g.2.1 0, 495, .inl (nIf rowB))), (aNb, .inl (g.2.1 0, 4096, .inl (nIf popN)))] := by
    intro v7 ev7
    rw [← hQ]
    refine x_iret dX9_fancied_188 rfl (Nat.le_of_ble_eq_true rfl) (Nat.le_of_ble_eq_true rfl) ?_
    exact ⟨by simp only [ev7, nI_leI (show mn < 2 ^ 31 by omega) (show p < 2 ^ 31 by omega)]; simp [lkN, c9_0n, c9_1n, c9_2n, c9_3n, c9_4n, c9_5n, c9_6n], rfl⟩
  refine x_icmp_ge dX9_fancied_169 (fun c169 => ?_) (fun c169 => ?_)
  · have c169 : (nI mn) ≤ (nI p) := c169
    have c169n := (nI_leI (a := mn) (b := p) (by omega) (by omega)).mp c169
    refine x_iconst 0 dX9_fancied_187 (by decide) ?_
    exact J169_8 0 (if_pos c169).symm
  · have c169 : ¬ ((nI mn) ≤ (nI p)) := c169
    have c169n := mt (nI_leI (a := mn) (b := p) (by omega) (by omega)).mpr c169
    refine x_iconst 1 dX9_fancied_172 (by decide) ?_
    refine x_aload_n dX9_fancied_173 rfl ?_
    refine x_iload dX9_fancied_174 rfl ?_
    refine x_sipush 3840 dX9_fancied_176 (by decide) ?_
    refine x_iand dX9_fancied_179 ?_
    refine x_rei (nI ((rowB p) &&& 3840)) (nI_iand (rowB p) 3840) ?_
    refine x_cVi0 dX9_fancied_180 ml_X9_132 mX9_ones (ct_X9_ones κ.2.1 g aN aNs aNk aNf aNr aNp aNb aNa aNt aNbo aNsz aNnu aNl aNal aNlo aNw aNtr aNis aNbg aNow nts nta nop npr nac nkp nbd ntp nnw nsn nwn ((rowB p) &&& 3840) (by first | exact and_lt (by decide) | exact and_ltl (rowB_lt _) | exact rowB_lt _ | omega)) [0, 3] rfl rfl 0 rfl rfl rfl (Nat.le_of_ble_eq_true rfl) (by decide) (Nat.le_refl _) (Nat.le_refl _) ?_
    refine x_iadd dX9_fancied_183 ?_
    refine x_rei (nI (1 + (popN ((rowB p) &&& 3840)))) (nI_iadd 1 (popN ((rowB p) &&& 3840))) ?_
    refine x_goto dX9_fancied_184 ?_
    exact J169_8 (1 + (popN ((rowB p) &&& 3840))) (if_neg c169).symm

-- == X9_likesBy ==
theorem dX9_likesBy_0 : xd cX9_likesBy 0 (.aload_n 0) 1 1 := ⟨by decide +kernel, rfl⟩
theorem dX9_likesBy_1 : xd cX9_likesBy 1 (.aload_n 0) 1 2 := ⟨by decide +kernel, rfl⟩
theorem dX9_likesBy_2 : xd cX9_likesBy 2 (.getfield 7) 3 5 := ⟨by decide +kernel, rfl⟩
theorem dX9_likesBy_5 : xd cX9_likesBy 5 (.bipush 20) 2 7 := ⟨by decide +kernel, rfl⟩
theorem dX9_likesBy_7 : xd cX9_likesBy 7 (.iload_n 1) 1 8 := ⟨by decide +kernel, rfl⟩
theorem dX9_likesBy_8 : xd cX9_likesBy 8 .iadd 1 9 := ⟨by decide +kernel, rfl⟩
theorem dX9_likesBy_9 : xd cX9_likesBy 9 .iaload 1 10 := ⟨by decide +kernel, rfl⟩
theorem dX9_likesBy_10 : xd cX9_likesBy 10 (.aload_n 0) 1 11 := ⟨by decide +kernel, rfl⟩
theorem dX9_likesBy_11 : xd cX9_likesBy 11 (.getfield 7) 3 14 := ⟨by decide +kernel, rfl⟩
theorem dX9_likesBy_14 : xd cX9_likesBy 14 (.bipush 32) 2 16 := ⟨by decide +kernel, rfl⟩
theorem dX9_likesBy_16 : xd cX9_likesBy 16 (.iload_n 1) 1 17 := ⟨by decide +kernel, rfl⟩
theorem dX9_likesBy_17 : xd cX9_likesBy 17 .iadd 1 18 := ⟨by decide +kernel, rfl⟩
theorem dX9_likesBy_18 : xd cX9_likesBy 18 .iaload 1 19 := ⟨by decide +kernel, rfl⟩
theorem dX9_likesBy_19 : xd cX9_likesBy 19 (.iload_n 2) 1 20 := ⟨by decide +kernel, rfl⟩
theorem dX9_likesBy_20 : xd cX9_likesBy 20 (.aload_n 0) 1 21 := ⟨by decide +kernel, rfl⟩
theorem dX9_likesBy_21 : xd cX9_likesBy 21 (.getfield 54) 3 24 := ⟨by decide +kernel, rfl⟩
theorem dX9_likesBy_24 : xd cX9_likesBy 24 (.iload_n 2) 1 25 := ⟨by decide +kernel, rfl⟩
theorem dX9_likesBy_25 : xd cX9_likesBy 25 .iaload 1 26 := ⟨by decide +kernel, rfl⟩
theorem dX9_likesBy_26 : xd cX9_likesBy 26 (.invokevirtual 184) 3 29 := ⟨by decide +kernel, rfl⟩
theorem dX9_likesBy_29 : xd cX9_likesBy 29 .ireturn 1 30 := ⟨by decide +kernel, rfl⟩

set_option maxRecDepth 100000 in
set_option maxHeartbeats 4000000 in
theorem ct_X9_likesBy (l : Launch) (g : XG) (aN aNs aNk aNf aNr aNp aNb aNa aNt aNbo aNsz aNnu aNl aNal aNlo aNw aNtr aNis aNbg aNow nts nta nop npr nac : Nat) (nkp nbd ntp nnw nsn nwn : Int32) (gr wk lk sz br : Nat) (z : Int32) (ru ki ma bb hd : Nat → Nat) (ce : Nat → Int32) (L p q : Nat) (nli : Nat → Nat) (hq : q < 12) (hki : ∀ j, ki j ≤ 7) (hma : ∀ j, ma j ≤ 99999) (hp : p < 495) (hwk : wk ≤ 40) (hlat : latI ce wk = nI L) (hL : L < 4096) : Ct l g 4 0 0 yX9_likesBy cX9_likesBy 3 (some .int) [.ref aN, .int (nI q), .int (nI p)] [(aN, .inr (9, [.ref aNs, .ref aNk, .int nkp, .ref aNf, .ref aNr, .ref aNp, .ref aNb, .ref aNa, .ref aNt, .int (nI nts), .ref aNbo, .ref aNsz, .ref aNnu, .int (nI nta), .int (nI nop), .int nbd, .int ntp, .int (nI npr), .int nnw, .int nsn, .int nwn, .ref aNl, .ref aNal, .ref aNlo, .int (nI nac), .ref aNw, .ref aNtr, .ref aNis, .ref aNbg, .ref aNow])), (aNs, .inl (g.2.1 0, 919, .inl (msF gr wk z lk sz br ru ki ma bb ce hd))), (aNr, .inl (g.2.1 0, 495, .inl (nIf rowB))), (aNb, .inl (g.2.1 0, 4096, .inl (nIf popN))), (aNl, .inl (g.2.1 0, 495, .inl (nIf nli)))] (xpi (nI (lkN (ki q) (ma q) p L (nli p))) [(aN, .inr (9, [.ref aNs, .ref aNk, .int nkp, .ref aNf, .ref aNr, .ref aNp, .ref aNb, .ref aNa, .ref aNt, .int (nI nts), .ref aNbo, .ref aNsz, .ref aNnu, .int (nI nta), .int (nI nop), .int nbd, .int ntp, .int (nI npr), .int nnw, .int nsn, .int nwn, .ref aNl, .ref aNal, .ref aNlo, .int (nI nac), .ref aNw, .ref aNtr, .ref aNis, .ref aNbg, .ref aNow])), (aNs, .inl (g.2.1 0, 919, .inl (msF gr wk z lk sz br ru ki ma bb ce hd))), (aNr, .inl (g.2.1 0, 495, .inl (nIf rowB))), (aNb, .inl (g.2.1 0, 4096, .inl (nIf popN))), (aNl, .inl (g.2.1 0, 495, .inl (nIf nli)))]) := by
  refine Ct.ofX (lv := [some (.ref aN), some (.int (nI q)), some (.int (nI p))]) (by decide) rfl (Nat.le_of_ble_eq_true rfl) (fun κ => ?_)
  generalize hQ : xQ κ g 0 0 _ = Q
  refine x_aload_n dX9_likesBy_0 rfl ?_
  refine x_aload_n dX9_likesBy_1 rfl ?_
  refine x_get dX9_likesBy_2 0 0 inX9 fl_X9_7 rfl rfl (by decide) rfl ?_
  refine x_bipush 20 dX9_likesBy_5 (by decide) ?_
  refine x_iload_n dX9_likesBy_7 rfl ?_
  refine x_iadd dX9_likesBy_8 ?_
  refine x_rei (nI (20 + q)) (nI_iadd 20 q) ?_
  refine x_iald dX9_likesBy_9 1 (20 + q) rfl (rfl) (by omega) (by decide) ?_
  refine x_rei (nI (ki q)) (msg_ki (x := q) (by omega) (by omega)) ?_
  refine x_aload_n dX9_likesBy_10 rfl ?_
  refine x_get dX9_likesBy_11 0 0 inX9 fl_X9_7 rfl rfl (by decide) rfl ?_
  refine x_bipush 32 dX9_likesBy_14 (by decide) ?_
  refine x_iload_n dX9_likesBy_16 rfl ?_
  refine x_iadd dX9_likesBy_17 ?_
  refine x_rei (nI (32 + q)) (nI_iadd 32 q) ?_
  refine x_iald dX9_likesBy_18 1 (32 + q) rfl (rfl) (by omega) (by decide) ?_
  refine x_rei (nI (ma q)) (msg_ma (x := q) (by omega) (by omega)) ?_
  refine x_iload_n dX9_likesBy_19 rfl ?_
  refine x_aload_n dX9_likesBy_20 rfl ?_
  refine x_get dX9_likesBy_21 0 21 inX9 fl_X9_54 rfl rfl (by decide) rfl ?_
  refine x_iload_n dX9_likesBy_24 rfl ?_
  refine x_iald dX9_likesBy_25 4 p rfl (rfl) (by omega) (by decide) ?_
  refine x_cVi0 dX9_likesBy_26 ml_X9_184 mX9_fancied (ct_X9_fancied κ.2.1 g aN aNs aNk aNf aNr aNp aNb aNa aNt aNbo aNsz aNnu aNl aNal aNlo aNw aNtr aNis aNbg aNow nts nta nop npr nac nkp nbd ntp nnw nsn nwn gr wk lk sz br z ru ki ma bb hd ce L p (ki q) (ma q) (nli p) (by have := hki q; omega) (hma q) (hp) (hwk) (hlat) (hL)) [0, 1, 2, 3] rfl rfl 0 rfl rfl rfl (Nat.le_of_ble_eq_true rfl) (by decide) (Nat.le_refl _) (Nat.le_refl _) ?_
  rw [← hQ]
  refine x_iret dX9_likesBy_29 rfl (Nat.le_of_ble_eq_true rfl) (Nat.le_of_ble_eq_true rfl) ?_
  exact ⟨rfl, rfl⟩

-- == X9_crossedBy ==
theorem dX9_crossedBy_0 : xd cX9_crossedBy 0 (.aload_n 0) 1 1 := ⟨by decide +kernel, rfl⟩
theorem dX9_crossedBy_1 : xd cX9_crossedBy 1 (.getfield 60) 3 4 := ⟨by decide +kernel, rfl⟩
theorem dX9_crossedBy_4 : xd cX9_crossedBy 4 (.iload_n 1) 1 5 := ⟨by decide +kernel, rfl⟩
theorem dX9_crossedBy_5 : xd cX9_crossedBy 5 .iaload 1 6 := ⟨by decide +kernel, rfl⟩
theorem dX9_crossedBy_6 : xj cX9_crossedBy 6 (.ifCond .ne) 9 13 := ⟨7, by decide +kernel, rfl, by decide⟩
theorem dX9_crossedBy_9 : xd cX9_crossedBy 9 (.iconst 0) 1 10 := ⟨by decide +kernel, rfl⟩
theorem dX9_crossedBy_10 : xj cX9_crossedBy 10 .goto 13 36 := ⟨26, by decide +kernel, rfl, by decide⟩
theorem dX9_crossedBy_13 : xd cX9_crossedBy 13 (.aload_n 0) 1 14 := ⟨by decide +kernel, rfl⟩
theorem dX9_crossedBy_14 : xd cX9_crossedBy 14 (.getfield 7) 3 17 := ⟨by decide +kernel, rfl⟩
theorem dX9_crossedBy_17 : xd cX9_crossedBy 17 (.bipush 32) 2 19 := ⟨by decide +kernel, rfl⟩
theorem dX9_crossedBy_19 : xd cX9_crossedBy 19 (.iload_n 1) 1 20 := ⟨by decide +kernel, rfl⟩
theorem dX9_crossedBy_20 : xd cX9_crossedBy 20 .iadd 1 21 := ⟨by decide +kernel, rfl⟩
theorem dX9_crossedBy_21 : xd cX9_crossedBy 21 .iaload 1 22 := ⟨by decide +kernel, rfl⟩
theorem dX9_crossedBy_22 : xd cX9_crossedBy 22 (.aload_n 0) 1 23 := ⟨by decide +kernel, rfl⟩
theorem dX9_crossedBy_23 : xd cX9_crossedBy 23 (.iload_n 1) 1 24 := ⟨by decide +kernel, rfl⟩
theorem dX9_crossedBy_24 : xd cX9_crossedBy 24 (.iload_n 2) 1 25 := ⟨by decide +kernel, rfl⟩
theorem dX9_crossedBy_25 : xd cX9_crossedBy 25 (.invokevirtual 188) 3 28 := ⟨by decide +kernel, rfl⟩
theorem dX9_crossedBy_28 : xd cX9_crossedBy 28 .imul 1 29 := ⟨by decide +kernel, rfl⟩
theorem dX9_crossedBy_29 : xd cX9_crossedBy 29 (.aload_n 0) 1 30 := ⟨by decide +kernel, rfl⟩
theorem dX9_crossedBy_30 : xd cX9_crossedBy 30 (.getfield 60) 3 33 := ⟨by decide +kernel, rfl⟩
theorem dX9_crossedBy_33 : xd cX9_crossedBy 33 (.iload_n 1) 1 34 := ⟨by decide +kernel, rfl⟩
theorem dX9_crossedBy_34 : xd cX9_crossedBy 34 .iaload 1 35 := ⟨by decide +kernel, rfl⟩
theorem dX9_crossedBy_35 : xd cX9_crossedBy 35 .idiv 1 36 := ⟨by decide +kernel, rfl⟩
theorem dX9_crossedBy_36 : xd cX9_crossedBy 36 .ireturn 1 37 := ⟨by decide +kernel, rfl⟩

set_option maxRecDepth 100000 in
set_option maxHeartbeats 4000000 in
theorem ct_X9_crossedBy (l : Launch) (g : XG) (aN aNs aNk aNf aNr aNp aNb aNa aNt aNbo aNsz aNnu aNl aNal aNlo aNw aNtr aNis aNbg aNow nts nta nop npr nac : Nat) (nkp nbd ntp nnw nsn nwn : Int32) (gr wk lk sz br : Nat) (z : Int32) (ru ki ma bb hd : Nat → Nat) (ce : Nat → Int32) (L p q : Nat) (nli nlo : Nat → Nat) (hq : q < 12) (hki : ∀ j, ki j ≤ 7) (hma : ∀ j, ma j ≤ 99999) (hp : p < 495) (hwk : wk ≤ 40) (hlat : latI ce wk = nI L) (hL : L < 4096) (hsd : ∀ p, nli p ≤ 99) (hlo : nlo q = laN (ki q) (ma q) L nli) : Ct l g 5 0 0 yX9_crossedBy cX9_crossedBy 3 (some .int) [.ref aN, .int (nI q), .int (nI p)] [(aN, .inr (9, [.ref aNs, .ref aNk, .int nkp, .ref aNf, .ref aNr, .ref aNp, .ref aNb, .ref aNa, .ref aNt, .int (nI nts), .ref aNbo, .ref aNsz, .ref aNnu, .int (nI nta), .int (nI nop), .int nbd, .int ntp, .int (nI npr), .int nnw, .int nsn, .int nwn, .ref aNl, .ref aNal, .ref aNlo, .int (nI nac), .ref aNw, .ref aNtr, .ref aNis, .ref aNbg, .ref aNow])), (aNs, .inl (g.2.1 0, 919, .inl (msF gr wk z lk sz br ru ki ma bb ce hd))), (aNr, .inl (g.2.1 0, 495, .inl (nIf rowB))), (aNb, .inl (g.2.1 0, 4096, .inl (nIf popN))), (aNl, .inl (g.2.1 0, 495, .inl (nIf nli))), (aNlo, .inl (g.2.1 0, 12, .inl (nIf nlo)))] (xpi (nI (shN (ki q) (ma q) p L nli)) [(aN, .inr (9, [.ref aNs, .ref aNk, .int nkp, .ref aNf, .ref aNr, .ref aNp, .ref aNb, .ref aNa, .ref aNt, .int (nI nts), .ref aNbo, .ref aNsz, .ref aNnu, .int (nI nta), .int (nI nop), .int nbd, .int ntp, .int (nI npr), .int nnw, .int nsn, .int nwn, .ref aNl, .ref aNal, .ref aNlo, .int (nI nac), .ref aNw, .ref aNtr, .ref aNis, .ref aNbg, .ref aNow])), (aNs, .inl (g.2.1 0, 919, .inl (msF gr wk z lk sz br ru ki ma bb ce hd))), (aNr, .inl (g.2.1 0, 495, .inl (nIf rowB))), (aNb, .inl (g.2.1 0, 4096, .inl (nIf popN))), (aNl, .inl (g.2.1 0, 495, .inl (nIf nli))), (aNlo, .inl (g.2.1 0, 12, .inl (nIf nlo)))]) := by
  refine Ct.ofX (lv := [some (.ref aN), some (.int (nI q)), some (.int (nI p))]) (by decide) rfl (Nat.le_of_ble_eq_true rfl) (fun κ => ?_)
  generalize hQ : xQ κ g 0 0 _ = Q
  have hla := laN_le (kd := ki q) (mn := ma q) (lat := L) hsd
  have hlk := lkN_le (kd := ki q) (mn := ma q) (p := p) (lat := L) (hsd p)
  have hmq := hma q
  refine x_aload_n dX9_crossedBy_0 rfl ?_
  refine x_get dX9_crossedBy_1 0 23 inX9 fl_X9_60 rfl rfl (by decide) rfl ?_
  refine x_iload_n dX9_crossedBy_4 rfl ?_
  refine x_iald dX9_crossedBy_5 5 q rfl (rfl) (by omega) (by decide) ?_
  refine x_if_ne dX9_crossedBy_6 (fun c6 => ?_) (fun c6 => ?_)
  · have c6 : ¬ ((nI (nlo q)) = 0) := c6
    have c6n := mt (nI_eq (a := (nlo q)) (b := 0) (by omega) (by omega)).mpr c6
    refine x_aload_n dX9_crossedBy_13 rfl ?_
    refine x_get dX9_crossedBy_14 0 0 inX9 fl_X9_7 rfl rfl (by decide) rfl ?_
    refine x_bipush 32 dX9_crossedBy_17 (by decide) ?_
    refine x_iload_n dX9_crossedBy_19 rfl ?_
    refine x_iadd dX9_crossedBy_20 ?_
    refine x_rei (nI (32 + q)) (nI_iadd 32 q) ?_
    refine x_iald dX9_crossedBy_21 1 (32 + q) rfl (rfl) (by omega) (by decide) ?_
    refine x_rei (nI (ma q)) (msg_ma (x := q) (by omega) (by omega)) ?_
    refine x_aload_n dX9_crossedBy_22 rfl ?_
    refine x_iload_n dX9_crossedBy_23 rfl ?_
    refine x_iload_n dX9_crossedBy_24 rfl ?_
    refine x_cVi0 dX9_crossedBy_25 ml_X9_188 mX9_likesBy (ct_X9_likesBy κ.2.1 g aN aNs aNk aNf aNr aNp aNb aNa aNt aNbo aNsz aNnu aNl aNal aNlo aNw aNtr aNis aNbg aNow nts nta nop npr nac nkp nbd ntp nnw nsn nwn gr wk lk sz br z ru ki ma bb hd ce L p q nli (hq) (hki) (hma) (hp) (hwk) (hlat) (hL)) [0, 1, 2, 3, 4] rfl rfl 0 rfl rfl rfl (Nat.le_of_ble_eq_true rfl) (by decide) (Nat.le_refl _) (Nat.le_refl _) ?_
    refine x_imul dX9_crossedBy_28 ?_
    refine x_rei (nI ((ma q) * (lkN (ki q) (ma q) p L (nli p)))) (nI_imul (ma q) (lkN (ki q) (ma q) p L (nli p))) ?_
    refine x_aload_n dX9_crossedBy_29 rfl ?_
    refine x_get dX9_crossedBy_30 0 23 inX9 fl_X9_60 rfl rfl (by decide) rfl ?_
    refine x_iload_n dX9_crossedBy_33 rfl ?_
    refine x_iald dX9_crossedBy_34 5 q rfl (rfl) (by omega) (by decide) ?_
    refine x_idiv dX9_crossedBy_35 (nI_ne0 (by omega) (by omega)) ?_
    refine x_rei (nI (ma q * lkN (ki q) (ma q) p L (nli p) / nlo q)) (nI_idiv (mulb hmq hlk) (by omega)) ?_
    rw [← hQ]
    refine x_iret dX9_crossedBy_36 rfl (Nat.le_of_ble_eq_true rfl) (Nat.le_of_ble_eq_true rfl) ?_
    exact ⟨by rw [shN]; first | rw [if_pos (by omega)] | rw [if_neg (by omega), hlo], rfl⟩
  · have c6 : (nI (nlo q)) = 0 := c6
    have c6n := (nI_eq (a := (nlo q)) (b := 0) (by omega) (by omega)).mp c6
    refine x_iconst 0 dX9_crossedBy_9 (by decide) ?_
    refine x_goto dX9_crossedBy_10 ?_
    rw [← hQ]
    refine x_iret dX9_crossedBy_36 rfl (Nat.le_of_ble_eq_true rfl) (Nat.le_of_ble_eq_true rfl) ?_
    exact ⟨by rw [shN]; first | rw [if_pos (by omega)] | rw [if_neg (by omega), hlo], rfl⟩

-- == X9_says ==
theorem dX9_says_0 : xd cX9_says 0 (.aload_n 0) 1 1 := ⟨by decide +kernel, rfl⟩
theorem dX9_says_1 : xd cX9_says 1 (.iload_n 1) 1 2 := ⟨by decide +kernel, rfl⟩
theorem dX9_says_2 : xd cX9_says 2 (.putfield 126) 3 5 := ⟨by decide +kernel, rfl⟩
theorem dX9_says_5 : xd cX9_says 5 (.aload_n 0) 1 6 := ⟨by decide +kernel, rfl⟩
theorem dX9_says_6 : xd cX9_says 6 (.iconst 0) 1 7 := ⟨by decide +kernel, rfl⟩
theorem dX9_says_7 : xd cX9_says 7 (.putfield 119) 3 10 := ⟨by decide +kernel, rfl⟩
theorem dX9_says_10 : xd cX9_says 10 (.aload_n 0) 1 11 := ⟨by decide +kernel, rfl⟩
theorem dX9_says_11 : xd cX9_says 11 (.iconst 0) 1 12 := ⟨by decide +kernel, rfl⟩
theorem dX9_says_12 : xd cX9_says 12 (.putfield 148) 3 15 := ⟨by decide +kernel, rfl⟩
theorem dX9_says_15 : xd cX9_says 15 (.aload_n 0) 1 16 := ⟨by decide +kernel, rfl⟩
theorem dX9_says_16 : xd cX9_says 16 (.iconst 0) 1 17 := ⟨by decide +kernel, rfl⟩
theorem dX9_says_17 : xd cX9_says 17 (.putfield 135) 3 20 := ⟨by decide +kernel, rfl⟩
theorem dX9_says_20 : xd cX9_says 20 (.aload_n 0) 1 21 := ⟨by decide +kernel, rfl⟩
theorem dX9_says_21 : xd cX9_says 21 (.invokevirtual 151) 3 24 := ⟨by decide +kernel, rfl⟩
theorem dX9_says_24 : xd cX9_says 24 (.istore_n 2) 1 25 := ⟨by decide +kernel, rfl⟩
theorem dX9_says_25 : xd cX9_says 25 (.aload_n 0) 1 26 := ⟨by decide +kernel, rfl⟩
theorem dX9_says_26 : xd cX9_says 26 (.aload_n 0) 1 27 := ⟨by decide +kernel, rfl⟩
theorem dX9_says_27 : xd cX9_says 27 (.getfield 135) 3 30 := ⟨by decide +kernel, rfl⟩
theorem dX9_says_30 : xj cX9_says 30 (.ifCond .ne) 33 44 := ⟨14, by decide +kernel, rfl, by decide⟩
theorem dX9_says_33 : xd cX9_says 33 (.aload_n 0) 1 34 := ⟨by decide +kernel, rfl⟩
theorem dX9_says_34 : xd cX9_says 34 (.getfield 119) 3 37 := ⟨by decide +kernel, rfl⟩
theorem dX9_says_37 : xd cX9_says 37 (.aload_n 0) 1 38 := ⟨by decide +kernel, rfl⟩
theorem dX9_says_38 : xd cX9_says 38 (.invokevirtual 122) 3 41 := ⟨by decide +kernel, rfl⟩
theorem dX9_says_41 : xj cX9_says 41 (.if_icmp .ge) 44 48 := ⟨7, by decide +kernel, rfl, by decide⟩
theorem dX9_says_44 : xd cX9_says 44 (.iconst 1) 1 45 := ⟨by decide +kernel, rfl⟩
theorem dX9_says_45 : xj cX9_says 45 .goto 48 49 := ⟨4, by decide +kernel, rfl, by decide⟩
theorem dX9_says_48 : xd cX9_says 48 (.iconst 0) 1 49 := ⟨by decide +kernel, rfl⟩
theorem dX9_says_49 : xd cX9_says 49 (.putfield 135) 3 52 := ⟨by decide +kernel, rfl⟩
theorem dX9_says_52 : xd cX9_says 52 (.iload_n 2) 1 53 := ⟨by decide +kernel, rfl⟩
theorem dX9_says_53 : xd cX9_says 53 .ireturn 1 54 := ⟨by decide +kernel, rfl⟩

set_option maxRecDepth 100000 in
set_option maxHeartbeats 4000000 in
theorem ct_X9_says (l : Launch) (g : XG) (aN aNs aNk aNf aNr aNp aNb aNa aNt aNbo aNsz aNnu aNl aNal aNlo aNw aNtr aNis aNbg aNow nts nta nop npr nac : Nat) (nkp nbd nnw nsn nwn : Int32) (gr wk lk sz br : Nat) (z : Int32) (ru ki ma bb hd : Nat → Nat) (ce : Nat → Int32) (tb : Nat → Nat) (L p : Nat) (hsz : sz ≤ 60) (hbb : ∀ j, bb j < 256) (hp : p < 495) (hwk : wk ≤ 40) (hlat : latI ce wk = nI L) : Ct l g 26 0 0 yX9_says cX9_says 3 (some .int) [.ref aN, .int (nI p)] [(aN, .inr (9, [.ref aNs, .ref aNk, .int nkp, .ref aNf, .ref aNr, .ref aNp, .ref aNb, .ref aNa, .ref aNt, .int (nI nts), .ref aNbo, .ref aNsz, .ref aNnu, .int (nI nta), .int (nI nop), .int nbd, .int 0, .int (nI npr), .int nnw, .int nsn, .int nwn, .ref aNl, .ref aNal, .ref aNlo, .int (nI nac), .ref aNw, .ref aNtr, .ref aNis, .ref aNbg, .ref aNow])), (aNs, .inl (g.2.1 0, 919, .inl (msF gr wk z lk sz br ru ki ma bb ce hd))), (aNt, .inl (g.2.1 0, 60, .inl (nIf tb))), (aNa, .inl (g.2.1 0, 2475, .inl (nIf fcN))), (aNr, .inl (g.2.1 0, 495, .inl (nIf rowB))), (aNb, .inl (g.2.1 0, 4096, .inl (nIf popN)))] (xpi ((srL (hB bb sz) (nmI wk L p) 4 0).2.2) [(aN, .inr (9, [.ref aNs, .ref aNk, .int nkp, .ref aNf, .ref aNr, .ref aNp, .ref aNb, .ref aNa, .ref aNt, .int (nI nts), .ref aNbo, .ref aNsz, .ref aNnu, .int (nI ((srL (hB bb sz) (nmI wk L p) 4 0).1)), .int 0, .int (syI (srL (hB bb sz) (nmI wk L p) 4 0) sz), .int 0, .int (nI p), .int nnw, .int nsn, .int nwn, .ref aNl, .ref aNal, .ref aNlo, .int (nI nac), .ref aNw, .ref aNtr, .ref aNis, .ref aNbg, .ref aNow])), (aNs, .inl (g.2.1 0, 919, .inl (msF gr wk z lk sz br ru ki ma bb ce hd))), (aNt, .inl (g.2.1 0, 60, .inl (nIf tb))), (aNa, .inl (g.2.1 0, 2475, .inl (nIf fcN))), (aNr, .inl (g.2.1 0, 495, .inl (nIf rowB))), (aNb, .inl (g.2.1 0, 4096, .inl (nIf popN)))]) := by
  refine Ct.ofX (lv := [some (.ref aN), some (.int (nI p)), none]) (by decide) rfl (Nat.le_of_ble_eq_true rfl) (fun κ => ?_)
  generalize hQ : xQ κ g 0 0 _ = Q
  refine x_aload_n dX9_says_0 rfl ?_
  refine x_iload_n dX9_says_1 rfl ?_
  refine x_put (ws' := [(aN, .inr (9, [.ref aNs, .ref aNk, .int nkp, .ref aNf, .ref aNr, .ref aNp, .ref aNb, .ref aNa, .ref aNt, .int (nI nts), .ref aNbo, .ref aNsz, .ref aNnu, .int (nI nta), .int (nI nop), .int nbd, .int 0, .int (nI p), .int nnw, .int nsn, .int nwn, .ref aNl, .ref aNal, .ref aNlo, .int (nI nac), .ref aNw, .ref aNtr, .ref aNis, .ref aNbg, .ref aNow])), (aNs, .inl (g.2.1 0, 919, .inl (msF gr wk z lk sz br ru ki ma bb ce hd))), (aNt, .inl (g.2.1 0, 60, .inl (nIf tb))), (aNa, .inl (g.2.1 0, 2475, .inl (nIf fcN))), (aNr, .inl (g.2.1 0, 495, .inl (nIf rowB))), (aNb, .inl (g.2.1 0, 4096, .inl (nIf popN)))]) dX9_says_2 0 17 inX9 tyX9_ok nmX9 fl_X9_126 rfl rfl (by decide) rfl (rfl) rfl (xlt rfl) rfl ?_
  refine x_aload_n dX9_says_5 rfl ?_
  refine x_iconst 0 dX9_says_6 (by decide) ?_
  refine x_put (ws' := [(aN, .inr (9, [.ref aNs, .ref aNk, .int nkp, .ref aNf, .ref aNr, .ref aNp, .ref aNb, .ref aNa, .ref aNt, .int (nI nts), .ref aNbo, .ref aNsz, .ref aNnu, .int 0, .int (nI nop), .int nbd, .int 0, .int (nI p), .int nnw, .int nsn, .int nwn, .ref aNl, .ref aNal, .ref aNlo, .int (nI nac), .ref aNw, .ref aNtr, .ref aNis, .ref aNbg, .ref aNow])), (aNs, .inl (g.2.1 0, 919, .inl (msF gr wk z lk sz br ru ki ma bb ce hd))), (aNt, .inl (g.2.1 0, 60, .inl (nIf tb))), (aNa, .inl (g.2.1 0, 2475, .inl (nIf fcN))), (aNr, .inl (g.2.1 0, 495, .inl (nIf rowB))), (aNb, .inl (g.2.1 0, 4096, .inl (nIf popN)))]) dX9_says_7 0 13 inX9 tyX9_ok nmX9 fl_X9_119 rfl rfl (by decide) rfl (rfl) rfl (xlt rfl) rfl ?_
  refine x_aload_n dX9_says_10 rfl ?_
  refine x_iconst 0 dX9_says_11 (by decide) ?_
  refine x_put (ws' := [(aN, .inr (9, [.ref aNs, .ref aNk, .int nkp, .ref aNf, .ref aNr, .ref aNp, .ref aNb, .ref aNa, .ref aNt, .int (nI nts), .ref aNbo, .ref aNsz, .ref aNnu, .int 0, .int 0, .int nbd, .int 0, .int (nI p), .int nnw, .int nsn, .int nwn, .ref aNl, .ref aNal, .ref aNlo, .int (nI nac), .ref aNw, .ref aNtr, .ref aNis, .ref aNbg, .ref aNow])), (aNs, .inl (g.2.1 0, 919, .inl (msF gr wk z lk sz br ru ki ma bb ce hd))), (aNt, .inl (g.2.1 0, 60, .inl (nIf tb))), (aNa, .inl (g.2.1 0, 2475, .inl (nIf fcN))), (aNr, .inl (g.2.1 0, 495, .inl (nIf rowB))), (aNb, .inl (g.2.1 0, 4096, .inl (nIf popN)))]) dX9_says_12 0 14 inX9 tyX9_ok nmX9 fl_X9_148 rfl rfl (by decide) rfl (rfl) rfl (xlt rfl) rfl ?_
  refine x_aload_n dX9_says_15 rfl ?_
  refine x_iconst 0 dX9_says_16 (by decide) ?_
  refine x_put (ws' := [(aN, .inr (9, [.ref aNs, .ref aNk, .int nkp, .ref aNf, .ref aNr, .ref aNp, .ref aNb, .ref aNa, .ref aNt, .int (nI nts), .ref aNbo, .ref aNsz, .ref aNnu, .int 0, .int 0, .int 0, .int 0, .int (nI p), .int nnw, .int nsn, .int nwn, .ref aNl, .ref aNal, .ref aNlo, .int (nI nac), .ref aNw, .ref aNtr, .ref aNis, .ref aNbg, .ref aNow])), (aNs, .inl (g.2.1 0, 919, .inl (msF gr wk z lk sz br ru ki ma bb ce hd))), (aNt, .inl (g.2.1 0, 60, .inl (nIf tb))), (aNa, .inl (g.2.1 0, 2475, .inl (nIf fcN))), (aNr, .inl (g.2.1 0, 495, .inl (nIf rowB))), (aNb, .inl (g.2.1 0, 4096, .inl (nIf popN)))]) dX9_says_17 0 15 inX9 tyX9_ok nmX9 fl_X9_135 rfl rfl (by decide) rfl (rfl) rfl (xlt rfl) rfl ?_
  refine x_aload_n dX9_says_20 rfl ?_
  refine x_cVi (ws' := [(aN, .inr (9, [.ref aNs, .ref aNk, .int nkp, .ref aNf, .ref aNr, .ref aNp, .ref aNb, .ref aNa, .ref aNt, .int (nI nts), .ref aNbo, .ref aNsz, .ref aNnu, .int (nI ((srL (hB bb sz) (nmI wk L p) 4 0).1)), .int 0, .int (bI (srL (hB bb sz) (nmI wk L p) 4 0).2.1), .int 0, .int (nI p), .int nnw, .int nsn, .int nwn, .ref aNl, .ref aNal, .ref aNlo, .int (nI nac), .ref aNw, .ref aNtr, .ref aNis, .ref aNbg, .ref aNow])), (aNs, .inl (g.2.1 0, 919, .inl (msF gr wk z lk sz br ru ki ma bb ce hd))), (aNt, .inl (g.2.1 0, 60, .inl (nIf tb))), (aNa, .inl (g.2.1 0, 2475, .inl (nIf fcN))), (aNr, .inl (g.2.1 0, 495, .inl (nIf rowB))), (aNb, .inl (g.2.1 0, 4096, .inl (nIf popN)))]) dX9_says_21 ml_X9_151 mX9_sum (ct_sr_4 κ.2.1 g aN aNs aNk aNf aNr aNp aNb aNa aNt aNbo aNsz aNnu aNl aNal aNlo aNw aNtr aNis aNbg aNow nts 0 nac nkp 0 nnw nsn nwn gr wk lk sz br z ru ki ma bb hd ce tb bb sz L p (Or.inr ⟨rfl, rfl, rfl⟩) (Nat.zero_le _) (hsz) (hbb) (hp) (hwk) (hlat)) [0, 1, 2, 3, 4, 5] rfl rfl 0 rfl rfl rfl (Nat.le_of_ble_eq_true rfl) (by decide) (Nat.le_refl _) (Nat.le_refl _) (rfl : [aN, aNs, aNt, aNa, aNr, aNb] = [aN, aNs, aNt, aNa, aNr, aNb]) rfl ?_
  have hk := srL_ok (nv := nmI wk L p) (okH_hB bb sz) 4 0 (Nat.zero_le _)
  refine x_istore_n (lv' := [some (.ref aN), some (.int (nI p)), some (.int ((srL (hB bb sz) (nmI wk L p) 4 0).2.2))]) dX9_says_24 (xlt rfl) rfl ?_
  refine x_aload_n dX9_says_25 rfl ?_
  refine x_aload_n dX9_says_26 rfl ?_
  refine x_get dX9_says_27 0 15 inX9 fl_X9_135 rfl rfl (by decide) rfl ?_
  refine x_if_ne dX9_says_30 (fun c30 => ?_) (fun c30 => ?_)
  · have c30 : ¬ ((bI (srL (hB bb sz) (nmI wk L p) 4 0).2.1) = 0) := c30
    refine x_iconst 1 dX9_says_44 (by decide) ?_
    refine x_goto dX9_says_45 ?_
    refine x_put (ws' := [(aN, .inr (9, [.ref aNs, .ref aNk, .int nkp, .ref aNf, .ref aNr, .ref aNp, .ref aNb, .ref aNa, .ref aNt, .int (nI nts), .ref aNbo, .ref aNsz, .ref aNnu, .int (nI ((srL (hB bb sz) (nmI wk L p) 4 0).1)), .int 0, .int 1, .int 0, .int (nI p), .int nnw, .int nsn, .int nwn, .ref aNl, .ref aNal, .ref aNlo, .int (nI nac), .ref aNw, .ref aNtr, .ref aNis, .ref aNbg, .ref aNow])), (aNs, .inl (g.2.1 0, 919, .inl (msF gr wk z lk sz br ru ki ma bb ce hd))), (aNt, .inl (g.2.1 0, 60, .inl (nIf tb))), (aNa, .inl (g.2.1 0, 2475, .inl (nIf fcN))), (aNr, .inl (g.2.1 0, 495, .inl (nIf rowB))), (aNb, .inl (g.2.1 0, 4096, .inl (nIf popN)))]) dX9_says_49 0 15 inX9 tyX9_ok nmX9 fl_X9_135 rfl rfl (by decide) rfl (rfl) rfl (xlt rfl) rfl ?_
    refine x_iload_n dX9_says_52 rfl ?_
    rw [← hQ]
    refine x_iret dX9_says_53 rfl (Nat.le_of_ble_eq_true rfl) (Nat.le_of_ble_eq_true rfl) ?_
    refine ⟨rfl, ?_⟩
    first | (rw [syI, if_pos (by assumption)] <;> rfl) | (rw [syI, if_neg (by simpa using c30), if_pos c41] <;> rfl) | (rw [syI, if_neg (by simpa using c30), if_neg c41] <;> rfl)
  · have c30 : (bI (srL (hB bb sz) (nmI wk L p) 4 0).2.1) = 0 := c30
    refine x_aload_n dX9_says_33 rfl ?_
    refine x_get dX9_says_34 0 13 inX9 fl_X9_119 rfl rfl (by decide) rfl ?_
    refine x_aload_n dX9_says_37 rfl ?_
    refine x_cVi0 dX9_says_38 ml_X9_122 mX9_end (ct_end_s κ.2.1 g aN aNs aNk aNf aNr aNp aNb aNa aNt aNbo aNsz aNnu aNl aNal aNlo aNw aNtr aNis aNbg aNow nts ((srL (hB bb sz) (nmI wk L p) 4 0).1) 0 p nac nkp (bI (srL (hB bb sz) (nmI wk L p) 4 0).2.1) nnw nsn nwn gr wk lk sz br z ru ki ma bb hd ce tb) [0, 1, 2] rfl rfl 0 rfl rfl rfl (Nat.le_of_ble_eq_true rfl) (by decide) (Nat.le_refl _) (Nat.le_refl _) ?_
    refine x_icmp_ge dX9_says_41 (fun c41 => ?_) (fun c41 => ?_)
    · have c41 : (nI sz) ≤ (nI ((srL (hB bb sz) (nmI wk L p) 4 0).1)) := c41
      have c41n := (nI_leI (a := sz) (b := ((srL (hB bb sz) (nmI wk L p) 4 0).1)) (by omega) (by omega)).mp c41
      refine x_iconst 0 dX9_says_48 (by decide) ?_
      refine x_put (ws' := [(aN, .inr (9, [.ref aNs, .ref aNk, .int nkp, .ref aNf, .ref aNr, .ref aNp, .ref aNb, .ref aNa, .ref aNt, .int (nI nts), .ref aNbo, .ref aNsz, .ref aNnu, .int (nI ((srL (hB bb sz) (nmI wk L p) 4 0).1)), .int 0, .int 0, .int 0, .int (nI p), .int nnw, .int nsn, .int nwn, .ref aNl, .ref aNal, .ref aNlo, .int (nI nac), .ref aNw, .ref aNtr, .ref aNis, .ref aNbg, .ref aNow])), (aNs, .inl (g.2.1 0, 919, .inl (msF gr wk z lk sz br ru ki ma bb ce hd))), (aNt, .inl (g.2.1 0, 60, .inl (nIf tb))), (aNa, .inl (g.2.1 0, 2475, .inl (nIf fcN))), (aNr, .inl (g.2.1 0, 495, .inl (nIf rowB))), (aNb, .inl (g.2.1 0, 4096, .inl (nIf popN)))]) dX9_says_49 0 15 inX9 tyX9_ok nmX9 fl_X9_135 rfl rfl (by decide) rfl (rfl) rfl (xlt rfl) rfl ?_
      refine x_iload_n dX9_says_52 rfl ?_
      rw [← hQ]
      refine x_iret dX9_says_53 rfl (Nat.le_of_ble_eq_true rfl) (Nat.le_of_ble_eq_true rfl) ?_
      refine ⟨rfl, ?_⟩
      first | (rw [syI, if_pos (by assumption)] <;> rfl) | (rw [syI, if_neg (by simpa using c30), if_pos c41] <;> rfl) | (rw [syI, if_neg (by simpa using c30), if_neg c41] <;> rfl)
    · have c41 : ¬ ((nI sz) ≤ (nI ((srL (hB bb sz) (nmI wk L p) 4 0).1))) := c41
      have c41n := mt (nI_leI (a := sz) (b := ((srL (hB bb sz) (nmI wk L p) 4 0).1)) (by omega) (by omega)).mpr c41
      refine x_iconst 1 dX9_says_44 (by decide) ?_
      refine x_goto dX9_says_45 ?_
      refine x_put (ws' := [(aN, .inr (9, [.ref aNs, .ref aNk, .int nkp, .ref aNf, .ref aNr, .ref aNp, .ref aNb, .ref aNa, .ref aNt, .int (nI nts), .ref aNbo, .ref aNsz, .ref aNnu, .int (nI ((srL (hB bb sz) (nmI wk L p) 4 0).1)), .int 0, .int 1, .int 0, .int (nI p), .int nnw, .int nsn, .int nwn, .ref aNl, .ref aNal, .ref aNlo, .int (nI nac), .ref aNw, .ref aNtr, .ref aNis, .ref aNbg, .ref aNow])), (aNs, .inl (g.2.1 0, 919, .inl (msF gr wk z lk sz br ru ki ma bb ce hd))), (aNt, .inl (g.2.1 0, 60, .inl (nIf tb))), (aNa, .inl (g.2.1 0, 2475, .inl (nIf fcN))), (aNr, .inl (g.2.1 0, 495, .inl (nIf rowB))), (aNb, .inl (g.2.1 0, 4096, .inl (nIf popN)))]) dX9_says_49 0 15 inX9 tyX9_ok nmX9 fl_X9_135 rfl rfl (by decide) rfl (rfl) rfl (xlt rfl) rfl ?_
      refine x_iload_n dX9_says_52 rfl ?_
      rw [← hQ]
      refine x_iret dX9_says_53 rfl (Nat.le_of_ble_eq_true rfl) (Nat.le_of_ble_eq_true rfl) ?_
      refine ⟨rfl, ?_⟩
      first | (rw [syI, if_pos (by assumption)] <;> rfl) | (rw [syI, if_neg (by simpa using c30), if_pos c41] <;> rfl) | (rw [syI, if_neg (by simpa using c30), if_neg c41] <;> rfl)

-- == wk_1 ==
theorem dX9_works_0 : xd cX9_works 0 (.aload_n 0) 1 1 := ⟨by decide +kernel, rfl⟩
theorem dX9_works_1 : xd cX9_works 1 (.getfield 44) 3 4 := ⟨by decide +kernel, rfl⟩
theorem dX9_works_4 : xj cX9_works 4 (.ifCond .ne) 7 8 := ⟨4, by decide +kernel, rfl, by decide⟩
theorem dX9_works_7 : xd cX9_works 7 .return_ 1 8 := ⟨by decide +kernel, rfl⟩
theorem dX9_works_8 : xd cX9_works 8 (.aload_n 0) 1 9 := ⟨by decide +kernel, rfl⟩
theorem dX9_works_9 : xd cX9_works 9 (.iconst 0) 1 10 := ⟨by decide +kernel, rfl⟩
theorem dX9_works_10 : xd cX9_works 10 (.putfield 44) 3 13 := ⟨by decide +kernel, rfl⟩
theorem dX9_works_13 : xd cX9_works 13 (.aload_n 0) 1 14 := ⟨by decide +kernel, rfl⟩
theorem dX9_works_14 : xd cX9_works 14 (.iconst 1) 1 15 := ⟨by decide +kernel, rfl⟩
theorem dX9_works_15 : xd cX9_works 15 (.putfield 51) 3 18 := ⟨by decide +kernel, rfl⟩
theorem dX9_works_18 : xd cX9_works 18 (.iconst 0) 1 19 := ⟨by decide +kernel, rfl⟩
theorem dX9_works_19 : xd cX9_works 19 (.istore_n 1) 1 20 := ⟨by decide +kernel, rfl⟩
theorem dX9_works_20 : xd cX9_works 20 (.iload_n 1) 1 21 := ⟨by decide +kernel, rfl⟩
theorem dX9_works_21 : xd cX9_works 21 (.sipush 495) 3 24 := ⟨by decide +kernel, rfl⟩
theorem dX9_works_24 : xj cX9_works 24 (.if_icmp .ge) 27 86 := ⟨62, by decide +kernel, rfl, by decide⟩
theorem dX9_works_27 : xd cX9_works 27 (.aload_n 0) 1 28 := ⟨by decide +kernel, rfl⟩
theorem dX9_works_28 : xd cX9_works 28 (.getfield 48) 3 31 := ⟨by decide +kernel, rfl⟩
theorem dX9_works_31 : xj cX9_works 31 (.ifCond .eq) 34 86 := ⟨55, by decide +kernel, rfl, by decide⟩
theorem dX9_works_34 : xd cX9_works 34 (.aload_n 0) 1 35 := ⟨by decide +kernel, rfl⟩
theorem dX9_works_35 : xd cX9_works 35 (.getfield 7) 3 38 := ⟨by decide +kernel, rfl⟩
theorem dX9_works_38 : xd cX9_works 38 (.iconst 3) 1 39 := ⟨by decide +kernel, rfl⟩
theorem dX9_works_39 : xd cX9_works 39 .iaload 1 40 := ⟨by decide +kernel, rfl⟩
theorem dX9_works_40 : xd cX9_works 40 (.iconst 1) 1 41 := ⟨by decide +kernel, rfl⟩
theorem dX9_works_41 : xj cX9_works 41 (.if_icmp .ne) 44 52 := ⟨11, by decide +kernel, rfl, by decide⟩
theorem dX9_works_44 : xd cX9_works 44 (.aload_n 0) 1 45 := ⟨by decide +kernel, rfl⟩
theorem dX9_works_45 : xd cX9_works 45 (.iload_n 1) 1 46 := ⟨by decide +kernel, rfl⟩
theorem dX9_works_46 : xd cX9_works 46 (.invokevirtual 175) 3 49 := ⟨by decide +kernel, rfl⟩
theorem dX9_works_49 : xj cX9_works 49 .goto 52 53 := ⟨4, by decide +kernel, rfl, by decide⟩
theorem dX9_works_52 : xd cX9_works 52 (.iconst 1) 1 53 := ⟨by decide +kernel, rfl⟩
theorem dX9_works_53 : xd cX9_works 53 (.istore_n 2) 1 54 := ⟨by decide +kernel, rfl⟩
theorem dX9_works_54 : xd cX9_works 54 (.aload_n 0) 1 55 := ⟨by decide +kernel, rfl⟩
theorem dX9_works_55 : xd cX9_works 55 (.getfield 54) 3 58 := ⟨by decide +kernel, rfl⟩
theorem dX9_works_58 : xd cX9_works 58 (.iload_n 1) 1 59 := ⟨by decide +kernel, rfl⟩
theorem dX9_works_59 : xd cX9_works 59 (.iload_n 2) 1 60 := ⟨by decide +kernel, rfl⟩
theorem dX9_works_60 : xj cX9_works 60 (.ifCond .ge) 63 67 := ⟨7, by decide +kernel, rfl, by decide⟩
theorem dX9_works_63 : xd cX9_works 63 (.iconst 0) 1 64 := ⟨by decide +kernel, rfl⟩
theorem dX9_works_64 : xj cX9_works 64 .goto 67 79 := ⟨15, by decide +kernel, rfl, by decide⟩
theorem dX9_works_67 : xd cX9_works 67 (.iload_n 2) 1 68 := ⟨by decide +kernel, rfl⟩
theorem dX9_works_68 : xd cX9_works 68 (.bipush 99) 2 70 := ⟨by decide +kernel, rfl⟩
theorem dX9_works_70 : xj cX9_works 70 (.if_icmp .le) 73 78 := ⟨8, by decide +kernel, rfl, by decide⟩
theorem dX9_works_73 : xd cX9_works 73 (.bipush 99) 2 75 := ⟨by decide +kernel, rfl⟩
theorem dX9_works_75 : xj cX9_works 75 .goto 78 79 := ⟨4, by decide +kernel, rfl, by decide⟩
theorem dX9_works_78 : xd cX9_works 78 (.iload_n 2) 1 79 := ⟨by decide +kernel, rfl⟩
theorem dX9_works_79 : xd cX9_works 79 .iastore 1 80 := ⟨by decide +kernel, rfl⟩
theorem dX9_works_80 : xd cX9_works 80 (.iinc 1 1) 3 83 := ⟨by decide +kernel, rfl⟩
theorem dX9_works_83 : xj cX9_works 83 .goto 86 20 := ⟨(-63), by decide +kernel, rfl, by decide⟩
theorem dX9_works_86 : xd cX9_works 86 (.aload_n 0) 1 87 := ⟨by decide +kernel, rfl⟩
theorem dX9_works_87 : xd cX9_works 87 (.iconst 0) 1 88 := ⟨by decide +kernel, rfl⟩
theorem dX9_works_88 : xd cX9_works 88 (.putfield 48) 3 91 := ⟨by decide +kernel, rfl⟩
theorem dX9_works_91 : xd cX9_works 91 (.aload_n 0) 1 92 := ⟨by decide +kernel, rfl⟩
theorem dX9_works_92 : xd cX9_works 92 (.iconst 0) 1 93 := ⟨by decide +kernel, rfl⟩
theorem dX9_works_93 : xd cX9_works 93 (.putfield 192) 3 96 := ⟨by decide +kernel, rfl⟩
theorem dX9_works_96 : xd cX9_works 96 (.iconst 0) 1 97 := ⟨by decide +kernel, rfl⟩
theorem dX9_works_97 : xd cX9_works 97 (.istore_n 1) 1 98 := ⟨by decide +kernel, rfl⟩
theorem dX9_works_98 : xd cX9_works 98 (.iload_n 1) 1 99 := ⟨by decide +kernel, rfl⟩
theorem dX9_works_99 : xd cX9_works 99 (.sipush 495) 3 102 := ⟨by decide +kernel, rfl⟩
theorem dX9_works_102 : xj cX9_works 102 (.if_icmp .ge) 105 127 := ⟨25, by decide +kernel, rfl, by decide⟩
theorem dX9_works_105 : xd cX9_works 105 (.aload_n 0) 1 106 := ⟨by decide +kernel, rfl⟩
theorem dX9_works_106 : xd cX9_works 106 (.getfield 57) 3 109 := ⟨by decide +kernel, rfl⟩
theorem dX9_works_109 : xd cX9_works 109 (.iload_n 1) 1 110 := ⟨by decide +kernel, rfl⟩
theorem dX9_works_110 : xd cX9_works 110 (.aload_n 0) 1 111 := ⟨by decide +kernel, rfl⟩
theorem dX9_works_111 : xd cX9_works 111 (.getfield 7) 3 114 := ⟨by decide +kernel, rfl⟩
theorem dX9_works_114 : xd cX9_works 114 (.sipush 424) 3 117 := ⟨by decide +kernel, rfl⟩
theorem dX9_works_117 : xd cX9_works 117 (.iload_n 1) 1 118 := ⟨by decide +kernel, rfl⟩
theorem dX9_works_118 : xd cX9_works 118 .iadd 1 119 := ⟨by decide +kernel, rfl⟩
theorem dX9_works_119 : xd cX9_works 119 .iaload 1 120 := ⟨by decide +kernel, rfl⟩
theorem dX9_works_120 : xd cX9_works 120 .iastore 1 121 := ⟨by decide +kernel, rfl⟩
theorem dX9_works_121 : xd cX9_works 121 (.iinc 1 1) 3 124 := ⟨by decide +kernel, rfl⟩
theorem dX9_works_124 : xj cX9_works 124 .goto 127 98 := ⟨(-26), by decide +kernel, rfl, by decide⟩
theorem dX9_works_127 : xd cX9_works 127 (.iconst 0) 1 128 := ⟨by decide +kernel, rfl⟩
theorem dX9_works_128 : xd cX9_works 128 (.istore_n 1) 1 129 := ⟨by decide +kernel, rfl⟩
theorem dX9_works_129 : xd cX9_works 129 (.iload_n 1) 1 130 := ⟨by decide +kernel, rfl⟩
theorem dX9_works_130 : xd cX9_works 130 (.aload_n 0) 1 131 := ⟨by decide +kernel, rfl⟩
theorem dX9_works_131 : xd cX9_works 131 (.getfield 7) 3 134 := ⟨by decide +kernel, rfl⟩
theorem dX9_works_134 : xd cX9_works 134 (.iconst 0) 1 135 := ⟨by decide +kernel, rfl⟩
theorem dX9_works_135 : xd cX9_works 135 .iaload 1 136 := ⟨by decide +kernel, rfl⟩
theorem dX9_works_136 : xj cX9_works 136 (.if_icmp .ge) 139 212 := ⟨76, by decide +kernel, rfl, by decide⟩
theorem dX9_works_139 : xd cX9_works 139 (.aload_n 0) 1 140 := ⟨by decide +kernel, rfl⟩
theorem dX9_works_140 : xd cX9_works 140 (.getfield 60) 3 143 := ⟨by decide +kernel, rfl⟩
theorem dX9_works_143 : xd cX9_works 143 (.iload_n 1) 1 144 := ⟨by decide +kernel, rfl⟩
theorem dX9_works_144 : xd cX9_works 144 (.iconst 0) 1 145 := ⟨by decide +kernel, rfl⟩
theorem dX9_works_145 : xd cX9_works 145 .iastore 1 146 := ⟨by decide +kernel, rfl⟩
theorem dX9_works_146 : xd cX9_works 146 (.iconst 0) 1 147 := ⟨by decide +kernel, rfl⟩
theorem dX9_works_147 : xd cX9_works 147 (.istore_n 2) 1 148 := ⟨by decide +kernel, rfl⟩
theorem dX9_works_148 : xd cX9_works 148 (.iload_n 2) 1 149 := ⟨by decide +kernel, rfl⟩
theorem dX9_works_149 : xd cX9_works 149 (.sipush 495) 3 152 := ⟨by decide +kernel, rfl⟩
theorem dX9_works_152 : xj cX9_works 152 (.if_icmp .ge) 155 176 := ⟨24, by decide +kernel, rfl, by decide⟩
theorem dX9_works_155 : xd cX9_works 155 (.aload_n 0) 1 156 := ⟨by decide +kernel, rfl⟩
theorem dX9_works_156 : xd cX9_works 156 (.getfield 60) 3 159 := ⟨by decide +kernel, rfl⟩
theorem dX9_works_159 : xd cX9_works 159 (.iload_n 1) 1 160 := ⟨by decide +kernel, rfl⟩
theorem dX9_works_160 : xd cX9_works 160 .dup2 1 161 := ⟨by decide +kernel, rfl⟩
theorem dX9_works_161 : xd cX9_works 161 .iaload 1 162 := ⟨by decide +kernel, rfl⟩
theorem dX9_works_162 : xd cX9_works 162 (.aload_n 0) 1 163 := ⟨by decide +kernel, rfl⟩
theorem dX9_works_163 : xd cX9_works 163 (.iload_n 1) 1 164 := ⟨by decide +kernel, rfl⟩
theorem dX9_works_164 : xd cX9_works 164 (.iload_n 2) 1 165 := ⟨by decide +kernel, rfl⟩
theorem dX9_works_165 : xd cX9_works 165 (.invokevirtual 188) 3 168 := ⟨by decide +kernel, rfl⟩
theorem dX9_works_168 : xd cX9_works 168 .iadd 1 169 := ⟨by decide +kernel, rfl⟩
theorem dX9_works_169 : xd cX9_works 169 .iastore 1 170 := ⟨by decide +kernel, rfl⟩
theorem dX9_works_170 : xd cX9_works 170 (.iinc 2 1) 3 173 := ⟨by decide +kernel, rfl⟩
theorem dX9_works_173 : xj cX9_works 173 .goto 176 148 := ⟨(-25), by decide +kernel, rfl, by decide⟩
theorem dX9_works_176 : xd cX9_works 176 (.iconst 0) 1 177 := ⟨by decide +kernel, rfl⟩
theorem dX9_works_177 : xd cX9_works 177 (.istore_n 2) 1 178 := ⟨by decide +kernel, rfl⟩
theorem dX9_works_178 : xd cX9_works 178 (.iload_n 2) 1 179 := ⟨by decide +kernel, rfl⟩
theorem dX9_works_179 : xd cX9_works 179 (.sipush 495) 3 182 := ⟨by decide +kernel, rfl⟩
theorem dX9_works_182 : xj cX9_works 182 (.if_icmp .ge) 185 206 := ⟨24, by decide +kernel, rfl, by decide⟩
theorem dX9_works_185 : xd cX9_works 185 (.aload_n 0) 1 186 := ⟨by decide +kernel, rfl⟩
theorem dX9_works_186 : xd cX9_works 186 (.getfield 57) 3 189 := ⟨by decide +kernel, rfl⟩
theorem dX9_works_189 : xd cX9_works 189 (.iload_n 2) 1 190 := ⟨by decide +kernel, rfl⟩
theorem dX9_works_190 : xd cX9_works 190 .dup2 1 191 := ⟨by decide +kernel, rfl⟩
theorem dX9_works_191 : xd cX9_works 191 .iaload 1 192 := ⟨by decide +kernel, rfl⟩
theorem dX9_works_192 : xd cX9_works 192 (.aload_n 0) 1 193 := ⟨by decide +kernel, rfl⟩
theorem dX9_works_193 : xd cX9_works 193 (.iload_n 1) 1 194 := ⟨by decide +kernel, rfl⟩
theorem dX9_works_194 : xd cX9_works 194 (.iload_n 2) 1 195 := ⟨by decide +kernel, rfl⟩
theorem dX9_works_195 : xd cX9_works 195 (.invokevirtual 195) 3 198 := ⟨by decide +kernel, rfl⟩
theorem dX9_works_198 : xd cX9_works 198 .iadd 1 199 := ⟨by decide +kernel, rfl⟩
theorem dX9_works_199 : xd cX9_works 199 .iastore 1 200 := ⟨by decide +kernel, rfl⟩
theorem dX9_works_200 : xd cX9_works 200 (.iinc 2 1) 3 203 := ⟨by decide +kernel, rfl⟩
theorem dX9_works_203 : xj cX9_works 203 .goto 206 178 := ⟨(-25), by decide +kernel, rfl, by decide⟩
theorem dX9_works_206 : xd cX9_works 206 (.iinc 1 1) 3 209 := ⟨by decide +kernel, rfl⟩
theorem dX9_works_209 : xj cX9_works 209 .goto 212 129 := ⟨(-80), by decide +kernel, rfl, by decide⟩
theorem dX9_works_212 : xd cX9_works 212 (.iconst 0) 1 213 := ⟨by decide +kernel, rfl⟩
theorem dX9_works_213 : xd cX9_works 213 (.istore_n 1) 1 214 := ⟨by decide +kernel, rfl⟩
theorem dX9_works_214 : xd cX9_works 214 (.iload_n 1) 1 215 := ⟨by decide +kernel, rfl⟩
theorem dX9_works_215 : xd cX9_works 215 (.sipush 495) 3 218 := ⟨by decide +kernel, rfl⟩
theorem dX9_works_218 : xj cX9_works 218 (.if_icmp .ge) 221 242 := ⟨24, by decide +kernel, rfl, by decide⟩
theorem dX9_works_221 : xd cX9_works 221 (.aload_n 0) 1 222 := ⟨by decide +kernel, rfl⟩
theorem dX9_works_222 : xd cX9_works 222 .dup 1 223 := ⟨by decide +kernel, rfl⟩
theorem dX9_works_223 : xd cX9_works 223 (.getfield 192) 3 226 := ⟨by decide +kernel, rfl⟩
theorem dX9_works_226 : xd cX9_works 226 (.aload_n 0) 1 227 := ⟨by decide +kernel, rfl⟩
theorem dX9_works_227 : xd cX9_works 227 (.getfield 57) 3 230 := ⟨by decide +kernel, rfl⟩
theorem dX9_works_230 : xd cX9_works 230 (.iload_n 1) 1 231 := ⟨by decide +kernel, rfl⟩
theorem dX9_works_231 : xd cX9_works 231 .iaload 1 232 := ⟨by decide +kernel, rfl⟩
theorem dX9_works_232 : xd cX9_works 232 .iadd 1 233 := ⟨by decide +kernel, rfl⟩
theorem dX9_works_233 : xd cX9_works 233 (.putfield 192) 3 236 := ⟨by decide +kernel, rfl⟩
theorem dX9_works_236 : xd cX9_works 236 (.iinc 1 1) 3 239 := ⟨by decide +kernel, rfl⟩
theorem dX9_works_239 : xj cX9_works 239 .goto 242 214 := ⟨(-25), by decide +kernel, rfl, by decide⟩
theorem dX9_works_242 : xd cX9_works 242 .return_ 1 243 := ⟨by decide +kernel, rfl⟩

set_option maxRecDepth 100000 in
set_option maxHeartbeats 4000000 in
theorem ct_wk_1 (l : Launch) (g : XG) (aN aNs aNk aNf aNr aNp aNb aNa aNt aNbo aNsz aNnu aNl aNal aNlo aNw aNtr aNis aNbg aNow nts nta nop npr nac : Nat) (nkp nbd nwn : Int32) (gr wk lk sz br : Nat) (z : Int32) (ru ki ma bb hd : Nat → Nat) (ce : Nat → Int32) (tb nli nal nlo sd : Nat → Nat) (L : Nat) (hgr : gr ≤ 12) (hki : ∀ j, ki j ≤ 7) (hma : ∀ j, ma j ≤ 99999) (hwk : wk ≤ 40) (hlat : latI ce wk = nI L) (hL : L < 4096) (hsz : sz ≤ 60) (hbb : ∀ j, bb j < 256) (hsd : ∀ p, sd p ≤ 99) (hsv : ∀ p, p < 495 → sd p = if lk = 1 then clN (txV bb sz wk L p) else 1) (hlk : lk ≤ 1) : Ct l g 27 0 0 yX9_works cX9_works 3 none [.ref aN] [(aN, .inr (9, [.ref aNs, .ref aNk, .int nkp, .ref aNf, .ref aNr, .ref aNp, .ref aNb, .ref aNa, .ref aNt, .int (nI nts), .ref aNbo, .ref aNsz, .ref aNnu, .int (nI nta), .int (nI nop), .int nbd, .int 0, .int (nI npr), .int 1, .int 1, .int nwn, .ref aNl, .ref aNal, .ref aNlo, .int (nI nac), .ref aNw, .ref aNtr, .ref aNis, .ref aNbg, .ref aNow])), (aNs, .inl (g.2.1 0, 919, .inl (msF gr wk z lk sz br ru ki ma bb ce hd))), (aNt, .inl (g.2.1 0, 60, .inl (nIf tb))), (aNa, .inl (g.2.1 0, 2475, .inl (nIf fcN))), (aNr, .inl (g.2.1 0, 495, .inl (nIf rowB))), (aNb, .inl (g.2.1 0, 4096, .inl (nIf popN))), (aNl, .inl (g.2.1 0, 495, .inl (nIf nli))), (aNal, .inl (g.2.1 0, 495, .inl (nIf nal))), (aNlo, .inl (g.2.1 0, 12, .inl (nIf nlo)))] (fun vv_ ww_ => ∃ (zat : Nat) (zop : Nat) (zbd : Int32) (zpr : Nat) (lo2 : Nat → Nat), vv_ = none ∧ ww_ = [(aN, .inr (9, [.ref aNs, .ref aNk, .int nkp, .ref aNf, .ref aNr, .ref aNp, .ref aNb, .ref aNa, .ref aNt, .int (nI nts), .ref aNbo, .ref aNsz, .ref aNnu, .int (nI zat), .int (nI zop), .int zbd, .int 0, .int (nI zpr), .int 0, .int 0, .int 1, .ref aNl, .ref aNal, .ref aNlo, .int (nI (toH gr ki ma hd L sd)), .ref aNw, .ref aNtr, .ref aNis, .ref aNbg, .ref aNow])), (aNs, .inl (g.2.1 0, 919, .inl (msF gr wk z lk sz br ru ki ma bb ce hd))), (aNt, .inl (g.2.1 0, 60, .inl (nIf tb))), (aNa, .inl (g.2.1 0, 2475, .inl (nIf fcN))), (aNr, .inl (g.2.1 0, 495, .inl (nIf rowB))), (aNb, .inl (g.2.1 0, 4096, .inl (nIf popN))), (aNl, .inl (g.2.1 0, 495, .inl (nIf sd))), (aNal, .inl (g.2.1 0, 495, .inl (nIf (crH gr ki ma hd L sd)))), (aNlo, .inl (g.2.1 0, 12, .inl (nIf lo2)))] ∧ (∀ q, q < gr → lo2 q = laN (ki q) (ma q) L sd)) := by
  refine Ct.ofX (lv := [some (.ref aN), none, none]) (by decide) rfl (Nat.le_of_ble_eq_true rfl) (fun κ => ?_)
  generalize hQ : xQ κ g 0 0 _ = Q
  refine x_aload_n dX9_works_0 rfl ?_
  refine x_get dX9_works_1 0 18 inX9 fl_X9_44 rfl rfl (by decide) rfl ?_
  refine x_if_ne dX9_works_4 (fun c4 => ?_) (fun c4 => ?_)
  rotate_left
  · exact absurd c4 (by decide)
  refine x_aload_n dX9_works_8 rfl ?_
  refine x_iconst 0 dX9_works_9 (by decide) ?_
  refine x_put (ws' := [(aN, .inr (9, [.ref aNs, .ref aNk, .int nkp, .ref aNf, .ref aNr, .ref aNp, .ref aNb, .ref aNa, .ref aNt, .int (nI nts), .ref aNbo, .ref aNsz, .ref aNnu, .int (nI nta), .int (nI nop), .int nbd, .int 0, .int (nI npr), .int 0, .int 1, .int nwn, .ref aNl, .ref aNal, .ref aNlo, .int (nI nac), .ref aNw, .ref aNtr, .ref aNis, .ref aNbg, .ref aNow])), (aNs, .inl (g.2.1 0, 919, .inl (msF gr wk z lk sz br ru ki ma bb ce hd))), (aNt, .inl (g.2.1 0, 60, .inl (nIf tb))), (aNa, .inl (g.2.1 0, 2475, .inl (nIf fcN))), (aNr, .inl (g.2.1 0, 495, .inl (nIf rowB))), (aNb, .inl (g.2.1 0, 4096, .inl (nIf popN))), (aNl, .inl (g.2.1 0, 495, .inl (nIf nli))), (aNal, .inl (g.2.1 0, 495, .inl (nIf nal))), (aNlo, .inl (g.2.1 0, 12, .inl (nIf nlo)))]) dX9_works_10 0 18 inX9 tyX9_ok nmX9 fl_X9_44 rfl rfl (by decide) rfl (rfl) rfl (xlt rfl) rfl ?_
  refine x_aload_n dX9_works_13 rfl ?_
  refine x_iconst 1 dX9_works_14 (by decide) ?_
  refine x_put (ws' := [(aN, .inr (9, [.ref aNs, .ref aNk, .int nkp, .ref aNf, .ref aNr, .ref aNp, .ref aNb, .ref aNa, .ref aNt, .int (nI nts), .ref aNbo, .ref aNsz, .ref aNnu, .int (nI nta), .int (nI nop), .int nbd, .int 0, .int (nI npr), .int 0, .int 1, .int 1, .ref aNl, .ref aNal, .ref aNlo, .int (nI nac), .ref aNw, .ref aNtr, .ref aNis, .ref aNbg, .ref aNow])), (aNs, .inl (g.2.1 0, 919, .inl (msF gr wk z lk sz br ru ki ma bb ce hd))), (aNt, .inl (g.2.1 0, 60, .inl (nIf tb))), (aNa, .inl (g.2.1 0, 2475, .inl (nIf fcN))), (aNr, .inl (g.2.1 0, 495, .inl (nIf rowB))), (aNb, .inl (g.2.1 0, 4096, .inl (nIf popN))), (aNl, .inl (g.2.1 0, 495, .inl (nIf nli))), (aNal, .inl (g.2.1 0, 495, .inl (nIf nal))), (aNlo, .inl (g.2.1 0, 12, .inl (nIf nlo)))]) dX9_works_15 0 20 inX9 tyX9_ok nmX9 fl_X9_51 rfl rfl (by decide) rfl (rfl) rfl (xlt rfl) rfl ?_
  refine x_iconst 0 dX9_works_18 (by decide) ?_
  refine x_istore_n (lv' := [some (.ref aN), some (.int 0), none]) dX9_works_19 (xlt rfl) rfl ?_
  have L20_1 : ∀ (i : Nat), i ≤ 495 → ∀ (qat : Nat), ∀ (qop : Nat), ∀ (qbd : Int32), ∀ (qpr : Nat), ∀ (lf : Nat → Nat), lf = fillT i sd nli → Xs κ g 27 0 0 cX9_works yX9_works none Q 0 0 20 [some (.ref aN), some (.int (nI i)), none] [] [(aN, .inr (9, [.ref aNs, .ref aNk, .int nkp, .ref aNf, .ref aNr, .ref aNp, .ref aNb, .ref aNa, .ref aNt, .int (nI nts), .ref aNbo, .ref aNsz, .ref aNnu, .int (nI qat), .int (nI qop), .int qbd, .int 0, .int (nI qpr), .int 0, .int 1, .int 1, .ref aNl, .ref aNal, .ref aNlo, .int (nI nac), .ref aNw, .ref aNtr, .ref aNis, .ref aNbg, .ref aNow])), (aNs, .inl (g.2.1 0, 919, .inl (msF gr wk z lk sz br ru ki ma bb ce hd))), (aNt, .inl (g.2.1 0, 60, .inl (nIf tb))), (aNa, .inl (g.2.1 0, 2475, .inl (nIf fcN))), (aNr, .inl (g.2.1 0, 495, .inl (nIf rowB))), (aNb, .inl (g.2.1 0, 4096, .inl (nIf popN))), (aNl, .inl (g.2.1 0, 495, .inl (nIf lf))), (aNal, .inl (g.2.1 0, 495, .inl (nIf nal))), (aNlo, .inl (g.2.1 0, 12, .inl (nIf nlo)))] := by
    refine upTo 495 (fun i hi20 ih20 => ?_)
    intro qat
    intro qop
    intro qbd
    intro qpr
    intro lf elf
    subst elf
    refine x_iload_n dX9_works_20 rfl ?_
    refine x_sipush 495 dX9_works_21 (by decide) ?_
    refine x_icmp_ge dX9_works_24 (fun c24 => ?_) (fun c24 => ?_)
    · have c24 : 495 ≤ (nI i) := c24
      have c24n := (nI_leI (a := 495) (b := i) (by omega) (by omega)).mp c24
      have hxc24 : i = 495 := by omega
      try rw [hxc24]
      refine x_funi (ws' := [(aN, .inr (9, [.ref aNs, .ref aNk, .int nkp, .ref aNf, .ref aNr, .ref aNp, .ref aNb, .ref aNa, .ref aNt, .int (nI nts), .ref aNbo, .ref aNsz, .ref aNnu, .int (nI qat), .int (nI qop), .int qbd, .int 0, .int (nI qpr), .int 0, .int 1, .int 1, .ref aNl, .ref aNal, .ref aNlo, .int (nI nac), .ref aNw, .ref aNtr, .ref aNis, .ref aNbg, .ref aNow])), (aNs, .inl (g.2.1 0, 919, .inl (msF gr wk z lk sz br ru ki ma bb ce hd))), (aNt, .inl (g.2.1 0, 60, .inl (nIf tb))), (aNa, .inl (g.2.1 0, 2475, .inl (nIf fcN))), (aNr, .inl (g.2.1 0, 495, .inl (nIf rowB))), (aNb, .inl (g.2.1 0, 4096, .inl (nIf popN))), (aNl, .inl (g.2.1 0, 495, .inl (nIf sd))), (aNal, .inl (g.2.1 0, 495, .inl (nIf nal))), (aNlo, .inl (g.2.1 0, 12, .inl (nIf nlo)))]) (q0 := 6) rfl (fun j hj => congrArg nI (fillT_in _ _ hj)) rfl ?_
      refine x_aload_n dX9_works_86 rfl ?_
      refine x_iconst 0 dX9_works_87 (by decide) ?_
      refine x_put (ws' := [(aN, .inr (9, [.ref aNs, .ref aNk, .int nkp, .ref aNf, .ref aNr, .ref aNp, .ref aNb, .ref aNa, .ref aNt, .int (nI nts), .ref aNbo, .ref aNsz, .ref aNnu, .int (nI qat), .int (nI qop), .int qbd, .int 0, .int (nI qpr), .int 0, .int 0, .int 1, .ref aNl, .ref aNal, .ref aNlo, .int (nI nac), .ref aNw, .ref aNtr, .ref aNis, .ref aNbg, .ref aNow])), (aNs, .inl (g.2.1 0, 919, .inl (msF gr wk z lk sz br ru ki ma bb ce hd))), (aNt, .inl (g.2.1 0, 60, .inl (nIf tb))), (aNa, .inl (g.2.1 0, 2475, .inl (nIf fcN))), (aNr, .inl (g.2.1 0, 495, .inl (nIf rowB))), (aNb, .inl (g.2.1 0, 4096, .inl (nIf popN))), (aNl, .inl (g.2.1 0, 495, .inl (nIf sd))), (aNal, .inl (g.2.1 0, 495, .inl (nIf nal))), (aNlo, .inl (g.2.1 0, 12, .inl (nIf nlo)))]) dX9_works_88 0 19 inX9 tyX9_ok nmX9 fl_X9_48 rfl rfl (by decide) rfl (rfl) rfl (xlt rfl) rfl ?_
      refine x_aload_n dX9_works_91 rfl ?_
      refine x_iconst 0 dX9_works_92 (by decide) ?_
      refine x_put (ws' := [(aN, .inr (9, [.ref aNs, .ref aNk, .int nkp, .ref aNf, .ref aNr, .ref aNp, .ref aNb, .ref aNa, .ref aNt, .int (nI nts), .ref aNbo, .ref aNsz, .ref aNnu, .int (nI qat), .int (nI qop), .int qbd, .int 0, .int (nI qpr), .int 0, .int 0, .int 1, .ref aNl, .ref aNal, .ref aNlo, .int 0, .ref aNw, .ref aNtr, .ref aNis, .ref aNbg, .ref aNow])), (aNs, .inl (g.2.1 0, 919, .inl (msF gr wk z lk sz br ru ki ma bb ce hd))), (aNt, .inl (g.2.1 0, 60, .inl (nIf tb))), (aNa, .inl (g.2.1 0, 2475, .inl (nIf fcN))), (aNr, .inl (g.2.1 0, 495, .inl (nIf rowB))), (aNb, .inl (g.2.1 0, 4096, .inl (nIf popN))), (aNl, .inl (g.2.1 0, 495, .inl (nIf sd))), (aNal, .inl (g.2.1 0, 495, .inl (nIf nal))), (aNlo, .inl (g.2.1 0, 12, .inl (nIf nlo)))]) dX9_works_93 0 24 inX9 tyX9_ok nmX9 fl_X9_192 rfl rfl (by decide) rfl (rfl) rfl (xlt rfl) rfl ?_
      refine x_iconst 0 dX9_works_96 (by decide) ?_
      refine x_istore_n (lv' := [some (.ref aN), some (.int 0), none]) dX9_works_97 (xlt rfl) rfl ?_
      have L98_2 : ∀ (i : Nat), i ≤ 495 → ∀ (af : Nat → Nat), af = fillT i (crH 0 ki ma hd L sd) nal → Xs κ g 27 0 0 cX9_works yX9_works none Q 0 0 98 [some (.ref aN), some (.int (nI i)), none] [] [(aN, .inr (9, [.ref aNs, .ref aNk, .int nkp, .ref aNf, .ref aNr, .ref aNp, .ref aNb, .ref aNa, .ref aNt, .int (nI nts), .ref aNbo, .ref aNsz, .ref aNnu, .int (nI qat), .int (nI qop), .int qbd, .int 0, .int (nI qpr), .int 0, .int 0, .int 1, .ref aNl, .ref aNal, .ref aNlo, .int 0, .ref aNw, .ref aNtr, .ref aNis, .ref aNbg, .ref aNow])), (aNs, .inl (g.2.1 0, 919, .inl (msF gr wk z lk sz br ru ki ma bb ce hd))), (aNt, .inl (g.2.1 0, 60, .inl (nIf tb))), (aNa, .inl (g.2.1 0, 2475, .inl (nIf fcN))), (aNr, .inl (g.2.1 0, 495, .inl (nIf rowB))), (aNb, .inl (g.2.1 0, 4096, .inl (nIf popN))), (aNl, .inl (g.2.1 0, 495, .inl (nIf sd))), (aNal, .inl (g.2.1 0, 495, .inl (nIf af))), (aNlo, .inl (g.2.1 0, 12, .inl (nIf nlo)))] := by
        refine upTo 495 (fun i hi98 ih98 => ?_)
        intro af eaf
        subst eaf
        refine x_iload_n dX9_works_98 rfl ?_
        refine x_sipush 495 dX9_works_99 (by decide) ?_
        refine x_icmp_ge dX9_works_102 (fun c102 => ?_) (fun c102 => ?_)
        · have c102 : 495 ≤ (nI i) := c102
          have c102n := (nI_leI (a := 495) (b := i) (by omega) (by omega)).mp c102
          have hxc102 : i = 495 := by omega
          try rw [hxc102]
          refine x_funi (ws' := [(aN, .inr (9, [.ref aNs, .ref aNk, .int nkp, .ref aNf, .ref aNr, .ref aNp, .ref aNb, .ref aNa, .ref aNt, .int (nI nts), .ref aNbo, .ref aNsz, .ref aNnu, .int (nI qat), .int (nI qop), .int qbd, .int 0, .int (nI qpr), .int 0, .int 0, .int 1, .ref aNl, .ref aNal, .ref aNlo, .int 0, .ref aNw, .ref aNtr, .ref aNis, .ref aNbg, .ref aNow])), (aNs, .inl (g.2.1 0, 919, .inl (msF gr wk z lk sz br ru ki ma bb ce hd))), (aNt, .inl (g.2.1 0, 60, .inl (nIf tb))), (aNa, .inl (g.2.1 0, 2475, .inl (nIf fcN))), (aNr, .inl (g.2.1 0, 495, .inl (nIf rowB))), (aNb, .inl (g.2.1 0, 4096, .inl (nIf popN))), (aNl, .inl (g.2.1 0, 495, .inl (nIf sd))), (aNal, .inl (g.2.1 0, 495, .inl (nIf (crH 0 ki ma hd L sd)))), (aNlo, .inl (g.2.1 0, 12, .inl (nIf nlo)))]) (q0 := 7) rfl (fun j hj => congrArg nI (fillT_in _ _ hj)) rfl ?_
          refine x_iconst 0 dX9_works_127 (by decide) ?_
          refine x_istore_n (lv' := [some (.ref aN), some (.int 0), none]) dX9_works_128 (xlt rfl) rfl ?_
          have L129_3 : ∀ (g : Nat), g ≤ gr → ∀ (ag : Nat → Nat), ag = crH g ki ma hd L sd → ∀ (lg : Nat → Nat), lg = fillT g (fun q => laN (ki q) (ma q) L sd) nlo → Xs κ g 27 0 0 cX9_works yX9_works none Q 0 0 129 [some (.ref aN), some (.int (nI g)), none] [] [(aN, .inr (9, [.ref aNs, .ref aNk, .int nkp, .ref aNf, .ref aNr, .ref aNp, .ref aNb, .ref aNa, .ref aNt, .int (nI nts), .ref aNbo, .ref aNsz, .ref aNnu, .int (nI qat), .int (nI qop), .int qbd, .int 0, .int (nI qpr), .int 0, .int 0, .int 1, .ref aNl, .ref aNal, .ref aNlo, .int 0, .ref aNw, .ref aNtr, .ref aNis, .ref aNbg, .ref aNow])), (aNs, .inl (g.2.1 0, 919, .inl (msF gr wk z lk sz br ru ki ma bb ce hd))), (aNt, .inl (g.2.1 0, 60, .inl (nIf tb))), (aNa, .inl (g.2.1 0, 2475, .inl (nIf fcN))), (aNr, .inl (g.2.1 0, 495, .inl (nIf rowB))), (aNb, .inl (g.2.1 0, 4096, .inl (nIf popN))), (aNl, .inl (g.2.1 0, 495, .inl (nIf sd))), (aNal, .inl (g.2.1 0, 495, .inl (nIf ag))), (aNlo, .inl (g.2.1 0, 12, .inl (nIf lg)))] := by
            refine upTo gr (fun g hi129 ih129 => ?_)
            intro ag eag
            subst eag
            intro lg elg
            subst elg
            refine x_iload_n dX9_works_129 rfl ?_
            refine x_aload_n dX9_works_130 rfl ?_
            refine x_get dX9_works_131 0 0 inX9 fl_X9_7 rfl rfl (by decide) rfl ?_
            refine x_iconst 0 dX9_works_134 (by decide) ?_
            refine x_iald dX9_works_135 1 0 rfl (rfl) (by decide) (by decide) ?_
            refine x_rei (nI gr) (rfl) ?_
            refine x_icmp_ge dX9_works_136 (fun c136 => ?_) (fun c136 => ?_)
            · have c136 : (nI gr) ≤ (nI g) := c136
              have c136n := (nI_leI (a := gr) (b := g) (by omega) (by omega)).mp c136
              have hxc136 : g = gr := by omega
              try rw [hxc136]
              refine x_iconst 0 dX9_works_212 (by decide) ?_
              refine x_istore_n (lv' := [some (.ref aN), some (.int 0), none]) dX9_works_213 (xlt rfl) rfl ?_
              have L214_4 : ∀ (i : Nat), i ≤ 495 → ∀ (tt : Nat), tt = sumN (crH gr ki ma hd L sd) i → Xs κ g 27 0 0 cX9_works yX9_works none Q 0 0 214 [some (.ref aN), some (.int (nI i)), none] [] [(aN, .inr (9, [.ref aNs, .ref aNk, .int nkp, .ref aNf, .ref aNr, .ref aNp, .ref aNb, .ref aNa, .ref aNt, .int (nI nts), .ref aNbo, .ref aNsz, .ref aNnu, .int (nI qat), .int (nI qop), .int qbd, .int 0, .int (nI qpr), .int 0, .int 0, .int 1, .ref aNl, .ref aNal, .ref aNlo, .int (nI tt), .ref aNw, .ref aNtr, .ref aNis, .ref aNbg, .ref aNow])), (aNs, .inl (g.2.1 0, 919, .inl (msF gr wk z lk sz br ru ki ma bb ce hd))), (aNt, .inl (g.2.1 0, 60, .inl (nIf tb))), (aNa, .inl (g.2.1 0, 2475, .inl (nIf fcN))), (aNr, .inl (g.2.1 0, 495, .inl (nIf rowB))), (aNb, .inl (g.2.1 0, 4096, .inl (nIf popN))), (aNl, .inl (g.2.1 0, 495, .inl (nIf sd))), (aNal, .inl (g.2.1 0, 495, .inl (nIf (crH gr ki ma hd L sd)))), (aNlo, .inl (g.2.1 0, 12, .inl (nIf (fillT gr (fun q => laN (ki q) (ma q) L sd) nlo))))] := by
                refine upTo 495 (fun i hi214 ih214 => ?_)
                intro tt ett
                subst ett
                refine x_iload_n dX9_works_214 rfl ?_
                refine x_sipush 495 dX9_works_215 (by decide) ?_
                refine x_icmp_ge dX9_works_218 (fun c218 => ?_) (fun c218 => ?_)
                · have c218 : 495 ≤ (nI i) := c218
                  have c218n := (nI_leI (a := 495) (b := i) (by omega) (by omega)).mp c218
                  have hxc218 : i = 495 := by omega
                  try rw [hxc218]
                  rw [← hQ]
                  refine x_vret dX9_works_242 rfl (Nat.le_of_ble_eq_true rfl) (Nat.le_of_ble_eq_true rfl) ?_
                  exact ⟨_, _, _, _, _, rfl, rfl, fill_la gr _ _⟩
                · have c218 : ¬ (495 ≤ (nI i)) := c218
                  have c218n := mt (nI_leI (a := 495) (b := i) (by omega) (by omega)).mpr c218
                  refine x_aload_n dX9_works_221 rfl ?_
                  refine x_dup dX9_works_222 rfl ?_
                  refine x_get dX9_works_223 0 24 inX9 fl_X9_192 rfl rfl (by decide) rfl ?_
                  refine x_aload_n dX9_works_226 rfl ?_
                  refine x_get dX9_works_227 0 22 inX9 fl_X9_57 rfl rfl (by decide) rfl ?_
                  refine x_iload_n dX9_works_230 rfl ?_
                  refine x_iald dX9_works_231 7 i rfl (rfl) (by omega) (by decide) ?_
                  refine x_iadd dX9_works_232 ?_
                  refine x_rei (nI ((sumN (crH gr ki ma hd L sd) i) + ((crH gr ki ma hd L sd) i))) (nI_iadd (sumN (crH gr ki ma hd L sd) i) ((crH gr ki ma hd L sd) i)) ?_
                  refine x_put (ws' := [(aN, .inr (9, [.ref aNs, .ref aNk, .int nkp, .ref aNf, .ref aNr, .ref aNp, .ref aNb, .ref aNa, .ref aNt, .int (nI nts), .ref aNbo, .ref aNsz, .ref aNnu, .int (nI qat), .int (nI qop), .int qbd, .int 0, .int (nI qpr), .int 0, .int 0, .int 1, .ref aNl, .ref aNal, .ref aNlo, .int (nI ((sumN (crH gr ki ma hd L sd) i) + ((crH gr ki ma hd L sd) i))), .ref aNw, .ref aNtr, .ref aNis, .ref aNbg, .ref aNow])), (aNs, .inl (g.2.1 0, 919, .inl (msF gr wk z lk sz br ru ki ma bb ce hd))), (aNt, .inl (g.2.1 0, 60, .inl (nIf tb))), (aNa, .inl (g.2.1 0, 2475, .inl (nIf fcN))), (aNr, .inl (g.2.1 0, 495, .inl (nIf rowB))), (aNb, .inl (g.2.1 0, 4096, .inl (nIf popN))), (aNl, .inl (g.2.1 0, 495, .inl (nIf sd))), (aNal, .inl (g.2.1 0, 495, .inl (nIf (crH gr ki ma hd L sd)))), (aNlo, .inl (g.2.1 0, 12, .inl (nIf (fillT gr (fun q => laN (ki q) (ma q) L sd) nlo))))]) dX9_works_233 0 24 inX9 tyX9_ok nmX9 fl_X9_192 rfl rfl (by decide) rfl (rfl) rfl (xlt rfl) rfl ?_
                  refine x_iinc (lv' := [some (.ref aN), some (.int (nI (i + 1))), none]) (nI (i + 1)) dX9_works_236 rfl (nI_addc i 1 rfl) rfl ?_
                  refine x_goto dX9_works_239 ?_
                  exact ih214 (by omega) ((sumN (crH gr ki ma hd L sd) i) + ((crH gr ki ma hd L sd) i)) (by rfl)
              exact L214_4 0 (Nat.zero_le _) 0 (by rfl)
            · have c136 : ¬ ((nI gr) ≤ (nI g)) := c136
              have c136n := mt (nI_leI (a := gr) (b := g) (by omega) (by omega)).mpr c136
              refine x_aload_n dX9_works_139 rfl ?_
              refine x_get dX9_works_140 0 23 inX9 fl_X9_60 rfl rfl (by decide) rfl ?_
              refine x_iload_n dX9_works_143 rfl ?_
              refine x_iconst 0 dX9_works_144 (by decide) ?_
              refine x_iast (ws' := [(aN, .inr (9, [.ref aNs, .ref aNk, .int nkp, .ref aNf, .ref aNr, .ref aNp, .ref aNb, .ref aNa, .ref aNt, .int (nI nts), .ref aNbo, .ref aNsz, .ref aNnu, .int (nI qat), .int (nI qop), .int qbd, .int 0, .int (nI qpr), .int 0, .int 0, .int 1, .ref aNl, .ref aNal, .ref aNlo, .int 0, .ref aNw, .ref aNtr, .ref aNis, .ref aNbg, .ref aNow])), (aNs, .inl (g.2.1 0, 919, .inl (msF gr wk z lk sz br ru ki ma bb ce hd))), (aNt, .inl (g.2.1 0, 60, .inl (nIf tb))), (aNa, .inl (g.2.1 0, 2475, .inl (nIf fcN))), (aNr, .inl (g.2.1 0, 495, .inl (nIf rowB))), (aNb, .inl (g.2.1 0, 4096, .inl (nIf popN))), (aNl, .inl (g.2.1 0, 495, .inl (nIf sd))), (aNal, .inl (g.2.1 0, 495, .inl (nIf (crH g ki ma hd L sd)))), (aNlo, .inl (g.2.1 0, 12, .inl (nIf (updN (fillT g (fun q => laN (ki q) (ma q) L sd) nlo) g 0))))]) dX9_works_145 8 g rfl (rfl) (by omega) (by decide) (by rw [upd_nIf]; rfl) ?_
              refine x_iconst 0 dX9_works_146 (by decide) ?_
              refine x_istore_n (lv' := [some (.ref aN), some (.int (nI g)), some (.int 0)]) dX9_works_147 (xlt rfl) rfl ?_
              have L148_5 : ∀ (i : Nat), i ≤ 495 → ∀ (lh : Nat → Nat), lh = updN (fillT g (fun q => laN (ki q) (ma q) L sd) nlo) g (sumN (fun p => lkN (ki g) (ma g) p L (sd p)) i) → Xs κ g 27 0 0 cX9_works yX9_works none Q 0 0 148 [some (.ref aN), some (.int (nI g)), some (.int (nI i))] [] [(aN, .inr (9, [.ref aNs, .ref aNk, .int nkp, .ref aNf, .ref aNr, .ref aNp, .ref aNb, .ref aNa, .ref aNt, .int (nI nts), .ref aNbo, .ref aNsz, .ref aNnu, .int (nI qat), .int (nI qop), .int qbd, .int 0, .int (nI qpr), .int 0, .int 0, .int 1, .ref aNl, .ref aNal, .ref aNlo, .int 0, .ref aNw, .ref aNtr, .ref aNis, .ref aNbg, .ref aNow])), (aNs, .inl (g.2.1 0, 919, .inl (msF gr wk z lk sz br ru ki ma bb ce hd))), (aNt, .inl (g.2.1 0, 60, .inl (nIf tb))), (aNa, .inl (g.2.1 0, 2475, .inl (nIf fcN))), (aNr, .inl (g.2.1 0, 495, .inl (nIf rowB))), (aNb, .inl (g.2.1 0, 4096, .inl (nIf popN))), (aNl, .inl (g.2.1 0, 495, .inl (nIf sd))), (aNal, .inl (g.2.1 0, 495, .inl (nIf (crH g ki ma hd L sd)))), (aNlo, .inl (g.2.1 0, 12, .inl (nIf lh)))] := by
                refine upTo 495 (fun i hi148 ih148 => ?_)
                intro lh elh
                subst elh
                refine x_iload_n dX9_works_148 rfl ?_
                refine x_sipush 495 dX9_works_149 (by decide) ?_
                refine x_icmp_ge dX9_works_152 (fun c152 => ?_) (fun c152 => ?_)
                · have c152 : 495 ≤ (nI i) := c152
                  have c152n := (nI_leI (a := 495) (b := i) (by omega) (by omega)).mp c152
                  have hxc152 : i = 495 := by omega
                  try rw [hxc152]
                  refine x_iconst 0 dX9_works_176 (by decide) ?_
                  refine x_istore_n (lv' := [some (.ref aN), some (.int (nI g)), some (.int 0)]) dX9_works_177 (xlt rfl) rfl ?_
                  have L178_6 : ∀ (i : Nat), i ≤ 495 → ∀ (ah : Nat → Nat), ah = fillT i (crH (g + 1) ki ma hd L sd) (crH g ki ma hd L sd) → Xs κ g 27 0 0 cX9_works yX9_works none Q 0 0 178 [some (.ref aN), some (.int (nI g)), some (.int (nI i))] [] [(aN, .inr (9, [.ref aNs, .ref aNk, .int nkp, .ref aNf, .ref aNr, .ref aNp, .ref aNb, .ref aNa, .ref aNt, .int (nI nts), .ref aNbo, .ref aNsz, .ref aNnu, .int (nI qat), .int (nI qop), .int qbd, .int 0, .int (nI qpr), .int 0, .int 0, .int 1, .ref aNl, .ref aNal, .ref aNlo, .int 0, .ref aNw, .ref aNtr, .ref aNis, .ref aNbg, .ref aNow])), (aNs, .inl (g.2.1 0, 919, .inl (msF gr wk z lk sz br ru ki ma bb ce hd))), (aNt, .inl (g.2.1 0, 60, .inl (nIf tb))), (aNa, .inl (g.2.1 0, 2475, .inl (nIf fcN))), (aNr, .inl (g.2.1 0, 495, .inl (nIf rowB))), (aNb, .inl (g.2.1 0, 4096, .inl (nIf popN))), (aNl, .inl (g.2.1 0, 495, .inl (nIf sd))), (aNal, .inl (g.2.1 0, 495, .inl (nIf ah))), (aNlo, .inl (g.2.1 0, 12, .inl (nIf (updN (fillT g (fun q => laN (ki q) (ma q) L sd) nlo) g (sumN (fun p => lkN (ki g) (ma g) p L (sd p)) 495)))))] := by
                    refine upTo 495 (fun i hi178 ih178 => ?_)
                    intro ah eah
                    subst eah
                    refine x_iload_n dX9_works_178 rfl ?_
                    refine x_sipush 495 dX9_works_179 (by decide) ?_
                    refine x_icmp_ge dX9_works_182 (fun c182 => ?_) (fun c182 => ?_)
                    · have c182 : 495 ≤ (nI i) := c182
                      have c182n := (nI_leI (a := 495) (b := i) (by omega) (by omega)).mp c182
                      have hxc182 : i = 495 := by omega
                      try rw [hxc182]
                      refine x_funi (ws' := [(aN, .inr (9, [.ref aNs, .ref aNk, .int nkp, .ref aNf, .ref aNr, .ref aNp, .ref aNb, .ref aNa, .ref aNt, .int (nI nts), .ref aNbo, .ref aNsz, .ref aNnu, .int (nI qat), .int (nI qop), .int qbd, .int 0, .int (nI qpr), .int 0, .int 0, .int 1, .ref aNl, .ref aNal, .ref aNlo, .int 0, .ref aNw, .ref aNtr, .ref aNis, .ref aNbg, .ref aNow])), (aNs, .inl (g.2.1 0, 919, .inl (msF gr wk z lk sz br ru ki ma bb ce hd))), (aNt, .inl (g.2.1 0, 60, .inl (nIf tb))), (aNa, .inl (g.2.1 0, 2475, .inl (nIf fcN))), (aNr, .inl (g.2.1 0, 495, .inl (nIf rowB))), (aNb, .inl (g.2.1 0, 4096, .inl (nIf popN))), (aNl, .inl (g.2.1 0, 495, .inl (nIf sd))), (aNal, .inl (g.2.1 0, 495, .inl (nIf (crH (g + 1) ki ma hd L sd)))), (aNlo, .inl (g.2.1 0, 12, .inl (nIf (updN (fillT g (fun q => laN (ki q) (ma q) L sd) nlo) g (sumN (fun p => lkN (ki g) (ma g) p L (sd p)) 495)))))]) (q0 := 7) rfl (fun j hj => congrArg nI (fillT_in _ _ hj)) rfl ?_
                      refine x_iinc (lv' := [some (.ref aN), some (.int (nI (g + 1))), some (.int 495)]) (nI (g + 1)) dX9_works_206 rfl (nI_addc g 1 rfl) rfl ?_
                      refine x_goto dX9_works_209 ?_
                      refine x_fgt (lv' := [some (.ref aN), some (.int (nI (g + 1))), none]) ⟨Or.inr rfl, Or.inr rfl, Or.inl rfl, trivial⟩ ?_
                      exact ih129 (by omega) (crH (g + 1) ki ma hd L sd) (by rfl) (updN (fillT g (fun q => laN (ki q) (ma q) L sd) nlo) g (sumN (fun p => lkN (ki g) (ma g) p L (sd p)) 495)) (by exact lo_step nlo (fun q => laN (ki q) (ma q) L sd) g)
                    · have c182 : ¬ (495 ≤ (nI i)) := c182
                      have c182n := mt (nI_leI (a := 495) (b := i) (by omega) (by omega)).mpr c182
                      refine x_aload_n dX9_works_185 rfl ?_
                      refine x_get dX9_works_186 0 22 inX9 fl_X9_57 rfl rfl (by decide) rfl ?_
                      refine x_iload_n dX9_works_189 rfl ?_
                      refine x_dup2 dX9_works_190 rfl rfl ?_
                      refine x_iald dX9_works_191 7 i rfl (rfl) (by omega) (by decide) ?_
                      refine x_aload_n dX9_works_192 rfl ?_
                      refine x_iload_n dX9_works_193 rfl ?_
                      refine x_iload_n dX9_works_194 rfl ?_
                      refine x_cVi0 dX9_works_195 ml_X9_195 mX9_crossedBy (ct_X9_crossedBy κ.2.1 g aN aNs aNk aNf aNr aNp aNb aNa aNt aNbo aNsz aNnu aNl aNal aNlo aNw aNtr aNis aNbg aNow nts qat qop qpr 0 nkp qbd 0 0 0 1 gr wk lk sz br z ru ki ma bb hd ce L i g sd (updN (fillT g (fun q => laN (ki q) (ma q) L sd) nlo) g (sumN (fun p => lkN (ki g) (ma g) p L (sd p)) 495)) (by omega) (hki) (hma) (by omega) (hwk) (hlat) (hL) (hsd) (updN_self _ _ _)) [0, 1, 4, 5, 6, 8] rfl rfl 0 rfl rfl rfl (Nat.le_of_ble_eq_true rfl) (by decide) (Nat.le_refl _) (Nat.le_refl _) ?_
                      refine x_iadd dX9_works_198 ?_
                      refine x_rei (nI (((fillT i (crH (g + 1) ki ma hd L sd) (crH g ki ma hd L sd)) i) + (shN (ki g) (ma g) i L sd))) (nI_iadd ((fillT i (crH (g + 1) ki ma hd L sd) (crH g ki ma hd L sd)) i) (shN (ki g) (ma g) i L sd)) ?_
                      refine x_iast (ws' := [(aN, .inr (9, [.ref aNs, .ref aNk, .int nkp, .ref aNf, .ref aNr, .ref aNp, .ref aNb, .ref aNa, .ref aNt, .int (nI nts), .ref aNbo, .ref aNsz, .ref aNnu, .int (nI qat), .int (nI qop), .int qbd, .int 0, .int (nI qpr), .int 0, .int 0, .int 1, .ref aNl, .ref aNal, .ref aNlo, .int 0, .ref aNw, .ref aNtr, .ref aNis, .ref aNbg, .ref aNow])), (aNs, .inl (g.2.1 0, 919, .inl (msF gr wk z lk sz br ru ki ma bb ce hd))), (aNt, .inl (g.2.1 0, 60, .inl (nIf tb))), (aNa, .inl (g.2.1 0, 2475, .inl (nIf fcN))), (aNr, .inl (g.2.1 0, 495, .inl (nIf rowB))), (aNb, .inl (g.2.1 0, 4096, .inl (nIf popN))), (aNl, .inl (g.2.1 0, 495, .inl (nIf sd))), (aNal, .inl (g.2.1 0, 495, .inl (nIf (updN (fillT i (crH (g + 1) ki ma hd L sd) (crH g ki ma hd L sd)) i (((fillT i (crH (g + 1) ki ma hd L sd) (crH g ki ma hd L sd)) i) + (shN (ki g) (ma g) i L sd)))))), (aNlo, .inl (g.2.1 0, 12, .inl (nIf (updN (fillT g (fun q => laN (ki q) (ma q) L sd) nlo) g (sumN (fun p => lkN (ki g) (ma g) p L (sd p)) 495)))))]) dX9_works_199 7 i rfl (rfl) (by omega) (by decide) (by rw [upd_nIf]; rfl) ?_
                      refine x_iinc (lv' := [some (.ref aN), some (.int (nI g)), some (.int (nI (i + 1)))]) (nI (i + 1)) dX9_works_200 rfl (nI_addc i 1 rfl) rfl ?_
                      refine x_goto dX9_works_203 ?_
                      exact ih178 (by omega) (updN (fillT i (crH (g + 1) ki ma hd L sd) (crH g ki ma hd L sd)) i (((fillT i (crH (g + 1) ki ma hd L sd) (crH g ki ma hd L sd)) i) + (shN (ki g) (ma g) i L sd))) (by exact crH_step gr ki ma hd L sd g i)
                  exact L178_6 0 (Nat.zero_le _) (crH g ki ma hd L sd) (by exact (fillT_0 _ _).symm)
                · have c152 : ¬ (495 ≤ (nI i)) := c152
                  have c152n := mt (nI_leI (a := 495) (b := i) (by omega) (by omega)).mpr c152
                  refine x_aload_n dX9_works_155 rfl ?_
                  refine x_get dX9_works_156 0 23 inX9 fl_X9_60 rfl rfl (by decide) rfl ?_
                  refine x_iload_n dX9_works_159 rfl ?_
                  refine x_dup2 dX9_works_160 rfl rfl ?_
                  refine x_iald dX9_works_161 8 g rfl (rfl) (by omega) (by decide) ?_
                  refine x_rei (nI (sumN (fun p => lkN (ki g) (ma g) p L (sd p)) i)) (congrArg nI (updN_self _ _ _)) ?_
                  refine x_aload_n dX9_works_162 rfl ?_
                  refine x_iload_n dX9_works_163 rfl ?_
                  refine x_iload_n dX9_works_164 rfl ?_
                  refine x_cVi0 dX9_works_165 ml_X9_188 mX9_likesBy (ct_X9_likesBy κ.2.1 g aN aNs aNk aNf aNr aNp aNb aNa aNt aNbo aNsz aNnu aNl aNal aNlo aNw aNtr aNis aNbg aNow nts qat qop qpr 0 nkp qbd 0 0 0 1 gr wk lk sz br z ru ki ma bb hd ce L i g sd (by omega) (hki) (hma) (by omega) (hwk) (hlat) (hL)) [0, 1, 4, 5, 6] rfl rfl 0 rfl rfl rfl (Nat.le_of_ble_eq_true rfl) (by decide) (Nat.le_refl _) (Nat.le_refl _) ?_
                  refine x_iadd dX9_works_168 ?_
                  refine x_rei (nI ((sumN (fun p => lkN (ki g) (ma g) p L (sd p)) i) + (lkN (ki g) (ma g) i L (sd i)))) (nI_iadd (sumN (fun p => lkN (ki g) (ma g) p L (sd p)) i) (lkN (ki g) (ma g) i L (sd i))) ?_
                  refine x_iast (ws' := [(aN, .inr (9, [.ref aNs, .ref aNk, .int nkp, .ref aNf, .ref aNr, .ref aNp, .ref aNb, .ref aNa, .ref aNt, .int (nI nts), .ref aNbo, .ref aNsz, .ref aNnu, .int (nI qat), .int (nI qop), .int qbd, .int 0, .int (nI qpr), .int 0, .int 0, .int 1, .ref aNl, .ref aNal, .ref aNlo, .int 0, .ref aNw, .ref aNtr, .ref aNis, .ref aNbg, .ref aNow])), (aNs, .inl (g.2.1 0, 919, .inl (msF gr wk z lk sz br ru ki ma bb ce hd))), (aNt, .inl (g.2.1 0, 60, .inl (nIf tb))), (aNa, .inl (g.2.1 0, 2475, .inl (nIf fcN))), (aNr, .inl (g.2.1 0, 495, .inl (nIf rowB))), (aNb, .inl (g.2.1 0, 4096, .inl (nIf popN))), (aNl, .inl (g.2.1 0, 495, .inl (nIf sd))), (aNal, .inl (g.2.1 0, 495, .inl (nIf (crH g ki ma hd L sd)))), (aNlo, .inl (g.2.1 0, 12, .inl (nIf (updN (updN (fillT g (fun q => laN (ki q) (ma q) L sd) nlo) g (sumN (fun p => lkN (ki g) (ma g) p L (sd p)) i)) g ((sumN (fun p => lkN (ki g) (ma g) p L (sd p)) i) + (lkN (ki g) (ma g) i L (sd i)))))))]) dX9_works_169 8 g rfl (rfl) (by omega) (by decide) (by rw [upd_nIf]; rfl) ?_
                  refine x_iinc (lv' := [some (.ref aN), some (.int (nI g)), some (.int (nI (i + 1)))]) (nI (i + 1)) dX9_works_170 rfl (nI_addc i 1 rfl) rfl ?_
                  refine x_goto dX9_works_173 ?_
                  exact ih148 (by omega) (updN (updN (fillT g (fun q => laN (ki q) (ma q) L sd) nlo) g (sumN (fun p => lkN (ki g) (ma g) p L (sd p)) i)) g ((sumN (fun p => lkN (ki g) (ma g) p L (sd p)) i) + (lkN (ki g) (ma g) i L (sd i)))) (by exact updN_acc _ g (fun p => lkN (ki g) (ma g) p L (sd p)) i)
              exact L148_5 0 (Nat.zero_le _) (updN (fillT g (fun q => laN (ki q) (ma q) L sd) nlo) g 0) (by rfl)
          exact L129_3 0 (Nat.zero_le _) (crH 0 ki ma hd L sd) (by rfl) nlo (by exact (fillT_0 _ _).symm)
        · have c102 : ¬ (495 ≤ (nI i)) := c102
          have c102n := mt (nI_leI (a := 495) (b := i) (by omega) (by omega)).mpr c102
          refine x_aload_n dX9_works_105 rfl ?_
          refine x_get dX9_works_106 0 22 inX9 fl_X9_57 rfl rfl (by decide) rfl ?_
          refine x_iload_n dX9_works_109 rfl ?_
          refine x_aload_n dX9_works_110 rfl ?_
          refine x_get dX9_works_111 0 0 inX9 fl_X9_7 rfl rfl (by decide) rfl ?_
          refine x_sipush 424 dX9_works_114 (by decide) ?_
          refine x_iload_n dX9_works_117 rfl ?_
          refine x_iadd dX9_works_118 ?_
          refine x_rei (nI (424 + i)) (nI_iadd 424 i) ?_
          refine x_iald dX9_works_119 1 (424 + i) rfl (rfl) (by omega) (by decide) ?_
          refine x_rei (nI (hd i)) (msg_hd (x := i) (by omega)) ?_
          refine x_iast (ws' := [(aN, .inr (9, [.ref aNs, .ref aNk, .int nkp, .ref aNf, .ref aNr, .ref aNp, .ref aNb, .ref aNa, .ref aNt, .int (nI nts), .ref aNbo, .ref aNsz, .ref aNnu, .int (nI qat), .int (nI qop), .int qbd, .int 0, .int (nI qpr), .int 0, .int 0, .int 1, .ref aNl, .ref aNal, .ref aNlo, .int 0, .ref aNw, .ref aNtr, .ref aNis, .ref aNbg, .ref aNow])), (aNs, .inl (g.2.1 0, 919, .inl (msF gr wk z lk sz br ru ki ma bb ce hd))), (aNt, .inl (g.2.1 0, 60, .inl (nIf tb))), (aNa, .inl (g.2.1 0, 2475, .inl (nIf fcN))), (aNr, .inl (g.2.1 0, 495, .inl (nIf rowB))), (aNb, .inl (g.2.1 0, 4096, .inl (nIf popN))), (aNl, .inl (g.2.1 0, 495, .inl (nIf sd))), (aNal, .inl (g.2.1 0, 495, .inl (nIf (updN (fillT i (crH 0 ki ma hd L sd) nal) i (hd i))))), (aNlo, .inl (g.2.1 0, 12, .inl (nIf nlo)))]) dX9_works_120 7 i rfl (rfl) (by omega) (by decide) (by rw [upd_nIf]; rfl) ?_
          refine x_iinc (lv' := [some (.ref aN), some (.int (nI (i + 1))), none]) (nI (i + 1)) dX9_works_121 rfl (nI_addc i 1 rfl) rfl ?_
          refine x_goto dX9_works_124 ?_
          exact ih98 (by omega) (updN (fillT i (crH 0 ki ma hd L sd) nal) i (hd i)) (by exact fillT_updN i (crH 0 ki ma hd L sd) nal)
      exact L98_2 0 (Nat.zero_le _) nal (by exact (fillT_0 _ _).symm)
    · have c24 : ¬ (495 ≤ (nI i)) := c24
      have c24n := mt (nI_leI (a := 495) (b := i) (by omega) (by omega)).mpr c24
      refine x_aload_n dX9_works_27 rfl ?_
      refine x_get dX9_works_28 0 19 inX9 fl_X9_48 rfl rfl (by decide) rfl ?_
      refine x_if_eq dX9_works_31 (fun c31 => ?_) (fun c31 => ?_)
      · exact absurd c31 (by decide)
      refine x_aload_n dX9_works_34 rfl ?_
      refine x_get dX9_works_35 0 0 inX9 fl_X9_7 rfl rfl (by decide) rfl ?_
      refine x_iconst 3 dX9_works_38 (by decide) ?_
      refine x_iald dX9_works_39 1 3 rfl (rfl) (by decide) (by decide) ?_
      refine x_rei (nI lk) (rfl) ?_
      refine x_iconst 1 dX9_works_40 (by decide) ?_
      refine x_icmp_ne dX9_works_41 (fun c41 => ?_) (fun c41 => ?_)
      · have c41 : ¬ ((nI lk) = 1) := c41
        have c41n := mt (nI_eq (a := lk) (b := 1) (by omega) (by omega)).mpr c41
        refine x_iconst 1 dX9_works_52 (by decide) ?_
        refine x_istore_n (lv' := [some (.ref aN), some (.int (nI i)), some (.int 1)]) dX9_works_53 (xlt rfl) rfl ?_
        refine x_aload_n dX9_works_54 rfl ?_
        refine x_get dX9_works_55 0 21 inX9 fl_X9_54 rfl rfl (by decide) rfl ?_
        refine x_iload_n dX9_works_58 rfl ?_
        refine x_iload_n dX9_works_59 rfl ?_
        refine x_if_ge dX9_works_60 (fun c60 => ?_) (fun c60 => ?_)
        rotate_left
        · exact absurd c60 (by decide)
        refine x_iload_n dX9_works_67 rfl ?_
        refine x_bipush 99 dX9_works_68 (by decide) ?_
        refine x_icmp_le dX9_works_70 (fun c70 => ?_) (fun c70 => ?_)
        rotate_left
        · exact absurd c70 (by decide)
        refine x_iload_n dX9_works_78 rfl ?_
        refine x_rei (nI (sd i)) (by rw [hsv i (by omega)]; simp only []; first | (rw [if_pos c41n]; exact clN_if _) | (rw [if_neg c41n]; exact one_clN)) ?_
        refine x_iast (ws' := [(aN, .inr (9, [.ref aNs, .ref aNk, .int nkp, .ref aNf, .ref aNr, .ref aNp, .ref aNb, .ref aNa, .ref aNt, .int (nI nts), .ref aNbo, .ref aNsz, .ref aNnu, .int (nI qat), .int (nI qop), .int qbd, .int 0, .int (nI qpr), .int 0, .int 1, .int 1, .ref aNl, .ref aNal, .ref aNlo, .int (nI nac), .ref aNw, .ref aNtr, .ref aNis, .ref aNbg, .ref aNow])), (aNs, .inl (g.2.1 0, 919, .inl (msF gr wk z lk sz br ru ki ma bb ce hd))), (aNt, .inl (g.2.1 0, 60, .inl (nIf tb))), (aNa, .inl (g.2.1 0, 2475, .inl (nIf fcN))), (aNr, .inl (g.2.1 0, 495, .inl (nIf rowB))), (aNb, .inl (g.2.1 0, 4096, .inl (nIf popN))), (aNl, .inl (g.2.1 0, 495, .inl (nIf (updN (fillT i sd nli) i (sd i))))), (aNal, .inl (g.2.1 0, 495, .inl (nIf nal))), (aNlo, .inl (g.2.1 0, 12, .inl (nIf nlo)))]) dX9_works_79 6 i rfl (rfl) (by omega) (by decide) (by rw [upd_nIf]; rfl) ?_
        refine x_iinc (lv' := [some (.ref aN), some (.int (nI (i + 1))), some (.int 1)]) (nI (i + 1)) dX9_works_80 rfl (nI_addc i 1 rfl) rfl ?_
        refine x_goto dX9_works_83 ?_
        refine x_fgt (lv' := [some (.ref aN), some (.int (nI (i + 1))), none]) ⟨Or.inr rfl, Or.inr rfl, Or.inl rfl, trivial⟩ ?_
        exact ih20 (by omega) qat qop _ qpr (updN (fillT i sd nli) i (sd i)) (by exact fillT_updN i sd nli)
      · have c41 : (nI lk) = 1 := c41
        have c41n := (nI_eq (a := lk) (b := 1) (by omega) (by omega)).mp c41
        refine x_aload_n dX9_works_44 rfl ?_
        refine x_iload_n dX9_works_45 rfl ?_
        refine x_cVi (ws' := [(aN, .inr (9, [.ref aNs, .ref aNk, .int nkp, .ref aNf, .ref aNr, .ref aNp, .ref aNb, .ref aNa, .ref aNt, .int (nI nts), .ref aNbo, .ref aNsz, .ref aNnu, .int (nI ((srL (hB bb sz) (nmI wk L i) 4 0).1)), .int 0, .int (syI (srL (hB bb sz) (nmI wk L i) 4 0) sz), .int 0, .int (nI i), .int 0, .int 1, .int 1, .ref aNl, .ref aNal, .ref aNlo, .int (nI nac), .ref aNw, .ref aNtr, .ref aNis, .ref aNbg, .ref aNow])), (aNs, .inl (g.2.1 0, 919, .inl (msF gr wk z lk sz br ru ki ma bb ce hd))), (aNt, .inl (g.2.1 0, 60, .inl (nIf tb))), (aNa, .inl (g.2.1 0, 2475, .inl (nIf fcN))), (aNr, .inl (g.2.1 0, 495, .inl (nIf rowB))), (aNb, .inl (g.2.1 0, 4096, .inl (nIf popN))), (aNl, .inl (g.2.1 0, 495, .inl (nIf (fillT i sd nli)))), (aNal, .inl (g.2.1 0, 495, .inl (nIf nal))), (aNlo, .inl (g.2.1 0, 12, .inl (nIf nlo)))]) dX9_works_46 ml_X9_175 mX9_says (ct_X9_says κ.2.1 g aN aNs aNk aNf aNr aNp aNb aNa aNt aNbo aNsz aNnu aNl aNal aNlo aNw aNtr aNis aNbg aNow nts qat qop qpr nac nkp qbd 0 1 1 gr wk lk sz br z ru ki ma bb hd ce tb L i (hsz) (hbb) (by omega) (hwk) (hlat)) [0, 1, 2, 3, 4, 5] rfl rfl 0 rfl rfl rfl (Nat.le_of_ble_eq_true rfl) (by decide) (Nat.le_refl _) (Nat.le_refl _) (rfl : [aN, aNs, aNt, aNa, aNr, aNb] = [aN, aNs, aNt, aNa, aNr, aNb]) rfl ?_
        refine x_goto dX9_works_49 ?_
        refine x_istore_n (lv' := [some (.ref aN), some (.int (nI i)), some (.int ((srL (hB bb sz) (nmI wk L i) 4 0).2.2))]) dX9_works_53 (xlt rfl) rfl ?_
        refine x_aload_n dX9_works_54 rfl ?_
        refine x_get dX9_works_55 0 21 inX9 fl_X9_54 rfl rfl (by decide) rfl ?_
        refine x_iload_n dX9_works_58 rfl ?_
        refine x_iload_n dX9_works_59 rfl ?_
        have J60_10 : ∀ (v9 : Int32), v9 = (if 0 ≤ ((srL (hB bb sz) (nmI wk L i) 4 0).2.2) then ((if ((srL (hB bb sz) (nmI wk L i) 4 0).2.2) ≤ 99 then (srL (hB bb sz) (nmI wk L i) 4 0).2.2 else 99)) else 0) → Xs κ g 27 0 0 cX9_works yX9_works none Q 0 0 79 [some (.ref aN), some (.int (nI i)), some (.int ((srL (hB bb sz) (nmI wk L i) 4 0).2.2))] [.int v9, .int (nI i), .ref aNl] [(aN, .inr (9, [.ref aNs, .ref aNk, .int nkp, .ref aNf, .ref aNr, .ref aNp, .ref aNb, .ref aNa, .ref aNt, .int (nI nts), .ref aNbo, .ref aNsz, .ref aNnu, .int (nI ((srL (hB bb sz) (nmI wk L i) 4 0).1)), .int 0, .int (syI (srL (hB bb sz) (nmI wk L i) 4 0) sz), .int 0, .int (nI i), .int 0, .int 1, .int 1, .ref aNl, .ref aNal, .ref aNlo, .int (nI nac), .ref aNw, .ref aNtr, .ref aNis, .ref aNbg, .ref aNow])), (aNs, .inl (g.2.1 0, 919, .inl (msF gr wk z lk sz br ru ki ma bb ce hd))), (aNt, .inl (g.2.1 0, 60, .inl (nIf tb))), (aNa, .inl (g.2.1 0, 2475, .inl (nIf fcN))), (aNr, .inl (g.2.1 0, 495, .inl (nIf rowB))), (aNb, .inl (g.2.1 0, 4096, .inl (nIf popN))), (aNl, .inl (g.2.1 0, 495, .inl (nIf (fillT i sd nli)))), (aNal, .inl (g.2.1 0, 495, .inl (nIf nal))), (aNlo, .inl (g.2.1 0, 12, .inl (nIf nlo)))] := by
          intro v9 ev9
          refine x_rei (nI (sd i)) (by rw [hsv i (by omega)]; simp only [ev9]; first | (rw [if_pos c41n]; exact clN_if _) | (rw [if_neg c41n]; exact one_clN)) ?_
          refine x_iast (ws' := [(aN, .inr (9, [.ref aNs, .ref aNk, .int nkp, .ref aNf, .ref aNr, .ref aNp, .ref aNb, .ref aNa, .ref aNt, .int (nI nts), .ref aNbo, .ref aNsz, .ref aNnu, .int (nI ((srL (hB bb sz) (nmI wk L i) 4 0).1)), .int 0, .int (syI (srL (hB bb sz) (nmI wk L i) 4 0) sz), .int 0, .int (nI i), .int 0, .int 1, .int 1, .ref aNl, .ref aNal, .ref aNlo, .int (nI nac), .ref aNw, .ref aNtr, .ref aNis, .ref aNbg, .ref aNow])), (aNs, .inl (g.2.1 0, 919, .inl (msF gr wk z lk sz br ru ki ma bb ce hd))), (aNt, .inl (g.2.1 0, 60, .inl (nIf tb))), (aNa, .inl (g.2.1 0, 2475, .inl (nIf fcN))), (aNr, .inl (g.2.1 0, 495, .inl (nIf rowB))), (aNb, .inl (g.2.1 0, 4096, .inl (nIf popN))), (aNl, .inl (g.2.1 0, 495, .inl (nIf (updN (fillT i sd nli) i (sd i))))), (aNal, .inl (g.2.1 0, 495, .inl (nIf nal))), (aNlo, .inl (g.2.1 0, 12, .inl (nIf nlo)))]) dX9_works_79 6 i rfl (rfl) (by omega) (by decide) (by rw [upd_nIf]; rfl) ?_
          refine x_iinc (lv' := [some (.ref aN), some (.int (nI (i + 1))), some (.int ((srL (hB bb sz) (nmI wk L i) 4 0).2.2))]) (nI (i + 1)) dX9_works_80 rfl (nI_addc i 1 rfl) rfl ?_
          refine x_goto dX9_works_83 ?_
          refine x_fgt (lv' := [some (.ref aN), some (.int (nI (i + 1))), none]) ⟨Or.inr rfl, Or.inr rfl, Or.inl rfl, trivial⟩ ?_
          exact ih20 (by omega) ((srL (hB bb sz) (nmI wk L i) 4 0).1) 0 _ i (updN (fillT i sd nli) i (sd i)) (by exact fillT_updN i sd nli)
        refine x_if_ge dX9_works_60 (fun c60 => ?_) (fun c60 => ?_)
        · have c60 : 0 ≤ ((srL (hB bb sz) (nmI wk L i) 4 0).2.2) := c60
          refine x_iload_n dX9_works_67 rfl ?_
          refine x_bipush 99 dX9_works_68 (by decide) ?_
          have J70_12 : ∀ (v11 : Int32), v11 = (if ((srL (hB bb sz) (nmI wk L i) 4 0).2.2) ≤ 99 then (srL (hB bb sz) (nmI wk L i) 4 0).2.2 else 99) → Xs κ g 27 0 0 cX9_works yX9_works none Q 0 0 79 [some (.ref aN), some (.int (nI i)), some (.int ((srL (hB bb sz) (nmI wk L i) 4 0).2.2))] [.int v11, .int (nI i), .ref aNl] [(aN, .inr (9, [.ref aNs, .ref aNk, .int nkp, .ref aNf, .ref aNr, .ref aNp, .ref aNb, .ref aNa, .ref aNt, .int (nI nts), .ref aNbo, .ref aNsz, .ref aNnu, .int (nI ((srL (hB bb sz) (nmI wk L i) 4 0).1)), .int 0, .int (syI (srL (hB bb sz) (nmI wk L i) 4 0) sz), .int 0, .int (nI i), .int 0, .int 1, .int 1, .ref aNl, .ref aNal, .ref aNlo, .int (nI nac), .ref aNw, .ref aNtr, .ref aNis, .ref aNbg, .ref aNow])), (aNs, .inl (g.2.1 0, 919, .inl (msF gr wk z lk sz br ru ki ma bb ce hd))), (aNt, .inl (g.2.1 0, 60, .inl (nIf tb))), (aNa, .inl (g.2.1 0, 2475, .inl (nIf fcN))), (aNr, .inl (g.2.1 0, 495, .inl (nIf rowB))), (aNb, .inl (g.2.1 0, 4096, .inl (nIf popN))), (aNl, .inl (g.2.1 0, 495, .inl (nIf (fillT i sd nli)))), (aNal, .inl (g.2.1 0, 495, .inl (nIf nal))), (aNlo, .inl (g.2.1 0, 12, .inl (nIf nlo)))] := by
            intro v11 ev11
            exact J60_10 _ (by rw [if_pos c60]; try simp only [ev11])
          refine x_icmp_le dX9_works_70 (fun c70 => ?_) (fun c70 => ?_)
          · have c70 : ((srL (hB bb sz) (nmI wk L i) 4 0).2.2) ≤ 99 := c70
            refine x_iload_n dX9_works_78 rfl ?_
            exact J70_12 _ (if_pos c70).symm
          · have c70 : ¬ (((srL (hB bb sz) (nmI wk L i) 4 0).2.2) ≤ 99) := c70
            refine x_bipush 99 dX9_works_73 (by decide) ?_
            refine x_goto dX9_works_75 ?_
            exact J70_12 _ (if_neg c70).symm
        · have c60 : ¬ (0 ≤ ((srL (hB bb sz) (nmI wk L i) 4 0).2.2)) := c60
          refine x_iconst 0 dX9_works_63 (by decide) ?_
          refine x_goto dX9_works_64 ?_
          exact J60_10 _ (if_neg c60).symm
  exact L20_1 0 (Nat.zero_le _) nta nop _ npr nli (by exact (fillT_0 _ _).symm)

-- == wk_0 ==
set_option maxRecDepth 100000 in
set_option maxHeartbeats 4000000 in
theorem ct_wk_0 (l : Launch) (g : XG) (aN aNs aNk aNf aNr aNp aNb aNa aNt aNbo aNsz aNnu aNl aNal aNlo aNw aNtr aNis aNbg aNow nts nta nop npr nac : Nat) (nkp nbd nwn : Int32) (gr wk lk sz br : Nat) (z : Int32) (ru ki ma bb hd : Nat → Nat) (ce : Nat → Int32) (tb nli nal nlo sd : Nat → Nat) (L : Nat) (hgr : gr ≤ 12) (hki : ∀ j, ki j ≤ 7) (hma : ∀ j, ma j ≤ 99999) (hwk : wk ≤ 40) (hlat : latI ce wk = nI L) (hL : L < 4096) (hsz : sz ≤ 60) (hbb : ∀ j, bb j < 256) (hsd : ∀ p, sd p ≤ 99) (hsv : ∀ p, p < 495 → sd p = if lk = 1 then clN (txV bb sz wk L p) else 1) (hlk : lk ≤ 1) (hli : nli = sd) : Ct l g 27 0 0 yX9_works cX9_works 3 none [.ref aN] [(aN, .inr (9, [.ref aNs, .ref aNk, .int nkp, .ref aNf, .ref aNr, .ref aNp, .ref aNb, .ref aNa, .ref aNt, .int (nI nts), .ref aNbo, .ref aNsz, .ref aNnu, .int (nI nta), .int (nI nop), .int nbd, .int 0, .int (nI npr), .int 1, .int 0, .int nwn, .ref aNl, .ref aNal, .ref aNlo, .int (nI nac), .ref aNw, .ref aNtr, .ref aNis, .ref aNbg, .ref aNow])), (aNs, .inl (g.2.1 0, 919, .inl (msF gr wk z lk sz br ru ki ma bb ce hd))), (aNt, .inl (g.2.1 0, 60, .inl (nIf tb))), (aNa, .inl (g.2.1 0, 2475, .inl (nIf fcN))), (aNr, .inl (g.2.1 0, 495, .inl (nIf rowB))), (aNb, .inl (g.2.1 0, 4096, .inl (nIf popN))), (aNl, .inl (g.2.1 0, 495, .inl (nIf nli))), (aNal, .inl (g.2.1 0, 495, .inl (nIf nal))), (aNlo, .inl (g.2.1 0, 12, .inl (nIf nlo)))] (fun vv_ ww_ => ∃ (zat : Nat) (zop : Nat) (zbd : Int32) (zpr : Nat) (lo2 : Nat → Nat), vv_ = none ∧ ww_ = [(aN, .inr (9, [.ref aNs, .ref aNk, .int nkp, .ref aNf, .ref aNr, .ref aNp, .ref aNb, .ref aNa, .ref aNt, .int (nI nts), .ref aNbo, .ref aNsz, .ref aNnu, .int (nI zat), .int (nI zop), .int zbd, .int 0, .int (nI zpr), .int 0, .int 0, .int 1, .ref aNl, .ref aNal, .ref aNlo, .int (nI (toH gr ki ma hd L sd)), .ref aNw, .ref aNtr, .ref aNis, .ref aNbg, .ref aNow])), (aNs, .inl (g.2.1 0, 919, .inl (msF gr wk z lk sz br ru ki ma bb ce hd))), (aNt, .inl (g.2.1 0, 60, .inl (nIf tb))), (aNa, .inl (g.2.1 0, 2475, .inl (nIf fcN))), (aNr, .inl (g.2.1 0, 495, .inl (nIf rowB))), (aNb, .inl (g.2.1 0, 4096, .inl (nIf popN))), (aNl, .inl (g.2.1 0, 495, .inl (nIf sd))), (aNal, .inl (g.2.1 0, 495, .inl (nIf (crH gr ki ma hd L sd)))), (aNlo, .inl (g.2.1 0, 12, .inl (nIf lo2)))] ∧ (∀ q, q < gr → lo2 q = laN (ki q) (ma q) L sd)) := by
  refine Ct.ofX (lv := [some (.ref aN), none, none]) (by decide) rfl (Nat.le_of_ble_eq_true rfl) (fun κ => ?_)
  generalize hQ : xQ κ g 0 0 _ = Q
  subst hli
  refine x_aload_n dX9_works_0 rfl ?_
  refine x_get dX9_works_1 0 18 inX9 fl_X9_44 rfl rfl (by decide) rfl ?_
  refine x_if_ne dX9_works_4 (fun c4 => ?_) (fun c4 => ?_)
  rotate_left
  · exact absurd c4 (by decide)
  refine x_aload_n dX9_works_8 rfl ?_
  refine x_iconst 0 dX9_works_9 (by decide) ?_
  refine x_put (ws' := [(aN, .inr (9, [.ref aNs, .ref aNk, .int nkp, .ref aNf, .ref aNr, .ref aNp, .ref aNb, .ref aNa, .ref aNt, .int (nI nts), .ref aNbo, .ref aNsz, .ref aNnu, .int (nI nta), .int (nI nop), .int nbd, .int 0, .int (nI npr), .int 0, .int 0, .int nwn, .ref aNl, .ref aNal, .ref aNlo, .int (nI nac), .ref aNw, .ref aNtr, .ref aNis, .ref aNbg, .ref aNow])), (aNs, .inl (g.2.1 0, 919, .inl (msF gr wk z lk sz br ru ki ma bb ce hd))), (aNt, .inl (g.2.1 0, 60, .inl (nIf tb))), (aNa, .inl (g.2.1 0, 2475, .inl (nIf fcN))), (aNr, .inl (g.2.1 0, 495, .inl (nIf rowB))), (aNb, .inl (g.2.1 0, 4096, .inl (nIf popN))), (aNl, .inl (g.2.1 0, 495, .inl (nIf nli))), (aNal, .inl (g.2.1 0, 495, .inl (nIf nal))), (aNlo, .inl (g.2.1 0, 12, .inl (nIf nlo)))]) dX9_works_10 0 18 inX9 tyX9_ok nmX9 fl_X9_44 rfl rfl (by decide) rfl (rfl) rfl (xlt rfl) rfl ?_
  refine x_aload_n dX9_works_13 rfl ?_
  refine x_iconst 1 dX9_works_14 (by decide) ?_
  refine x_put (ws' := [(aN, .inr (9, [.ref aNs, .ref aNk, .int nkp, .ref aNf, .ref aNr, .ref aNp, .ref aNb, .ref aNa, .ref aNt, .int (nI nts), .ref aNbo, .ref aNsz, .ref aNnu, .int (nI nta), .int (nI nop), .int nbd, .int 0, .int (nI npr), .int 0, .int 0, .int 1, .ref aNl, .ref aNal, .ref aNlo, .int (nI nac), .ref aNw, .ref aNtr, .ref aNis, .ref aNbg, .ref aNow])), (aNs, .inl (g.2.1 0, 919, .inl (msF gr wk z lk sz br ru ki ma bb ce hd))), (aNt, .inl (g.2.1 0, 60, .inl (nIf tb))), (aNa, .inl (g.2.1 0, 2475, .inl (nIf fcN))), (aNr, .inl (g.2.1 0, 495, .inl (nIf rowB))), (aNb, .inl (g.2.1 0, 4096, .inl (nIf popN))), (aNl, .inl (g.2.1 0, 495, .inl (nIf nli))), (aNal, .inl (g.2.1 0, 495, .inl (nIf nal))), (aNlo, .inl (g.2.1 0, 12, .inl (nIf nlo)))]) dX9_works_15 0 20 inX9 tyX9_ok nmX9 fl_X9_51 rfl rfl (by decide) rfl (rfl) rfl (xlt rfl) rfl ?_
  refine x_iconst 0 dX9_works_18 (by decide) ?_
  refine x_istore_n (lv' := [some (.ref aN), some (.int 0), none]) dX9_works_19 (xlt rfl) rfl ?_
  refine x_iload_n dX9_works_20 rfl ?_
  refine x_sipush 495 dX9_works_21 (by decide) ?_
  refine x_icmp_ge dX9_works_24 (fun c24 => ?_) (fun c24 => ?_)
  · exact absurd c24 (by decide)
  refine x_aload_n dX9_works_27 rfl ?_
  refine x_get dX9_works_28 0 19 inX9 fl_X9_48 rfl rfl (by decide) rfl ?_
  refine x_if_eq dX9_works_31 (fun c31 => ?_) (fun c31 => ?_)
  rotate_left
  · exact absurd c31 (by decide)
  refine x_aload_n dX9_works_86 rfl ?_
  refine x_iconst 0 dX9_works_87 (by decide) ?_
  refine x_put (ws' := [(aN, .inr (9, [.ref aNs, .ref aNk, .int nkp, .ref aNf, .ref aNr, .ref aNp, .ref aNb, .ref aNa, .ref aNt, .int (nI nts), .ref aNbo, .ref aNsz, .ref aNnu, .int (nI nta), .int (nI nop), .int nbd, .int 0, .int (nI npr), .int 0, .int 0, .int 1, .ref aNl, .ref aNal, .ref aNlo, .int (nI nac), .ref aNw, .ref aNtr, .ref aNis, .ref aNbg, .ref aNow])), (aNs, .inl (g.2.1 0, 919, .inl (msF gr wk z lk sz br ru ki ma bb ce hd))), (aNt, .inl (g.2.1 0, 60, .inl (nIf tb))), (aNa, .inl (g.2.1 0, 2475, .inl (nIf fcN))), (aNr, .inl (g.2.1 0, 495, .inl (nIf rowB))), (aNb, .inl (g.2.1 0, 4096, .inl (nIf popN))), (aNl, .inl (g.2.1 0, 495, .inl (nIf nli))), (aNal, .inl (g.2.1 0, 495, .inl (nIf nal))), (aNlo, .inl (g.2.1 0, 12, .inl (nIf nlo)))]) dX9_works_88 0 19 inX9 tyX9_ok nmX9 fl_X9_48 rfl rfl (by decide) rfl (rfl) rfl (xlt rfl) rfl ?_
  refine x_aload_n dX9_works_91 rfl ?_
  refine x_iconst 0 dX9_works_92 (by decide) ?_
  refine x_put (ws' := [(aN, .inr (9, [.ref aNs, .ref aNk, .int nkp, .ref aNf, .ref aNr, .ref aNp, .ref aNb, .ref aNa, .ref aNt, .int (nI nts), .ref aNbo, .ref aNsz, .ref aNnu, .int (nI nta), .int (nI nop), .int nbd, .int 0, .int (nI npr), .int 0, .int 0, .int 1, .ref aNl, .ref aNal, .ref aNlo, .int 0, .ref aNw, .ref aNtr, .ref aNis, .ref aNbg, .ref aNow])), (aNs, .inl (g.2.1 0, 919, .inl (msF gr wk z lk sz br ru ki ma bb ce hd))), (aNt, .inl (g.2.1 0, 60, .inl (nIf tb))), (aNa, .inl (g.2.1 0, 2475, .inl (nIf fcN))), (aNr, .inl (g.2.1 0, 495, .inl (nIf rowB))), (aNb, .inl (g.2.1 0, 4096, .inl (nIf popN))), (aNl, .inl (g.2.1 0, 495, .inl (nIf nli))), (aNal, .inl (g.2.1 0, 495, .inl (nIf nal))), (aNlo, .inl (g.2.1 0, 12, .inl (nIf nlo)))]) dX9_works_93 0 24 inX9 tyX9_ok nmX9 fl_X9_192 rfl rfl (by decide) rfl (rfl) rfl (xlt rfl) rfl ?_
  refine x_iconst 0 dX9_works_96 (by decide) ?_
  refine x_istore_n (lv' := [some (.ref aN), some (.int 0), none]) dX9_works_97 (xlt rfl) rfl ?_
  have L98_1 : ∀ (i : Nat), i ≤ 495 → ∀ (af : Nat → Nat), af = fillT i (crH 0 ki ma hd L sd) nal → Xs κ g 27 0 0 cX9_works yX9_works none Q 0 0 98 [some (.ref aN), some (.int (nI i)), none] [] [(aN, .inr (9, [.ref aNs, .ref aNk, .int nkp, .ref aNf, .ref aNr, .ref aNp, .ref aNb, .ref aNa, .ref aNt, .int (nI nts), .ref aNbo, .ref aNsz, .ref aNnu, .int (nI nta), .int (nI nop), .int nbd, .int 0, .int (nI npr), .int 0, .int 0, .int 1, .ref aNl, .ref aNal, .ref aNlo, .int 0, .ref aNw, .ref aNtr, .ref aNis, .ref aNbg, .ref aNow])), (aNs, .inl (g.2.1 0, 919, .inl (msF gr wk z lk sz br ru ki ma bb ce hd))), (aNt, .inl (g.2.1 0, 60, .inl (nIf tb))), (aNa, .inl (g.2.1 0, 2475, .inl (nIf fcN))), (aNr, .inl (g.2.1 0, 495, .inl (nIf rowB))), (aNb, .inl (g.2.1 0, 4096, .inl (nIf popN))), (aNl, .inl (g.2.1 0, 495, .inl (nIf nli))), (aNal, .inl (g.2.1 0, 495, .inl (nIf af))), (aNlo, .inl (g.2.1 0, 12, .inl (nIf nlo)))] := by
    refine upTo 495 (fun i hi98 ih98 => ?_)
    intro af eaf
    subst eaf
    refine x_iload_n dX9_works_98 rfl ?_
    refine x_sipush 495 dX9_works_99 (by decide) ?_
    refine x_icmp_ge dX9_works_102 (fun c102 => ?_) (fun c102 => ?_)
    · have c102 : 495 ≤ (nI i) := c102
      have c102n := (nI_leI (a := 495) (b := i) (by omega) (by omega)).mp c102
      have hxc102 : i = 495 := by omega
      try rw [hxc102]
      refine x_funi (ws' := [(aN, .inr (9, [.ref aNs, .ref aNk, .int nkp, .ref aNf, .ref aNr, .ref aNp, .ref aNb, .ref aNa, .ref aNt, .int (nI nts), .ref aNbo, .ref aNsz, .ref aNnu, .int (nI nta), .int (nI nop), .int nbd, .int 0, .int (nI npr), .int 0, .int 0, .int 1, .ref aNl, .ref aNal, .ref aNlo, .int 0, .ref aNw, .ref aNtr, .ref aNis, .ref aNbg, .ref aNow])), (aNs, .inl (g.2.1 0, 919, .inl (msF gr wk z lk sz br ru ki ma bb ce hd))), (aNt, .inl (g.2.1 0, 60, .inl (nIf tb))), (aNa, .inl (g.2.1 0, 2475, .inl (nIf fcN))), (aNr, .inl (g.2.1 0, 495, .inl (nIf rowB))), (aNb, .inl (g.2.1 0, 4096, .inl (nIf popN))), (aNl, .inl (g.2.1 0, 495, .inl (nIf nli))), (aNal, .inl (g.2.1 0, 495, .inl (nIf (crH 0 ki ma hd L sd)))), (aNlo, .inl (g.2.1 0, 12, .inl (nIf nlo)))]) (q0 := 7) rfl (fun j hj => congrArg nI (fillT_in _ _ hj)) rfl ?_
      refine x_iconst 0 dX9_works_127 (by decide) ?_
      refine x_istore_n (lv' := [some (.ref aN), some (.int 0), none]) dX9_works_128 (xlt rfl) rfl ?_
      have L129_2 : ∀ (g : Nat), g ≤ gr → ∀ (ag : Nat → Nat), ag = crH g ki ma hd L sd → ∀ (lg : Nat → Nat), lg = fillT g (fun q => laN (ki q) (ma q) L sd) nlo → Xs κ g 27 0 0 cX9_works yX9_works none Q 0 0 129 [some (.ref aN), some (.int (nI g)), none] [] [(aN, .inr (9, [.ref aNs, .ref aNk, .int nkp, .ref aNf, .ref aNr, .ref aNp, .ref aNb, .ref aNa, .ref aNt, .int (nI nts), .ref aNbo, .ref aNsz, .ref aNnu, .int (nI nta), .int (nI nop), .int nbd, .int 0, .int (nI npr), .int 0, .int 0, .int 1, .ref aNl, .ref aNal, .ref aNlo, .int 0, .ref aNw, .ref aNtr, .ref aNis, .ref aNbg, .ref aNow])), (aNs, .inl (g.2.1 0, 919, .inl (msF gr wk z lk sz br ru ki ma bb ce hd))), (aNt, .inl (g.2.1 0, 60, .inl (nIf tb))), (aNa, .inl (g.2.1 0, 2475, .inl (nIf fcN))), (aNr, .inl (g.2.1 0, 495, .inl (nIf rowB))), (aNb, .inl (g.2.1 0, 4096, .inl (nIf popN))), (aNl, .inl (g.2.1 0, 495, .inl (nIf nli))), (aNal, .inl (g.2.1 0, 495, .inl (nIf ag))), (aNlo, .inl (g.2.1 0, 12, .inl (nIf lg)))] := by
        refine upTo gr (fun g hi129 ih129 => ?_)
        intro ag eag
        subst eag
        intro lg elg
        subst elg
        refine x_iload_n dX9_works_129 rfl ?_
        refine x_aload_n dX9_works_130 rfl ?_
        refine x_get dX9_works_131 0 0 inX9 fl_X9_7 rfl rfl (by decide) rfl ?_
        refine x_iconst 0 dX9_works_134 (by decide) ?_
        refine x_iald dX9_works_135 1 0 rfl (rfl) (by decide) (by decide) ?_
        refine x_rei (nI gr) (rfl) ?_
        refine x_icmp_ge dX9_works_136 (fun c136 => ?_) (fun c136 => ?_)
        · have c136 : (nI gr) ≤ (nI g) := c136
          have c136n := (nI_leI (a := gr) (b := g) (by omega) (by omega)).mp c136
          have hxc136 : g = gr := by omega
          try rw [hxc136]
          refine x_iconst 0 dX9_works_212 (by decide) ?_
          refine x_istore_n (lv' := [some (.ref aN), some (.int 0), none]) dX9_works_213 (xlt rfl) rfl ?_
          have L214_3 : ∀ (i : Nat), i ≤ 495 → ∀ (tt : Nat), tt = sumN (crH gr ki ma hd L sd) i → Xs κ g 27 0 0 cX9_works yX9_works none Q 0 0 214 [some (.ref aN), some (.int (nI i)), none] [] [(aN, .inr (9, [.ref aNs, .ref aNk, .int nkp, .ref aNf, .ref aNr, .ref aNp, .ref aNb, .ref aNa, .ref aNt, .int (nI nts), .ref aNbo, .ref aNsz, .ref aNnu, .int (nI nta), .int (nI nop), .int nbd, .int 0, .int (nI npr), .int 0, .int 0, .int 1, .ref aNl, .ref aNal, .ref aNlo, .int (nI tt), .ref aNw, .ref aNtr, .ref aNis, .ref aNbg, .ref aNow])), (aNs, .inl (g.2.1 0, 919, .inl (msF gr wk z lk sz br ru ki ma bb ce hd))), (aNt, .inl (g.2.1 0, 60, .inl (nIf tb))), (aNa, .inl (g.2.1 0, 2475, .inl (nIf fcN))), (aNr, .inl (g.2.1 0, 495, .inl (nIf rowB))), (aNb, .inl (g.2.1 0, 4096, .inl (nIf popN))), (aNl, .inl (g.2.1 0, 495, .inl (nIf nli))), (aNal, .inl (g.2.1 0, 495, .inl (nIf (crH gr ki ma hd L sd)))), (aNlo, .inl (g.2.1 0, 12, .inl (nIf (fillT gr (fun q => laN (ki q) (ma q) L sd) nlo))))] := by
            refine upTo 495 (fun i hi214 ih214 => ?_)
            intro tt ett
            subst ett
            refine x_iload_n dX9_works_214 rfl ?_
            refine x_sipush 495 dX9_works_215 (by decide) ?_
            refine x_icmp_ge dX9_works_218 (fun c218 => ?_) (fun c218 => ?_)
            · have c218 : 495 ≤ (nI i) := c218
              have c218n := (nI_leI (a := 495) (b := i) (by omega) (by omega)).mp c218
              have hxc218 : i = 495 := by omega
              try rw [hxc218]
              rw [← hQ]
              refine x_vret dX9_works_242 rfl (Nat.le_of_ble_eq_true rfl) (Nat.le_of_ble_eq_true rfl) ?_
              exact ⟨_, _, _, _, _, rfl, rfl, fill_la gr _ _⟩
            · have c218 : ¬ (495 ≤ (nI i)) := c218
              have c218n := mt (nI_leI (a := 495) (b := i) (by omega) (by omega)).mpr c218
              refine x_aload_n dX9_works_221 rfl ?_
              refine x_dup dX9_works_222 rfl ?_
              refine x_get dX9_works_223 0 24 inX9 fl_X9_192 rfl rfl (by decide) rfl ?_
              refine x_aload_n dX9_works_226 rfl ?_
              refine x_get dX9_works_227 0 22 inX9 fl_X9_57 rfl rfl (by decide) rfl ?_
              refine x_iload_n dX9_works_230 rfl ?_
              refine x_iald dX9_works_231 7 i rfl (rfl) (by omega) (by decide) ?_
              refine x_iadd dX9_works_232 ?_
              refine x_rei (nI ((sumN (crH gr ki ma hd L sd) i) + ((crH gr ki ma hd L sd) i))) (nI_iadd (sumN (crH gr ki ma hd L sd) i) ((crH gr ki ma hd L sd) i)) ?_
              refine x_put (ws' := [(aN, .inr (9, [.ref aNs, .ref aNk, .int nkp, .ref aNf, .ref aNr, .ref aNp, .ref aNb, .ref aNa, .ref aNt, .int (nI nts), .ref aNbo, .ref aNsz, .ref aNnu, .int (nI nta), .int (nI nop), .int nbd, .int 0, .int (nI npr), .int 0, .int 0, .int 1, .ref aNl, .ref aNal, .ref aNlo, .int (nI ((sumN (crH gr ki ma hd L sd) i) + ((crH gr ki ma hd L sd) i))), .ref aNw, .ref aNtr, .ref aNis, .ref aNbg, .ref aNow])), (aNs, .inl (g.2.1 0, 919, .inl (msF gr wk z lk sz br ru ki ma bb ce hd))), (aNt, .inl (g.2.1 0, 60, .inl (nIf tb))), (aNa, .inl (g.2.1 0, 2475, .inl (nIf fcN))), (aNr, .inl (g.2.1 0, 495, .inl (nIf rowB))), (aNb, .inl (g.2.1 0, 4096, .inl (nIf popN))), (aNl, .inl (g.2.1 0, 495, .inl (nIf nli))), (aNal, .inl (g.2.1 0, 495, .inl (nIf (crH gr ki ma hd L sd)))), (aNlo, .inl (g.2.1 0, 12, .inl (nIf (fillT gr (fun q => laN (ki q) (ma q) L sd) nlo))))]) dX9_works_233 0 24 inX9 tyX9_ok nmX9 fl_X9_192 rfl rfl (by decide) rfl (rfl) rfl (xlt rfl) rfl ?_
              refine x_iinc (lv' := [some (.ref aN), some (.int (nI (i + 1))), none]) (nI (i + 1)) dX9_works_236 rfl (nI_addc i 1 rfl) rfl ?_
              refine x_goto dX9_works_239 ?_
              exact ih214 (by omega) ((sumN (crH gr ki ma hd L sd) i) + ((crH gr ki ma hd L sd) i)) (by rfl)
          exact L214_3 0 (Nat.zero_le _) 0 (by rfl)
        · have c136 : ¬ ((nI gr) ≤ (nI g)) := c136
          have c136n := mt (nI_leI (a := gr) (b := g) (by omega) (by omega)).mpr c136
          refine x_aload_n dX9_works_139 rfl ?_
          refine x_get dX9_works_140 0 23 inX9 fl_X9_60 rfl rfl (by decide) rfl ?_
          refine x_iload_n dX9_works_143 rfl ?_
          refine x_iconst 0 dX9_works_144 (by decide) ?_
          refine x_iast (ws' := [(aN, .inr (9, [.ref aNs, .ref aNk, .int nkp, .ref aNf, .ref aNr, .ref aNp, .ref aNb, .ref aNa, .ref aNt, .int (nI nts), .ref aNbo, .ref aNsz, .ref aNnu, .int (nI nta), .int (nI nop), .int nbd, .int 0, .int (nI npr), .int 0, .int 0, .int 1, .ref aNl, .ref aNal, .ref aNlo, .int 0, .ref aNw, .ref aNtr, .ref aNis, .ref aNbg, .ref aNow])), (aNs, .inl (g.2.1 0, 919, .inl (msF gr wk z lk sz br ru ki ma bb ce hd))), (aNt, .inl (g.2.1 0, 60, .inl (nIf tb))), (aNa, .inl (g.2.1 0, 2475, .inl (nIf fcN))), (aNr, .inl (g.2.1 0, 495, .inl (nIf rowB))), (aNb, .inl (g.2.1 0, 4096, .inl (nIf popN))), (aNl, .inl (g.2.1 0, 495, .inl (nIf nli))), (aNal, .inl (g.2.1 0, 495, .inl (nIf (crH g ki ma hd L sd)))), (aNlo, .inl (g.2.1 0, 12, .inl (nIf (updN (fillT g (fun q => laN (ki q) (ma q) L sd) nlo) g 0))))]) dX9_works_145 8 g rfl (rfl) (by omega) (by decide) (by rw [upd_nIf]; rfl) ?_
          refine x_iconst 0 dX9_works_146 (by decide) ?_
          refine x_istore_n (lv' := [some (.ref aN), some (.int (nI g)), some (.int 0)]) dX9_works_147 (xlt rfl) rfl ?_
          have L148_4 : ∀ (i : Nat), i ≤ 495 → ∀ (lh : Nat → Nat), lh = updN (fillT g (fun q => laN (ki q) (ma q) L sd) nlo) g (sumN (fun p => lkN (ki g) (ma g) p L (sd p)) i) → Xs κ g 27 0 0 cX9_works yX9_works none Q 0 0 148 [some (.ref aN), some (.int (nI g)), some (.int (nI i))] [] [(aN, .inr (9, [.ref aNs, .ref aNk, .int nkp, .ref aNf, .ref aNr, .ref aNp, .ref aNb, .ref aNa, .ref aNt, .int (nI nts), .ref aNbo, .ref aNsz, .ref aNnu, .int (nI nta), .int (nI nop), .int nbd, .int 0, .int (nI npr), .int 0, .int 0, .int 1, .ref aNl, .ref aNal, .ref aNlo, .int 0, .ref aNw, .ref aNtr, .ref aNis, .ref aNbg, .ref aNow])), (aNs, .inl (g.2.1 0, 919, .inl (msF gr wk z lk sz br ru ki ma bb ce hd))), (aNt, .inl (g.2.1 0, 60, .inl (nIf tb))), (aNa, .inl (g.2.1 0, 2475, .inl (nIf fcN))), (aNr, .inl (g.2.1 0, 495, .inl (nIf rowB))), (aNb, .inl (g.2.1 0, 4096, .inl (nIf popN))), (aNl, .inl (g.2.1 0, 495, .inl (nIf nli))), (aNal, .inl (g.2.1 0, 495, .inl (nIf (crH g ki ma hd L sd)))), (aNlo, .inl (g.2.1 0, 12, .inl (nIf lh)))] := by
            refine upTo 495 (fun i hi148 ih148 => ?_)
            intro lh elh
            subst elh
            refine x_iload_n dX9_works_148 rfl ?_
            refine x_sipush 495 dX9_works_149 (by decide) ?_
            refine x_icmp_ge dX9_works_152 (fun c152 => ?_) (fun c152 => ?_)
            · have c152 : 495 ≤ (nI i) := c152
              have c152n := (nI_leI (a := 495) (b := i) (by omega) (by omega)).mp c152
              have hxc152 : i = 495 := by omega
              try rw [hxc152]
              refine x_iconst 0 dX9_works_176 (by decide) ?_
              refine x_istore_n (lv' := [some (.ref aN), some (.int (nI g)), some (.int 0)]) dX9_works_177 (xlt rfl) rfl ?_
              have L178_5 : ∀ (i : Nat), i ≤ 495 → ∀ (ah : Nat → Nat), ah = fillT i (crH (g + 1) ki ma hd L sd) (crH g ki ma hd L sd) → Xs κ g 27 0 0 cX9_works yX9_works none Q 0 0 178 [some (.ref aN), some (.int (nI g)), some (.int (nI i))] [] [(aN, .inr (9, [.ref aNs, .ref aNk, .int nkp, .ref aNf, .ref aNr, .ref aNp, .ref aNb, .ref aNa, .ref aNt, .int (nI nts), .ref aNbo, .ref aNsz, .ref aNnu, .int (nI nta), .int (nI nop), .int nbd, .int 0, .int (nI npr), .int 0, .int 0, .int 1, .ref aNl, .ref aNal, .ref aNlo, .int 0, .ref aNw, .ref aNtr, .ref aNis, .ref aNbg, .ref aNow])), (aNs, .inl (g.2.1 0, 919, .inl (msF gr wk z lk sz br ru ki ma bb ce hd))), (aNt, .inl (g.2.1 0, 60, .inl (nIf tb))), (aNa, .inl (g.2.1 0, 2475, .inl (nIf fcN))), (aNr, .inl (g.2.1 0, 495, .inl (nIf rowB))), (aNb, .inl (g.2.1 0, 4096, .inl (nIf popN))), (aNl, .inl (g.2.1 0, 495, .inl (nIf nli))), (aNal, .inl (g.2.1 0, 495, .inl (nIf ah))), (aNlo, .inl (g.2.1 0, 12, .inl (nIf (updN (fillT g (fun q => laN (ki q) (ma q) L sd) nlo) g (sumN (fun p => lkN (ki g) (ma g) p L (sd p)) 495)))))] := by
                refine upTo 495 (fun i hi178 ih178 => ?_)
                intro ah eah
                subst eah
                refine x_iload_n dX9_works_178 rfl ?_
                refine x_sipush 495 dX9_works_179 (by decide) ?_
                refine x_icmp_ge dX9_works_182 (fun c182 => ?_) (fun c182 => ?_)
                · have c182 : 495 ≤ (nI i) := c182
                  have c182n := (nI_leI (a := 495) (b := i) (by omega) (by omega)).mp c182
                  have hxc182 : i = 495 := by omega
                  try rw [hxc182]
                  refine x_funi (ws' := [(aN, .inr (9, [.ref aNs, .ref aNk, .int nkp, .ref aNf, .ref aNr, .ref aNp, .ref aNb, .ref aNa, .ref aNt, .int (nI nts), .ref aNbo, .ref aNsz, .ref aNnu, .int (nI nta), .int (nI nop), .int nbd, .int 0, .int (nI npr), .int 0, .int 0, .int 1, .ref aNl, .ref aNal, .ref aNlo, .int 0, .ref aNw, .ref aNtr, .ref aNis, .ref aNbg, .ref aNow])), (aNs, .inl (g.2.1 0, 919, .inl (msF gr wk z lk sz br ru ki ma bb ce hd))), (aNt, .inl (g.2.1 0, 60, .inl (nIf tb))), (aNa, .inl (g.2.1 0, 2475, .inl (nIf fcN))), (aNr, .inl (g.2.1 0, 495, .inl (nIf rowB))), (aNb, .inl (g.2.1 0, 4096, .inl (nIf popN))), (aNl, .inl (g.2.1 0, 495, .inl (nIf nli))), (aNal, .inl (g.2.1 0, 495, .inl (nIf (crH (g + 1) ki ma hd L sd)))), (aNlo, .inl (g.2.1 0, 12, .inl (nIf (updN (fillT g (fun q => laN (ki q) (ma q) L sd) nlo) g (sumN (fun p => lkN (ki g) (ma g) p L (sd p)) 495)))))]) (q0 := 7) rfl (fun j hj => congrArg nI (fillT_in _ _ hj)) rfl ?_
                  refine x_iinc (lv' := [some (.ref aN), some (.int (nI (g + 1))), some (.int 495)]) (nI (g + 1)) dX9_works_206 rfl (nI_addc g 1 rfl) rfl ?_
                  refine x_goto dX9_works_209 ?_
                  refine x_fgt (lv' := [some (.ref aN), some (.int (nI (g + 1))), none]) ⟨Or.inr rfl, Or.inr rfl, Or.inl rfl, trivial⟩ ?_
                  exact ih129 (by omega) (crH (g + 1) ki ma hd L sd) (by rfl) (updN (fillT g (fun q => laN (ki q) (ma q) L sd) nlo) g (sumN (fun p => lkN (ki g) (ma g) p L (sd p)) 495)) (by exact lo_step nlo (fun q => laN (ki q) (ma q) L sd) g)
                · have c182 : ¬ (495 ≤ (nI i)) := c182
                  have c182n := mt (nI_leI (a := 495) (b := i) (by omega) (by omega)).mpr c182
                  refine x_aload_n dX9_works_185 rfl ?_
                  refine x_get dX9_works_186 0 22 inX9 fl_X9_57 rfl rfl (by decide) rfl ?_
                  refine x_iload_n dX9_works_189 rfl ?_
                  refine x_dup2 dX9_works_190 rfl rfl ?_
                  refine x_iald dX9_works_191 7 i rfl (rfl) (by omega) (by decide) ?_
                  refine x_aload_n dX9_works_192 rfl ?_
                  refine x_iload_n dX9_works_193 rfl ?_
                  refine x_iload_n dX9_works_194 rfl ?_
                  refine x_cVi0 dX9_works_195 ml_X9_195 mX9_crossedBy (ct_X9_crossedBy κ.2.1 g aN aNs aNk aNf aNr aNp aNb aNa aNt aNbo aNsz aNnu aNl aNal aNlo aNw aNtr aNis aNbg aNow nts nta nop npr 0 nkp nbd 0 0 0 1 gr wk lk sz br z ru ki ma bb hd ce L i g nli (updN (fillT g (fun q => laN (ki q) (ma q) L sd) nlo) g (sumN (fun p => lkN (ki g) (ma g) p L (sd p)) 495)) (by omega) (hki) (hma) (by omega) (hwk) (hlat) (hL) (hsd) (updN_self _ _ _)) [0, 1, 4, 5, 6, 8] rfl rfl 0 rfl rfl rfl (Nat.le_of_ble_eq_true rfl) (by decide) (Nat.le_refl _) (Nat.le_refl _) ?_
                  refine x_iadd dX9_works_198 ?_
                  refine x_rei (nI (((fillT i (crH (g + 1) ki ma hd L sd) (crH g ki ma hd L sd)) i) + (shN (ki g) (ma g) i L nli))) (nI_iadd ((fillT i (crH (g + 1) ki ma hd L sd) (crH g ki ma hd L sd)) i) (shN (ki g) (ma g) i L nli)) ?_
                  refine x_iast (ws' := [(aN, .inr (9, [.ref aNs, .ref aNk, .int nkp, .ref aNf, .ref aNr, .ref aNp, .ref aNb, .ref aNa, .ref aNt, .int (nI nts), .ref aNbo, .ref aNsz, .ref aNnu, .int (nI nta), .int (nI nop), .int nbd, .int 0, .int (nI npr), .int 0, .int 0, .int 1, .ref aNl, .ref aNal, .ref aNlo, .int 0, .ref aNw, .ref aNtr, .ref aNis, .ref aNbg, .ref aNow])), (aNs, .inl (g.2.1 0, 919, .inl (msF gr wk z lk sz br ru ki ma bb ce hd))), (aNt, .inl (g.2.1 0, 60, .inl (nIf tb))), (aNa, .inl (g.2.1 0, 2475, .inl (nIf fcN))), (aNr, .inl (g.2.1 0, 495, .inl (nIf rowB))), (aNb, .inl (g.2.1 0, 4096, .inl (nIf popN))), (aNl, .inl (g.2.1 0, 495, .inl (nIf nli))), (aNal, .inl (g.2.1 0, 495, .inl (nIf (updN (fillT i (crH (g + 1) ki ma hd L sd) (crH g ki ma hd L sd)) i (((fillT i (crH (g + 1) ki ma hd L sd) (crH g ki ma hd L sd)) i) + (shN (ki g) (ma g) i L nli)))))), (aNlo, .inl (g.2.1 0, 12, .inl (nIf (updN (fillT g (fun q => laN (ki q) (ma q) L sd) nlo) g (sumN (fun p => lkN (ki g) (ma g) p L (sd p)) 495)))))]) dX9_works_199 7 i rfl (rfl) (by omega) (by decide) (by rw [upd_nIf]; rfl) ?_
                  refine x_iinc (lv' := [some (.ref aN), some (.int (nI g)), some (.int (nI (i + 1)))]) (nI (i + 1)) dX9_works_200 rfl (nI_addc i 1 rfl) rfl ?_
                  refine x_goto dX9_works_203 ?_
                  exact ih178 (by omega) (updN (fillT i (crH (g + 1) ki ma hd L sd) (crH g ki ma hd L sd)) i (((fillT i (crH (g + 1) ki ma hd L sd) (crH g ki ma hd L sd)) i) + (shN (ki g) (ma g) i L nli))) (by exact crH_step gr ki ma hd L sd g i)
              exact L178_5 0 (Nat.zero_le _) (crH g ki ma hd L sd) (by exact (fillT_0 _ _).symm)
            · have c152 : ¬ (495 ≤ (nI i)) := c152
              have c152n := mt (nI_leI (a := 495) (b := i) (by omega) (by omega)).mpr c152
              refine x_aload_n dX9_works_155 rfl ?_
              refine x_get dX9_works_156 0 23 inX9 fl_X9_60 rfl rfl (by decide) rfl ?_
              refine x_iload_n dX9_works_159 rfl ?_
              refine x_dup2 dX9_works_160 rfl rfl ?_
              refine x_iald dX9_works_161 8 g rfl (rfl) (by omega) (by decide) ?_
              refine x_rei (nI (sumN (fun p => lkN (ki g) (ma g) p L (sd p)) i)) (congrArg nI (updN_self _ _ _)) ?_
              refine x_aload_n dX9_works_162 rfl ?_
              refine x_iload_n dX9_works_163 rfl ?_
              refine x_iload_n dX9_works_164 rfl ?_
              refine x_cVi0 dX9_works_165 ml_X9_188 mX9_likesBy (ct_X9_likesBy κ.2.1 g aN aNs aNk aNf aNr aNp aNb aNa aNt aNbo aNsz aNnu aNl aNal aNlo aNw aNtr aNis aNbg aNow nts nta nop npr 0 nkp nbd 0 0 0 1 gr wk lk sz br z ru ki ma bb hd ce L i g nli (by omega) (hki) (hma) (by omega) (hwk) (hlat) (hL)) [0, 1, 4, 5, 6] rfl rfl 0 rfl rfl rfl (Nat.le_of_ble_eq_true rfl) (by decide) (Nat.le_refl _) (Nat.le_refl _) ?_
              refine x_iadd dX9_works_168 ?_
              refine x_rei (nI ((sumN (fun p => lkN (ki g) (ma g) p L (sd p)) i) + (lkN (ki g) (ma g) i L (nli i)))) (nI_iadd (sumN (fun p => lkN (ki g) (ma g) p L (sd p)) i) (lkN (ki g) (ma g) i L (nli i))) ?_
              refine x_iast (ws' := [(aN, .inr (9, [.ref aNs, .ref aNk, .int nkp, .ref aNf, .ref aNr, .ref aNp, .ref aNb, .ref aNa, .ref aNt, .int (nI nts), .ref aNbo, .ref aNsz, .ref aNnu, .int (nI nta), .int (nI nop), .int nbd, .int 0, .int (nI npr), .int 0, .int 0, .int 1, .ref aNl, .ref aNal, .ref aNlo, .int 0, .ref aNw, .ref aNtr, .ref aNis, .ref aNbg, .ref aNow])), (aNs, .inl (g.2.1 0, 919, .inl (msF gr wk z lk sz br ru ki ma bb ce hd))), (aNt, .inl (g.2.1 0, 60, .inl (nIf tb))), (aNa, .inl (g.2.1 0, 2475, .inl (nIf fcN))), (aNr, .inl (g.2.1 0, 495, .inl (nIf rowB))), (aNb, .inl (g.2.1 0, 4096, .inl (nIf popN))), (aNl, .inl (g.2.1 0, 495, .inl (nIf nli))), (aNal, .inl (g.2.1 0, 495, .inl (nIf (crH g ki ma hd L sd)))), (aNlo, .inl (g.2.1 0, 12, .inl (nIf (updN (updN (fillT g (fun q => laN (ki q) (ma q) L sd) nlo) g (sumN (fun p => lkN (ki g) (ma g) p L (sd p)) i)) g ((sumN (fun p => lkN (ki g) (ma g) p L (sd p)) i) + (lkN (ki g) (ma g) i L (nli i)))))))]) dX9_works_169 8 g rfl (rfl) (by omega) (by decide) (by rw [upd_nIf]; rfl) ?_
              refine x_iinc (lv' := [some (.ref aN), some (.int (nI g)), some (.int (nI (i + 1)))]) (nI (i + 1)) dX9_works_170 rfl (nI_addc i 1 rfl) rfl ?_
              refine x_goto dX9_works_173 ?_
              exact ih148 (by omega) (updN (updN (fillT g (fun q => laN (ki q) (ma q) L sd) nlo) g (sumN (fun p => lkN (ki g) (ma g) p L (sd p)) i)) g ((sumN (fun p => lkN (ki g) (ma g) p L (sd p)) i) + (lkN (ki g) (ma g) i L (nli i)))) (by exact updN_acc _ g (fun p => lkN (ki g) (ma g) p L (sd p)) i)
          exact L148_4 0 (Nat.zero_le _) (updN (fillT g (fun q => laN (ki q) (ma q) L sd) nlo) g 0) (by rfl)
      exact L129_2 0 (Nat.zero_le _) (crH 0 ki ma hd L sd) (by rfl) nlo (by exact (fillT_0 _ _).symm)
    · have c102 : ¬ (495 ≤ (nI i)) := c102
      have c102n := mt (nI_leI (a := 495) (b := i) (by omega) (by omega)).mpr c102
      refine x_aload_n dX9_works_105 rfl ?_
      refine x_get dX9_works_106 0 22 inX9 fl_X9_57 rfl rfl (by decide) rfl ?_
      refine x_iload_n dX9_works_109 rfl ?_
      refine x_aload_n dX9_works_110 rfl ?_
      refine x_get dX9_works_111 0 0 inX9 fl_X9_7 rfl rfl (by decide) rfl ?_
      refine x_sipush 424 dX9_works_114 (by decide) ?_
      refine x_iload_n dX9_works_117 rfl ?_
      refine x_iadd dX9_works_118 ?_
      refine x_rei (nI (424 + i)) (nI_iadd 424 i) ?_
      refine x_iald dX9_works_119 1 (424 + i) rfl (rfl) (by omega) (by decide) ?_
      refine x_rei (nI (hd i)) (msg_hd (x := i) (by omega)) ?_
      refine x_iast (ws' := [(aN, .inr (9, [.ref aNs, .ref aNk, .int nkp, .ref aNf, .ref aNr, .ref aNp, .ref aNb, .ref aNa, .ref aNt, .int (nI nts), .ref aNbo, .ref aNsz, .ref aNnu, .int (nI nta), .int (nI nop), .int nbd, .int 0, .int (nI npr), .int 0, .int 0, .int 1, .ref aNl, .ref aNal, .ref aNlo, .int 0, .ref aNw, .ref aNtr, .ref aNis, .ref aNbg, .ref aNow])), (aNs, .inl (g.2.1 0, 919, .inl (msF gr wk z lk sz br ru ki ma bb ce hd))), (aNt, .inl (g.2.1 0, 60, .inl (nIf tb))), (aNa, .inl (g.2.1 0, 2475, .inl (nIf fcN))), (aNr, .inl (g.2.1 0, 495, .inl (nIf rowB))), (aNb, .inl (g.2.1 0, 4096, .inl (nIf popN))), (aNl, .inl (g.2.1 0, 495, .inl (nIf nli))), (aNal, .inl (g.2.1 0, 495, .inl (nIf (updN (fillT i (crH 0 ki ma hd L sd) nal) i (hd i))))), (aNlo, .inl (g.2.1 0, 12, .inl (nIf nlo)))]) dX9_works_120 7 i rfl (rfl) (by omega) (by decide) (by rw [upd_nIf]; rfl) ?_
      refine x_iinc (lv' := [some (.ref aN), some (.int (nI (i + 1))), none]) (nI (i + 1)) dX9_works_121 rfl (nI_addc i 1 rfl) rfl ?_
      refine x_goto dX9_works_124 ?_
      exact ih98 (by omega) (updN (fillT i (crH 0 ki ma hd L sd) nal) i (hd i)) (by exact fillT_updN i (crH 0 ki ma hd L sd) nal)
  exact L98_1 0 (Nat.zero_le _) nal (by exact (fillT_0 _ _).symm)

-- == wk_old ==
set_option maxRecDepth 100000 in
set_option maxHeartbeats 4000000 in
theorem ct_wk_old (l : Launch) (g : XG) (aN aNs aNk aNf aNr aNp aNb aNa aNt aNbo aNsz aNnu aNl aNal aNlo aNw aNtr aNis aNbg aNow nts nta nop npr nac : Nat) (nkp nbd nsn nwn : Int32) (gr wk lk sz br : Nat) (z : Int32) (ru ki ma bb hd : Nat → Nat) (ce : Nat → Int32) (tb nli nal nlo : Nat → Nat) : Ct l g 27 0 0 yX9_works cX9_works 3 none [.ref aN] [(aN, .inr (9, [.ref aNs, .ref aNk, .int nkp, .ref aNf, .ref aNr, .ref aNp, .ref aNb, .ref aNa, .ref aNt, .int (nI nts), .ref aNbo, .ref aNsz, .ref aNnu, .int (nI nta), .int (nI nop), .int nbd, .int 0, .int (nI npr), .int 0, .int nsn, .int nwn, .ref aNl, .ref aNal, .ref aNlo, .int (nI nac), .ref aNw, .ref aNtr, .ref aNis, .ref aNbg, .ref aNow])), (aNs, .inl (g.2.1 0, 919, .inl (msF gr wk z lk sz br ru ki ma bb ce hd))), (aNt, .inl (g.2.1 0, 60, .inl (nIf tb))), (aNa, .inl (g.2.1 0, 2475, .inl (nIf fcN))), (aNr, .inl (g.2.1 0, 495, .inl (nIf rowB))), (aNb, .inl (g.2.1 0, 4096, .inl (nIf popN))), (aNl, .inl (g.2.1 0, 495, .inl (nIf nli))), (aNal, .inl (g.2.1 0, 495, .inl (nIf nal))), (aNlo, .inl (g.2.1 0, 12, .inl (nIf nlo)))] (xpv [(aN, .inr (9, [.ref aNs, .ref aNk, .int nkp, .ref aNf, .ref aNr, .ref aNp, .ref aNb, .ref aNa, .ref aNt, .int (nI nts), .ref aNbo, .ref aNsz, .ref aNnu, .int (nI nta), .int (nI nop), .int nbd, .int 0, .int (nI npr), .int 0, .int nsn, .int nwn, .ref aNl, .ref aNal, .ref aNlo, .int (nI nac), .ref aNw, .ref aNtr, .ref aNis, .ref aNbg, .ref aNow])), (aNs, .inl (g.2.1 0, 919, .inl (msF gr wk z lk sz br ru ki ma bb ce hd))), (aNt, .inl (g.2.1 0, 60, .inl (nIf tb))), (aNa, .inl (g.2.1 0, 2475, .inl (nIf fcN))), (aNr, .inl (g.2.1 0, 495, .inl (nIf rowB))), (aNb, .inl (g.2.1 0, 4096, .inl (nIf popN))), (aNl, .inl (g.2.1 0, 495, .inl (nIf nli))), (aNal, .inl (g.2.1 0, 495, .inl (nIf nal))), (aNlo, .inl (g.2.1 0, 12, .inl (nIf nlo)))]) := by
  refine Ct.ofX (lv := [some (.ref aN), none, none]) (by decide) rfl (Nat.le_of_ble_eq_true rfl) (fun κ => ?_)
  generalize hQ : xQ κ g 0 0 _ = Q
  refine x_aload_n dX9_works_0 rfl ?_
  refine x_get dX9_works_1 0 18 inX9 fl_X9_44 rfl rfl (by decide) rfl ?_
  refine x_if_ne dX9_works_4 (fun c4 => ?_) (fun c4 => ?_)
  · exact absurd c4 (by decide)
  rw [← hQ]
  refine x_vret dX9_works_7 rfl (Nat.le_of_ble_eq_true rfl) (Nat.le_of_ble_eq_true rfl) ?_
  exact ⟨rfl, rfl⟩

-- == X9_works ==
theorem ct_X9_works (l : Launch) (g : XG) (aN aNs aNk aNf aNr aNp aNb aNa aNt aNbo aNsz aNnu aNl aNal aNlo aNw aNtr aNis aNbg aNow nts nta nop npr nac : Nat) (nkp nbd nnw nsn nwn : Int32) (gr wk lk sz br : Nat) (z : Int32) (ru ki ma bb hd : Nat → Nat) (ce : Nat → Int32) (tb nli nal nlo sd : Nat → Nat) (L : Nat) (hgr : gr ≤ 12) (hki : ∀ j, ki j ≤ 7) (hma : ∀ j, ma j ≤ 99999) (hwk : wk ≤ 40) (hlat : latI ce wk = nI L) (hL : L < 4096) (hsz : sz ≤ 60) (hbb : ∀ j, bb j < 256) (hsd : ∀ p, sd p ≤ 99) (hsv : ∀ p, p < 495 → sd p = if lk = 1 then clN (txV bb sz wk L p) else 1) (hlk : lk ≤ 1) (hwo : (nnw = 1 ∧ (nsn = 1 ∨ (nsn = 0 ∧ nli = sd))) ∨ (nnw = 0 ∧ nsn = 0 ∧ nli = sd ∧ nal = crH gr ki ma hd L sd ∧ nac = toH gr ki ma hd L sd ∧ ∀ q, q < gr → nlo q = laN (ki q) (ma q) L sd)) : Ct l g 27 0 0 yX9_works cX9_works 3 none [.ref aN] [(aN, .inr (9, [.ref aNs, .ref aNk, .int nkp, .ref aNf, .ref aNr, .ref aNp, .ref aNb, .ref aNa, .ref aNt, .int (nI nts), .ref aNbo, .ref aNsz, .ref aNnu, .int (nI nta), .int (nI nop), .int nbd, .int 0, .int (nI npr), .int nnw, .int nsn, .int nwn, .ref aNl, .ref aNal, .ref aNlo, .int (nI nac), .ref aNw, .ref aNtr, .ref aNis, .ref aNbg, .ref aNow])), (aNs, .inl (g.2.1 0, 919, .inl (msF gr wk z lk sz br ru ki ma bb ce hd))), (aNt, .inl (g.2.1 0, 60, .inl (nIf tb))), (aNa, .inl (g.2.1 0, 2475, .inl (nIf fcN))), (aNr, .inl (g.2.1 0, 495, .inl (nIf rowB))), (aNb, .inl (g.2.1 0, 4096, .inl (nIf popN))), (aNl, .inl (g.2.1 0, 495, .inl (nIf nli))), (aNal, .inl (g.2.1 0, 495, .inl (nIf nal))), (aNlo, .inl (g.2.1 0, 12, .inl (nIf nlo)))] (fun vv_ ww_ => ∃ (zat : Nat) (zop : Nat) (zbd : Int32) (zpr : Nat) (lo2 : Nat → Nat), vv_ = none ∧ ww_ = [(aN, .inr (9, [.ref aNs, .ref aNk, .int nkp, .ref aNf, .ref aNr, .ref aNp, .ref aNb, .ref aNa, .ref aNt, .int (nI nts), .ref aNbo, .ref aNsz, .ref aNnu, .int (nI zat), .int (nI zop), .int zbd, .int 0, .int (nI zpr), .int 0, .int 0, .int (wnI nnw nwn), .ref aNl, .ref aNal, .ref aNlo, .int (nI (toH gr ki ma hd L sd)), .ref aNw, .ref aNtr, .ref aNis, .ref aNbg, .ref aNow])), (aNs, .inl (g.2.1 0, 919, .inl (msF gr wk z lk sz br ru ki ma bb ce hd))), (aNt, .inl (g.2.1 0, 60, .inl (nIf tb))), (aNa, .inl (g.2.1 0, 2475, .inl (nIf fcN))), (aNr, .inl (g.2.1 0, 495, .inl (nIf rowB))), (aNb, .inl (g.2.1 0, 4096, .inl (nIf popN))), (aNl, .inl (g.2.1 0, 495, .inl (nIf sd))), (aNal, .inl (g.2.1 0, 495, .inl (nIf (crH gr ki ma hd L sd)))), (aNlo, .inl (g.2.1 0, 12, .inl (nIf lo2)))] ∧ (∀ q, q < gr → lo2 q = laN (ki q) (ma q) L sd)) := by
  rcases hwo with ⟨rfl, rfl | ⟨rfl, hli⟩⟩ | ⟨rfl, rfl, rfl, rfl, rfl, hlo⟩
  · exact ct_wk_1 l g _ _ _ _ _ _ _ _ _ _ _ _ _ _ _ _ _ _ _ _ _ _ _ _ _ _ _ _ _ _ _ _ _ _ _ _ _ _ _ _ _ _ _ _ _ _ hgr hki hma hwk hlat hL hsz hbb hsd hsv hlk
  · exact ct_wk_0 l g _ _ _ _ _ _ _ _ _ _ _ _ _ _ _ _ _ _ _ _ _ _ _ _ _ _ _ _ _ _ _ _ _ _ _ _ _ _ _ _ _ _ _ _ _ _ hgr hki hma hwk hlat hL hsz hbb hsd hsv hlk hli
  · exact (ct_wk_old l g _ _ _ _ _ _ _ _ _ _ _ _ _ _ _ _ _ _ _ _ _ _ _ _ _ _ _ _ _ _ _ _ _ _ _ _ _ _ _ _ _ _ _ _ _ ).mono (fun v w h => ⟨_, _, _, _, nlo, h.1, h.2, hlo⟩)

