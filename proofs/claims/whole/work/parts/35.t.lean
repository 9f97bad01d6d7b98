
-- == X9_isOneLine ==
theorem dX9_isOneLine_0 : xd cX9_isOneLine 0 (.iload_n 0) 1 1 := ⟨by decide +kernel, rfl⟩
theorem dX9_isOneLine_1 : xd cX9_isOneLine 1 (.bipush (-16)) 2 3 := ⟨by decide +kernel, rfl⟩
theorem dX9_isOneLine_3 : xd cX9_isOneLine 3 .iand 1 4 := ⟨by decide +kernel, rfl⟩
theorem dX9_isOneLine_4 : xj cX9_isOneLine 4 (.ifCond .eq) 7 23 := ⟨19, by decide +kernel, rfl, by decide⟩
theorem dX9_isOneLine_7 : xd cX9_isOneLine 7 (.iload_n 0) 1 8 := ⟨by decide +kernel, rfl⟩
theorem dX9_isOneLine_8 : xd cX9_isOneLine 8 (.sipush (-241)) 3 11 := ⟨by decide +kernel, rfl⟩
theorem dX9_isOneLine_11 : xd cX9_isOneLine 11 .iand 1 12 := ⟨by decide +kernel, rfl⟩
theorem dX9_isOneLine_12 : xj cX9_isOneLine 12 (.ifCond .eq) 15 23 := ⟨11, by decide +kernel, rfl, by decide⟩
theorem dX9_isOneLine_15 : xd cX9_isOneLine 15 (.iload_n 0) 1 16 := ⟨by decide +kernel, rfl⟩
theorem dX9_isOneLine_16 : xd cX9_isOneLine 16 (.sipush (-3841)) 3 19 := ⟨by decide +kernel, rfl⟩
theorem dX9_isOneLine_19 : xd cX9_isOneLine 19 .iand 1 20 := ⟨by decide +kernel, rfl⟩
theorem dX9_isOneLine_20 : xj cX9_isOneLine 20 (.ifCond .ne) 23 27 := ⟨7, by decide +kernel, rfl, by decide⟩
theorem dX9_isOneLine_23 : xd cX9_isOneLine 23 (.iconst 1) 1 24 := ⟨by decide +kernel, rfl⟩
theorem dX9_isOneLine_24 : xj cX9_isOneLine 24 .goto 27 28 := ⟨4, by decide +kernel, rfl, by decide⟩
theorem dX9_isOneLine_27 : xd cX9_isOneLine 27 (.iconst 0) 1 28 := ⟨by decide +kernel, rfl⟩
theorem dX9_isOneLine_28 : xd cX9_isOneLine 28 .ireturn 1 29 := ⟨by decide +kernel, rfl⟩

set_option maxRecDepth 100000 in
set_option maxHeartbeats 4000000 in
theorem ct_X9_isOneLine (l : Launch) (g : XG) (r : Nat) (hr : r < 4096) : Ct l g 1 0 0 yX9_isOneLine cX9_isOneLine 1 (some .boolean) [.int (nI r)] [] (xpi (nI (lineF r)) []) := by
  refine Ct.ofX (lv := [some (.int (nI r))]) (by decide) rfl (Nat.le_of_ble_eq_true rfl) (fun κ => ?_)
  generalize hQ : xQ κ g 0 0 _ = Q
  refine x_iload_n dX9_isOneLine_0 rfl ?_
  refine x_bipush (-16) dX9_isOneLine_1 (by decide) ?_
  refine x_iand dX9_isOneLine_3 ?_
  have J4_8 : ∀ (v7 : Int32), v7 = (if ((nI r) &&& (-16)) = 0 then 1 else ((if ((nI r) &&& (-241)) = 0 then 1 else ((if ((nI r) &&& (-3841)) = 0 then 1 else 0))))) → Xs κ g 1 0 0 cX9_isOneLine yX9_isOneLine (some .boolean) Q 0 0 28 [some (.int (nI r))] [.int v7] [] := by
    intro v7 ev7
    rw [← hQ]
    refine x_zret dX9_isOneLine_28 rfl (by simp only [ev7, line2_eq hr]; exact nar01 (lineF_lt r)) (Nat.le_of_ble_eq_true rfl) (Nat.le_of_ble_eq_true rfl) ?_
    exact ⟨by simp only [ev7, line2_eq hr], rfl⟩
  refine x_if_eq dX9_isOneLine_4 (fun c4 => ?_) (fun c4 => ?_)
  · have c4 : ((nI r) &&& (-16)) = 0 := c4
    refine x_iconst 1 dX9_isOneLine_23 (by decide) ?_
    refine x_goto dX9_isOneLine_24 ?_
    exact J4_8 _ (if_pos c4).symm
  · have c4 : ¬ (((nI r) &&& (-16)) = 0) := c4
    refine x_iload_n dX9_isOneLine_7 rfl ?_
    refine x_sipush (-241) dX9_isOneLine_8 (by decide) ?_
    refine x_iand dX9_isOneLine_11 ?_
    have J12_12 : ∀ (v11 : Int32), v11 = (if ((nI r) &&& (-241)) = 0 then 1 else ((if ((nI r) &&& (-3841)) = 0 then 1 else 0))) → Xs κ g 1 0 0 cX9_isOneLine yX9_isOneLine (some .boolean) Q 0 0 28 [some (.int (nI r))] [.int v11] [] := by
      intro v11 ev11
      exact J4_8 _ (by rw [if_neg c4]; try simp only [ev11])
    refine x_if_eq dX9_isOneLine_12 (fun c12 => ?_) (fun c12 => ?_)
    · have c12 : ((nI r) &&& (-241)) = 0 := c12
      refine x_iconst 1 dX9_isOneLine_23 (by decide) ?_
      refine x_goto dX9_isOneLine_24 ?_
      exact J12_12 _ (if_pos c12).symm
    · have c12 : ¬ (((nI r) &&& (-241)) = 0) := c12
      refine x_iload_n dX9_isOneLine_15 rfl ?_
      refine x_sipush (-3841) dX9_isOneLine_16 (by decide) ?_
      refine x_iand dX9_isOneLine_19 ?_
      have J20_14 : ∀ (v13 : Int32), v13 = (if ((nI r) &&& (-3841)) = 0 then 1 else 0) → Xs κ g 1 0 0 cX9_isOneLine yX9_isOneLine (some .boolean) Q 0 0 28 [some (.int (nI r))] [.int v13] [] := by
        intro v13 ev13
        exact J12_12 _ (by rw [if_neg c12]; try simp only [ev13])
      refine x_if_ne dX9_isOneLine_20 (fun c20 => ?_) (fun c20 => ?_)
      · have c20 : ¬ (((nI r) &&& (-3841)) = 0) := c20
        refine x_iconst 0 dX9_isOneLine_27 (by decide) ?_
        exact J20_14 _ (if_neg c20).symm
      · have c20 : ((nI r) &&& (-3841)) = 0 := c20
        refine x_iconst 1 dX9_isOneLine_23 (by decide) ?_
        refine x_goto dX9_isOneLine_24 ?_
        exact J20_14 _ (if_pos c20).symm

-- == X9_isThreeUp ==
theorem dX9_isThreeUp_0 : xd cX9_isThreeUp 0 (.iconst 0) 1 1 := ⟨by decide +kernel, rfl⟩
theorem dX9_isThreeUp_1 : xd cX9_isThreeUp 1 (.istore_n 2) 1 2 := ⟨by decide +kernel, rfl⟩
theorem dX9_isThreeUp_2 : xd cX9_isThreeUp 2 (.iconst 0) 1 3 := ⟨by decide +kernel, rfl⟩
theorem dX9_isThreeUp_3 : xd cX9_isThreeUp 3 (.istore_n 3) 1 4 := ⟨by decide +kernel, rfl⟩
theorem dX9_isThreeUp_4 : xd cX9_isThreeUp 4 (.iload_n 3) 1 5 := ⟨by decide +kernel, rfl⟩
theorem dX9_isThreeUp_5 : xd cX9_isThreeUp 5 (.iconst 4) 1 6 := ⟨by decide +kernel, rfl⟩
theorem dX9_isThreeUp_6 : xj cX9_isThreeUp 6 (.if_icmp .ge) 9 40 := ⟨34, by decide +kernel, rfl, by decide⟩
theorem dX9_isThreeUp_9 : xd cX9_isThreeUp 9 (.iload_n 2) 1 10 := ⟨by decide +kernel, rfl⟩
theorem dX9_isThreeUp_10 : xj cX9_isThreeUp 10 (.ifCond .ne) 13 28 := ⟨18, by decide +kernel, rfl, by decide⟩
theorem dX9_isThreeUp_13 : xd cX9_isThreeUp 13 (.aload_n 0) 1 14 := ⟨by decide +kernel, rfl⟩
theorem dX9_isThreeUp_14 : xd cX9_isThreeUp 14 (.iload_n 1) 1 15 := ⟨by decide +kernel, rfl⟩
theorem dX9_isThreeUp_15 : xd cX9_isThreeUp 15 (.sipush 273) 3 18 := ⟨by decide +kernel, rfl⟩
theorem dX9_isThreeUp_18 : xd cX9_isThreeUp 18 (.iload_n 3) 1 19 := ⟨by decide +kernel, rfl⟩
theorem dX9_isThreeUp_19 : xd cX9_isThreeUp 19 .ishl 1 20 := ⟨by decide +kernel, rfl⟩
theorem dX9_isThreeUp_20 : xd cX9_isThreeUp 20 .iand 1 21 := ⟨by decide +kernel, rfl⟩
theorem dX9_isThreeUp_21 : xd cX9_isThreeUp 21 (.invokevirtual 132) 3 24 := ⟨by decide +kernel, rfl⟩
theorem dX9_isThreeUp_24 : xd cX9_isThreeUp 24 (.iconst 3) 1 25 := ⟨by decide +kernel, rfl⟩
theorem dX9_isThreeUp_25 : xj cX9_isThreeUp 25 (.if_icmp .ne) 28 32 := ⟨7, by decide +kernel, rfl, by decide⟩
theorem dX9_isThreeUp_28 : xd cX9_isThreeUp 28 (.iconst 1) 1 29 := ⟨by decide +kernel, rfl⟩
theorem dX9_isThreeUp_29 : xj cX9_isThreeUp 29 .goto 32 33 := ⟨4, by decide +kernel, rfl, by decide⟩
theorem dX9_isThreeUp_32 : xd cX9_isThreeUp 32 (.iconst 0) 1 33 := ⟨by decide +kernel, rfl⟩
theorem dX9_isThreeUp_33 : xd cX9_isThreeUp 33 (.istore_n 2) 1 34 := ⟨by decide +kernel, rfl⟩
theorem dX9_isThreeUp_34 : xd cX9_isThreeUp 34 (.iinc 3 1) 3 37 := ⟨by decide +kernel, rfl⟩
theorem dX9_isThreeUp_37 : xj cX9_isThreeUp 37 .goto 40 4 := ⟨(-33), by decide +kernel, rfl, by decide⟩
theorem dX9_isThreeUp_40 : xd cX9_isThreeUp 40 (.iload_n 2) 1 41 := ⟨by decide +kernel, rfl⟩
theorem dX9_isThreeUp_41 : xd cX9_isThreeUp 41 .ireturn 1 42 := ⟨by decide +kernel, rfl⟩

set_option maxRecDepth 100000 in
set_option maxHeartbeats 4000000 in
theorem ct_X9_isThreeUp (l : Launch) (g : XG) (aN aNs aNk aNf aNr aNp aNb aNa aNt aNbo aNsz aNnu aNl aNal aNlo aNw aNtr aNis aNbg aNow nts nta nop npr nac : Nat) (nkp nbd ntp nnw nsn nwn : Int32) (r : Nat) (hr : r < 4096) : Ct l g 2 0 0 yX9_isThreeUp cX9_isThreeUp 4 (some .boolean) [.ref aN, .int (nI r)] [(aN, .inr (9, [.ref aNs, .ref aNk, .int nkp, .ref aNf, .ref aNr, .ref aNp, .ref aNb, .ref aNa, .ref aNt, .int (nI nts), .ref aNbo, .ref aNsz, .ref aNnu, .int (nI nta), .int (nI nop), .int nbd, .int ntp, .int (nI npr), .int nnw, .int nsn, .int nwn, .ref aNl, .ref aNal, .ref aNlo, .int (nI nac), .ref aNw, .ref aNtr, .ref aNis, .ref aNbg, .ref aNow])), (aNb, .inl (g.2.1 0, 4096, .inl (nIf popN)))] (xpi (nI (colF r)) [(aN, .inr (9, [.ref aNs, .ref aNk, .int nkp, .ref aNf, .ref aNr, .ref aNp, .ref aNb, .ref aNa, .ref aNt, .int (nI nts), .ref aNbo, .ref aNsz, .ref aNnu, .int (nI nta), .int (nI nop), .int nbd, .int ntp, .int (nI npr), .int nnw, .int nsn, .int nwn, .ref aNl, .ref aNal, .ref aNlo, .int (nI nac), .ref aNw, .ref aNtr, .ref aNis, .ref aNbg, .ref aNow])), (aNb, .inl (g.2.1 0, 4096, .inl (nIf popN)))]) := by
  refine Ct.ofX (lv := [some (.ref aN), some (.int (nI r)), none, none]) (by decide) rfl (Nat.le_of_ble_eq_true rfl) (fun κ => ?_)
  generalize hQ : xQ κ g 0 0 _ = Q
  have h1 := popN_le (r &&& 273)
  have h2 := popN_le (r &&& 546)
  have h3 := popN_le (r &&& 1092)
  have h4 := popN_le (r &&& 2184)
  refine x_iconst 0 dX9_isThreeUp_0 (by decide) ?_
  refine x_istore_n (lv' := [some (.ref aN), some (.int (nI r)), some (.int 0), none]) dX9_isThreeUp_1 (xlt rfl) rfl ?_
  refine x_iconst 0 dX9_isThreeUp_2 (by decide) ?_
  refine x_istore_n (lv' := [some (.ref aN), some (.int (nI r)), some (.int 0), some (.int 0)]) dX9_isThreeUp_3 (xlt rfl) rfl ?_
  refine x_iload_n dX9_isThreeUp_4 rfl ?_
  refine x_iconst 4 dX9_isThreeUp_5 (by decide) ?_
  refine x_icmp_ge dX9_isThreeUp_6 (fun c6 => ?_) (fun c6 => ?_)
  · exact absurd c6 (by decide)
  refine x_iload_n dX9_isThreeUp_9 rfl ?_
  refine x_if_ne dX9_isThreeUp_10 (fun c10 => ?_) (fun c10 => ?_)
  · exact absurd c10 (by decide)
  refine x_aload_n dX9_isThreeUp_13 rfl ?_
  refine x_iload_n dX9_isThreeUp_14 rfl ?_
  refine x_sipush 273 dX9_isThreeUp_15 (by decide) ?_
  refine x_iload_n dX9_isThreeUp_18 rfl ?_
  refine x_ishl dX9_isThreeUp_19 ?_
  refine x_rei (273) (by decide) ?_
  refine x_iand dX9_isThreeUp_20 ?_
  refine x_rei (nI (r &&& 273)) (nI_iand r 273) ?_
  refine x_cVi0 dX9_isThreeUp_21 ml_X9_132 mX9_ones (ct_X9_ones κ.2.1 g aN aNs aNk aNf aNr aNp aNb aNa aNt aNbo aNsz aNnu aNl aNal aNlo aNw aNtr aNis aNbg aNow nts nta nop npr nac nkp nbd ntp nnw nsn nwn (r &&& 273) (by first | exact and_lt (by decide) | exact and_ltl (rowB_lt _) | exact rowB_lt _ | omega)) [0, 1] rfl rfl 0 rfl rfl rfl (Nat.le_of_ble_eq_true rfl) (by decide) (Nat.le_refl _) (Nat.le_refl _) ?_
  refine x_iconst 3 dX9_isThreeUp_24 (by decide) ?_
  refine x_icmp_ne dX9_isThreeUp_25 (fun c25 => ?_) (fun c25 => ?_)
  · have c25 : ¬ ((nI (popN (r &&& 273))) = 3) := c25
    have c25n := mt (nI_eq (a := (popN (r &&& 273))) (b := 3) (by omega) (by omega)).mpr c25
    refine x_iconst 0 dX9_isThreeUp_32 (by decide) ?_
    refine x_istore_n (lv' := [some (.ref aN), some (.int (nI r)), some (.int 0), some (.int 0)]) dX9_isThreeUp_33 (xlt rfl) rfl ?_
    refine x_iinc (lv' := [some (.ref aN), some (.int (nI r)), some (.int 0), some (.int 1)]) (1) dX9_isThreeUp_34 rfl (by decide) rfl ?_
    refine x_goto dX9_isThreeUp_37 ?_
    refine x_iload_n dX9_isThreeUp_4 rfl ?_
    refine x_iconst 4 dX9_isThreeUp_5 (by decide) ?_
    refine x_icmp_ge dX9_isThreeUp_6 (fun c6 => ?_) (fun c6 => ?_)
    · exact absurd c6 (by decide)
    refine x_iload_n dX9_isThreeUp_9 rfl ?_
    refine x_if_ne dX9_isThreeUp_10 (fun c10 => ?_) (fun c10 => ?_)
    · exact absurd c10 (by decide)
    refine x_aload_n dX9_isThreeUp_13 rfl ?_
    refine x_iload_n dX9_isThreeUp_14 rfl ?_
    refine x_sipush 273 dX9_isThreeUp_15 (by decide) ?_
    refine x_iload_n dX9_isThreeUp_18 rfl ?_
    refine x_ishl dX9_isThreeUp_19 ?_
    refine x_rei (546) (by decide) ?_
    refine x_iand dX9_isThreeUp_20 ?_
    refine x_rei (nI (r &&& 546)) (nI_iand r 546) ?_
    refine x_cVi0 dX9_isThreeUp_21 ml_X9_132 mX9_ones (ct_X9_ones κ.2.1 g aN aNs aNk aNf aNr aNp aNb aNa aNt aNbo aNsz aNnu aNl aNal aNlo aNw aNtr aNis aNbg aNow nts nta nop npr nac nkp nbd ntp nnw nsn nwn (r &&& 546) (by first | exact and_lt (by decide) | exact and_ltl (rowB_lt _) | exact rowB_lt _ | omega)) [0, 1] rfl rfl 0 rfl rfl rfl (Nat.le_of_ble_eq_true rfl) (by decide) (Nat.le_refl _) (Nat.le_refl _) ?_
    refine x_iconst 3 dX9_isThreeUp_24 (by decide) ?_
    refine x_icmp_ne dX9_isThreeUp_25 (fun c25 => ?_) (fun c25 => ?_)
    · have c25 : ¬ ((nI (popN (r &&& 546))) = 3) := c25
      have c25n := mt (nI_eq (a := (popN (r &&& 546))) (b := 3) (by omega) (by omega)).mpr c25
      refine x_iconst 0 dX9_isThreeUp_32 (by decide) ?_
      refine x_istore_n (lv' := [some (.ref aN), some (.int (nI r)), some (.int 0), some (.int 1)]) dX9_isThreeUp_33 (xlt rfl) rfl ?_
      refine x_iinc (lv' := [some (.ref aN), some (.int (nI r)), some (.int 0), some (.int 2)]) (2) dX9_isThreeUp_34 rfl (by decide) rfl ?_
      refine x_goto dX9_isThreeUp_37 ?_
      refine x_iload_n dX9_isThreeUp_4 rfl ?_
      refine x_iconst 4 dX9_isThreeUp_5 (by decide) ?_
      refine x_icmp_ge dX9_isThreeUp_6 (fun c6 => ?_) (fun c6 => ?_)
      · exact absurd c6 (by decide)
      refine x_iload_n dX9_isThreeUp_9 rfl ?_
      refine x_if_ne dX9_isThreeUp_10 (fun c10 => ?_) (fun c10 => ?_)
      · exact absurd c10 (by decide)
      refine x_aload_n dX9_isThreeUp_13 rfl ?_
      refine x_iload_n dX9_isThreeUp_14 rfl ?_
      refine x_sipush 273 dX9_isThreeUp_15 (by decide) ?_
      refine x_iload_n dX9_isThreeUp_18 rfl ?_
      refine x_ishl dX9_isThreeUp_19 ?_
      refine x_rei (1092) (by decide) ?_
      refine x_iand dX9_isThreeUp_20 ?_
      refine x_rei (nI (r &&& 1092)) (nI_iand r 1092) ?_
      refine x_cVi0 dX9_isThreeUp_21 ml_X9_132 mX9_ones (ct_X9_ones κ.2.1 g aN aNs aNk aNf aNr aNp aNb aNa aNt aNbo aNsz aNnu aNl aNal aNlo aNw aNtr aNis aNbg aNow nts nta nop npr nac nkp nbd ntp nnw nsn nwn (r &&& 1092) (by first | exact and_lt (by decide) | exact and_ltl (rowB_lt _) | exact rowB_lt _ | omega)) [0, 1] rfl rfl 0 rfl rfl rfl (Nat.le_of_ble_eq_true rfl) (by decide) (Nat.le_refl _) (Nat.le_refl _) ?_
      refine x_iconst 3 dX9_isThreeUp_24 (by decide) ?_
      refine x_icmp_ne dX9_isThreeUp_25 (fun c25 => ?_) (fun c25 => ?_)
      · have c25 : ¬ ((nI (popN (r &&& 1092))) = 3) := c25
        have c25n := mt (nI_eq (a := (popN (r &&& 1092))) (b := 3) (by omega) (by omega)).mpr c25
        refine x_iconst 0 dX9_isThreeUp_32 (by decide) ?_
        refine x_istore_n (lv' := [some (.ref aN), some (.int (nI r)), some (.int 0), some (.int 2)]) dX9_isThreeUp_33 (xlt rfl) rfl ?_
        refine x_iinc (lv' := [some (.ref aN), some (.int (nI r)), some (.int 0), some (.int 3)]) (3) dX9_isThreeUp_34 rfl (by decide) rfl ?_
        refine x_goto dX9_isThreeUp_37 ?_
        refine x_iload_n dX9_isThreeUp_4 rfl ?_
        refine x_iconst 4 dX9_isThreeUp_5 (by decide) ?_
        refine x_icmp_ge dX9_isThreeUp_6 (fun c6 => ?_) (fun c6 => ?_)
        · exact absurd c6 (by decide)
        refine x_iload_n dX9_isThreeUp_9 rfl ?_
        refine x_if_ne dX9_isThreeUp_10 (fun c10 => ?_) (fun c10 => ?_)
        · exact absurd c10 (by decide)
        refine x_aload_n dX9_isThreeUp_13 rfl ?_
        refine x_iload_n dX9_isThreeUp_14 rfl ?_
        refine x_sipush 273 dX9_isThreeUp_15 (by decide) ?_
        refine x_iload_n dX9_isThreeUp_18 rfl ?_
        refine x_ishl dX9_isThreeUp_19 ?_
        refine x_rei (2184) (by decide) ?_
        refine x_iand dX9_isThreeUp_20 ?_
        refine x_rei (nI (r &&& 2184)) (nI_iand r 2184) ?_
        refine x_cVi0 dX9_isThreeUp_21 ml_X9_132 mX9_ones (ct_X9_ones κ.2.1 g aN aNs aNk aNf aNr aNp aNb aNa aNt aNbo aNsz aNnu aNl aNal aNlo aNw aNtr aNis aNbg aNow nts nta nop npr nac nkp nbd ntp nnw nsn nwn (r &&& 2184) (by first | exact and_lt (by decide) | exact and_ltl (rowB_lt _) | exact rowB_lt _ | omega)) [0, 1] rfl rfl 0 rfl rfl rfl (Nat.le_of_ble_eq_true rfl) (by decide) (Nat.le_refl _) (Nat.le_refl _) ?_
        refine x_iconst 3 dX9_isThreeUp_24 (by decide) ?_
        refine x_icmp_ne dX9_isThreeUp_25 (fun c25 => ?_) (fun c25 => ?_)
        · have c25 : ¬ ((nI (popN (r &&& 2184))) = 3) := c25
          have c25n := mt (nI_eq (a := (popN (r &&& 2184))) (b := 3) (by omega) (by omega)).mpr c25
          refine x_iconst 0 dX9_isThreeUp_32 (by decide) ?_
          refine x_istore_n (lv' := [some (.ref aN), some (.int (nI r)), some (.int 0), some (.int 3)]) dX9_isThreeUp_33 (xlt rfl) rfl ?_
          refine x_iinc (lv' := [some (.ref aN), some (.int (nI r)), some (.int 0), some (.int 4)]) (4) dX9_isThreeUp_34 rfl (by decide) rfl ?_
          refine x_goto dX9_isThreeUp_37 ?_
          refine x_iload_n dX9_isThreeUp_4 rfl ?_
          refine x_iconst 4 dX9_isThreeUp_5 (by decide) ?_
          refine x_icmp_ge dX9_isThreeUp_6 (fun c6 => ?_) (fun c6 => ?_)
          rotate_left
          · exact absurd c6 (by decide)
          refine x_iload_n dX9_isThreeUp_40 rfl ?_
          rw [← hQ]
          refine x_zret dX9_isThreeUp_41 rfl (by rfl) (Nat.le_of_ble_eq_true rfl) (Nat.le_of_ble_eq_true rfl) ?_
          exact ⟨by rw [col2_eq hr]; simp [*] <;> rfl, rfl⟩
        · have c25 : (nI (popN (r &&& 2184))) = 3 := c25
          have c25n := (nI_eq (a := (popN (r &&& 2184))) (b := 3) (by omega) (by omega)).mp c25
          refine x_iconst 1 dX9_isThreeUp_28 (by decide) ?_
          refine x_goto dX9_isThreeUp_29 ?_
          refine x_istore_n (lv' := [some (.ref aN), some (.int (nI r)), some (.int 1), some (.int 3)]) dX9_isThreeUp_33 (xlt rfl) rfl ?_
          refine x_iinc (lv' := [some (.ref aN), some (.int (nI r)), some (.int 1), some (.int 4)]) (4) dX9_isThreeUp_34 rfl (by decide) rfl ?_
          refine x_goto dX9_isThreeUp_37 ?_
          refine x_iload_n dX9_isThreeUp_4 rfl ?_
          refine x_iconst 4 dX9_isThreeUp_5 (by decide) ?_
          refine x_icmp_ge dX9_isThreeUp_6 (fun c6 => ?_) (fun c6 => ?_)
          rotate_left
          · exact absurd c6 (by decide)
          refine x_iload_n dX9_isThreeUp_40 rfl ?_
          rw [← hQ]
          refine x_zret dX9_isThreeUp_41 rfl (by rfl) (Nat.le_of_ble_eq_true rfl) (Nat.le_of_ble_eq_true rfl) ?_
          exact ⟨by rw [col2_eq hr]; simp [*] <;> rfl, rfl⟩
      · have c25 : (nI (popN (r &&& 1092))) = 3 := c25
        have c25n := (nI_eq (a := (popN (r &&& 1092))) (b := 3) (by omega) (by omega)).mp c25
        refine x_iconst 1 dX9_isThreeUp_28 (by decide) ?_
        refine x_goto dX9_isThreeUp_29 ?_
        refine x_istore_n (lv' := [some (.ref aN), some (.int (nI r)), some (.int 1), some (.int 2)]) dX9_isThreeUp_33 (xlt rfl) rfl ?_
        refine x_iinc (lv' := [some (.ref aN), some (.int (nI r)), some (.int 1), some (.int 3)]) (3) dX9_isThreeUp_34 rfl (by decide) rfl ?_
        refine x_goto dX9_isThreeUp_37 ?_
        refine x_iload_n dX9_isThreeUp_4 rfl ?_
        refine x_iconst 4 dX9_isThreeUp_5 (by decide) ?_
        refine x_icmp_ge dX9_isThreeUp_6 (fun c6 => ?_) (fun c6 => ?_)
        · exact absurd c6 (by decide)
        refine x_iload_n dX9_isThreeUp_9 rfl ?_
        refine x_if_ne dX9_isThreeUp_10 (fun c10 => ?_) (fun c10 => ?_)
        rotate_left
        · exact absurd c10 (by decide)
        refine x_iconst 1 dX9_isThreeUp_28 (by decide) ?_
        refine x_goto dX9_isThreeUp_29 ?_
        refine x_istore_n (lv' := [some (.ref aN), some (.int (nI r)), some (.int 1), some (.int 3)]) dX9_isThreeUp_33 (xlt rfl) rfl ?_
        refine x_iinc (lv' := [some (.ref aN), some (.int (nI r)), some (.int 1), some (.int 4)]) (4) dX9_isThreeUp_34 rfl (by decide) rfl ?_
        refine x_goto dX9_isThreeUp_37 ?_
        refine x_iload_n dX9_isThreeUp_4 rfl ?_
        refine x_iconst 4 dX9_isThreeUp_5 (by decide) ?_
        refine x_icmp_ge dX9_isThreeUp_6 (fun c6 => ?_) (fun c6 => ?_)
        rotate_left
        · exact absurd c6 (by decide)
        refine x_iload_n dX9_isThreeUp_40 rfl ?_
        rw [← hQ]
        refine x_zret dX9_isThreeUp_41 rfl (by rfl) (Nat.le_of_ble_eq_true rfl) (Nat.le_of_ble_eq_true rfl) ?_
        exact ⟨by rw [col2_eq hr]; simp [*] <;> rfl, rfl⟩
    · have c25 : (nI (popN (r &&& 546))) = 3 := c25
      have c25n := (nI_eq (a := (popN (r &&& 546))) (b := 3) (by omega) (by omega)).mp c25
      refine x_iconst 1 dX9_isThreeUp_28 (by decide) ?_
      refine x_goto dX9_isThreeUp_29 ?_
      refine x_istore_n (lv' := [some (.ref aN), some (.int (nI r)), some (.int 1), some (.int 1)]) dX9_isThreeUp_33 (xlt rfl) rfl ?_
      refine x_iinc (lv' := [some (.ref aN), some (.int (nI r)), some (.int 1), some (.int 2)]) (2) dX9_isThreeUp_34 rfl (by decide) rfl ?_
      refine x_goto dX9_isThreeUp_37 ?_
      refine x_iload_n dX9_isThreeUp_4 rfl ?_
      refine x_iconst 4 dX9_isThreeUp_5 (by decide) ?_
      refine x_icmp_ge dX9_isThreeUp_6 (fun c6 => ?_) (fun c6 => ?_)
      · exact absurd c6 (by decide)
      refine x_iload_n dX9_isThreeUp_9 rfl ?_
      refine x_if_ne dX9_isThreeUp_10 (fun c10 => ?_) (fun c10 => ?_)
      rotate_left
      · exact absurd c10 (by decide)
      refine x_iconst 1 dX9_isThreeUp_28 (by decide) ?_
      refine x_goto dX9_isThreeUp_29 ?_
      refine x_istore_n (lv' := [some (.ref aN), some (.int (nI r)), some (.int 1), some (.int 2)]) dX9_isThreeUp_33 (xlt rfl) rfl ?_
      refine x_iinc (lv' := [some (.ref aN), some (.int (nI r)), some (.int 1), some (.int 3)]) (3) dX9_isThreeUp_34 rfl (by decide) rfl ?_
      refine x_goto dX9_isThreeUp_37 ?_
      refine x_iload_n dX9_isThreeUp_4 rfl ?_
      refine x_iconst 4 dX9_isThreeUp_5 (by decide) ?_
      refine x_icmp_ge dX9_isThreeUp_6 (fun c6 => ?_) (fun c6 => ?_)
      · exact absurd c6 (by decide)
      refine x_iload_n dX9_isThreeUp_9 rfl ?_
      refine x_if_ne dX9_isThreeUp_10 (fun c10 => ?_) (fun c10 => ?_)
      rotate_left
      · exact absurd c10 (by decide)
      refine x_iconst 1 dX9_isThreeUp_28 (by decide) ?_
      refine x_goto dX9_isThreeUp_29 ?_
      refine x_istore_n (lv' := [some (.ref aN), some (.int (nI r)), some (.int 1), some (.int 3)]) dX9_isThreeUp_33 (xlt rfl) rfl ?_
      refine x_iinc (lv' := [some (.ref aN), some (.int (nI r)), some (.int 1), some (.int 4)]) (4) dX9_isThreeUp_34 rfl (by decide) rfl ?_
      refine x_goto dX9_isThreeUp_37 ?_
      refine x_iload_n dX9_isThreeUp_4 rfl ?_
      refine x_iconst 4 dX9_isThreeUp_5 (by decide) ?_
      refine x_icmp_ge dX9_isThreeUp_6 (fun c6 => ?_) (fun c6 => ?_)
      rotate_left
      · exact absurd c6 (by decide)
      refine x_iload_n dX9_isThreeUp_40 rfl ?_
      rw [← hQ]
      refine x_zret dX9_isThreeUp_41 rfl (by rfl) (Nat.le_of_ble_eq_true rfl) (Nat.le_of_ble_eq_true rfl) ?_
      exact ⟨by rw [col2_eq hr]; simp [*] <;> rfl, rfl⟩
  · have c25 : (nI (popN (r &&& 273))) = 3 := c25
    have c25n := (nI_eq (a := (popN (r &&& 273))) (b := 3) (by omega) (by omega)).mp c25
    refine x_iconst 1 dX9_isThreeUp_28 (by decide) ?_
    refine x_goto dX9_isThreeUp_29 ?_
    refine x_istore_n (lv' := [some (.ref aN), some (.int (nI r)), some (.int 1), some (.int 0)]) dX9_isThreeUp_33 (xlt rfl) rfl ?_
    refine x_iinc (lv' := [some (.ref aN), some (.int (nI r)), some (.int 1), some (.int 1)]) (1) dX9_isThreeUp_34 rfl (by decide) rfl ?_
    refine x_goto dX9_isThreeUp_37 ?_
    refine x_iload_n dX9_isThreeUp_4 rfl ?_
    refine x_iconst 4 dX9_isThreeUp_5 (by decide) ?_
    refine x_icmp_ge dX9_isThreeUp_6 (fun c6 => ?_) (fun c6 => ?_)
    · exact absurd c6 (by decide)
    refine x_iload_n dX9_isThreeUp_9 rfl ?_
    refine x_if_ne dX9_isThreeUp_10 (fun c10 => ?_) (fun c10 => ?_)
    rotate_left
    · exact absurd c10 (by decide)
    refine x_iconst 1 dX9_isThreeUp_28 (by decide) ?_
    refine x_goto dX9_isThreeUp_29 ?_
    refine x_istore_n (lv' := [some (.ref aN), some (.int (nI r)), some (.int 1), some (.int 1)]) dX9_isThreeUp_33 (xlt rfl) rfl ?_
    refine x_iinc (lv' := [some (.ref aN), some (.int (nI r)), some (.int 1), some (.int 2)]) (2) dX9_isThreeUp_34 rfl (by decide) rfl ?_
    refine x_goto dX9_isThreeUp_37 ?_
    refine x_iload_n dX9_isThreeUp_4 rfl ?_
    refine x_iconst 4 dX9_isThreeUp_5 (by decide) ?_
    refine x_icmp_ge dX9_isThreeUp_6 (fun c6 => ?_) (fun c6 => ?_)
    · exact absurd c6 (by decide)
    refine x_iload_n dX9_isThreeUp_9 rfl ?_
    refine x_if_ne dX9_isThreeUp_10 (fun c10 => ?_) (fun c10 => ?_)
    rotate_left
    · exact absurd c10 (by decide)
    refine x_iconst 1 dX9_isThreeUp_28 (by decide) ?_
    refine x_goto dX9_isThreeUp_29 ?_
    refine x_istore_n (lv' := [some (.ref aN), some (.int (nI r)), some (.int 1), some (.int 2)]) dX9_isThreeUp_33 (xlt rfl) rfl ?_
    refine x_iinc (lv' := [some (.ref aN), some (.int (nI r)), some (.int 1), some (.int 3)]) (3) dX9_isThreeUp_34 rfl (by decide) rfl ?_
    refine x_goto dX9_isThreeUp_37 ?_
    refine x_iload_n dX9_isThreeUp_4 rfl ?_
    refine x_iconst 4 dX9_isThreeUp_5 (by decide) ?_
    refine x_icmp_ge dX9_isThreeUp_6 (fun c6 => ?_) (fun c6 => ?_)
    · exact absurd c6 (by decide)
    refine x_iload_n dX9_isThreeUp_9 rfl ?_
    refine x_if_ne dX9_isThreeUp_10 (fun c10 => ?_) (fun c10 => ?_)
    rotate_left
    · exact absurd c10 (by decide)
    refine x_iconst 1 dX9_isThreeUp_28 (by decide) ?_
    refine x_goto dX9_isThreeUp_29 ?_
    refine x_istore_n (lv' := [some (.ref aN), some (.int (nI r)), some (.int 1), some (.int 3)]) dX9_isThreeUp_33 (xlt rfl) rfl ?_
    refine x_iinc (lv' := [some (.ref aN), some (.int (nI r)), some (.int 1), some (.int 4)]) (4) dX9_isThreeUp_34 rfl (by decide) rfl ?_
    refine x_goto dX9_isThreeUp_37 ?_
    refine x_iload_n dX9_isThreeUp_4 rfl ?_
    refine x_iconst 4 dX9_isThreeUp_5 (by decide) ?_
    refine x_icmp_ge dX9_isThreeUp_6 (fun c6 => ?_) (fun c6 => ?_)
    rotate_left
    · exact absurd c6 (by decide)
    refine x_iload_n dX9_isThreeUp_40 rfl ?_
    rw [← hQ]
    refine x_zret dX9_isThreeUp_41 rfl (by rfl) (Nat.le_of_ble_eq_true rfl) (Nat.le_of_ble_eq_true rfl) ?_
    exact ⟨by rw [col2_eq hr]; simp [*] <;> rfl, rfl⟩

-- == X9_fancied ==
theorem dX9_fancied_0 : xd cX9_fancied 0 (.aload_n 0) 1 1 := ⟨by decide +kernel, rfl⟩
theorem dX9_fancied_1 : xd cX9_fancied 1 (.getfield 19) 3 4 := ⟨by decide +kernel, rfl⟩
theorem dX9_fancied_4 : xd cX9_fancied 4 (.iload_n 3) 1 5 := ⟨by decide +kernel, rfl⟩
theorem dX9_fancied_5 : xd cX9_fancied 5 .iaload 1 6 := ⟨by decide +kernel, rfl⟩
theorem dX9_fancied_6 : xd cX9_fancied 6 (.istore 5) 2 8 := ⟨by decide +kernel, rfl⟩
theorem dX9_fancied_8 : xd cX9_fancied 8 (.iload_n 1) 1 9 := ⟨by decide +kernel, rfl⟩
theorem dX9_fancied_9 : decode cX9_fancied 9 = .ok (.tableswitch 158 0 6 #[43, 46, 61, 95, 97, 114, 145], 43) := by decide +kernel
theorem dX9_fancied_52 : xd cX9_fancied 52 (.iload 4) 2 54 := ⟨by decide +kernel, rfl⟩
theorem dX9_fancied_54 : xd cX9_fancied 54 .ireturn 1 55 := ⟨by decide +kernel, rfl⟩
theorem dX9_fancied_55 : xd cX9_fancied 55 (.iload 4) 2 57 := ⟨by decide +kernel, rfl⟩
theorem dX9_fancied_57 : xd cX9_fancied 57 (.iconst 2) 1 58 := ⟨by decide +kernel, rfl⟩
theorem dX9_fancied_58 : xd cX9_fancied 58 (.aload_n 0) 1 59 := ⟨by decide +kernel, rfl⟩
theorem dX9_fancied_59 : xd cX9_fancied 59 (.iload 5) 2 61 := ⟨by decide +kernel, rfl⟩
theorem dX9_fancied_61 : xd cX9_fancied 61 (.bipush 63) 2 63 := ⟨by decide +kernel, rfl⟩
theorem dX9_fancied_63 : xd cX9_fancied 63 .iand 1 64 := ⟨by decide +kernel, rfl⟩
theorem dX9_fancied_64 : xd cX9_fancied 64 (.invokevirtual 132) 3 67 := ⟨by decide +kernel, rfl⟩
theorem dX9_fancied_67 : xd cX9_fancied 67 .imul 1 68 := ⟨by decide +kernel, rfl⟩
theorem dX9_fancied_68 : xd cX9_fancied 68 .iadd 1 69 := ⟨by decide +kernel, rfl⟩
theorem dX9_fancied_69 : xd cX9_fancied 69 .ireturn 1 70 := ⟨by decide +kernel, rfl⟩
theorem dX9_fancied_70 : xd cX9_fancied 70 (.iload 4) 2 72 := ⟨by decide +kernel, rfl⟩
theorem dX9_fancied_72 : xd cX9_fancied 72 (.iload 5) 2 74 := ⟨by decide +kernel, rfl⟩
theorem dX9_fancied_74 : xd cX9_fancied 74 (.invokestatic 178) 3 77 := ⟨by decide +kernel, rfl⟩
theorem dX9_fancied_77 : xj cX9_fancied 77 (.ifCond .eq) 80 85 := ⟨8, by decide +kernel, rfl, by decide⟩
theorem dX9_fancied_80 : xd cX9_fancied 80 (.bipush 20) 2 82 := ⟨by decide +kernel, rfl⟩
theorem dX9_fancied_82 : xj cX9_fancied 82 .goto 85 86 := ⟨4, by decide +kernel, rfl, by decide⟩
theorem dX9_fancied_85 : xd cX9_fancied 85 (.iconst 0) 1 86 := ⟨by decide +kernel, rfl⟩
theorem dX9_fancied_86 : xd cX9_fancied 86 .iadd 1 87 := ⟨by decide +kernel, rfl⟩
theorem dX9_fancied_87 : xd cX9_fancied 87 (.aload_n 0) 1 88 := ⟨by decide +kernel, rfl⟩
theorem dX9_fancied_88 : xd cX9_fancied 88 (.iload 5) 2 90 := ⟨by decide +kernel, rfl⟩
theorem dX9_fancied_90 : xd cX9_fancied 90 (.invokevirtual 181) 3 93 := ⟨by decide +kernel, rfl⟩
theorem dX9_fancied_93 : xj cX9_fancied 93 (.ifCond .eq) 96 101 := ⟨8, by decide +kernel, rfl, by decide⟩
theorem dX9_fancied_96 : xd cX9_fancied 96 (.bipush 10) 2 98 := ⟨by decide +kernel, rfl⟩
theorem dX9_fancied_98 : xj cX9_fancied 98 .goto 101 102 := ⟨4, by decide +kernel, rfl, by decide⟩
theorem dX9_fancied_101 : xd cX9_fancied 101 (.iconst 0) 1 102 := ⟨by decide +kernel, rfl⟩
theorem dX9_fancied_102 : xd cX9_fancied 102 .iadd 1 103 := ⟨by decide +kernel, rfl⟩
theorem dX9_fancied_103 : xd cX9_fancied 103 .ireturn 1 104 := ⟨by decide +kernel, rfl⟩
theorem dX9_fancied_104 : xd cX9_fancied 104 (.iconst 1) 1 105 := ⟨by decide +kernel, rfl⟩
theorem dX9_fancied_105 : xd cX9_fancied 105 .ireturn 1 106 := ⟨by decide +kernel, rfl⟩
theorem dX9_fancied_106 : xd cX9_fancied 106 (.iload 4) 2 108 := ⟨by decide +kernel, rfl⟩
theorem dX9_fancied_108 : xd cX9_fancied 108 (.iconst 3) 1 109 := ⟨by decide +kernel, rfl⟩
theorem dX9_fancied_109 : xd cX9_fancied 109 (.aload_n 0) 1 110 := ⟨by decide +kernel, rfl⟩
theorem dX9_fancied_110 : xd cX9_fancied 110 (.iload 5) 2 112 := ⟨by decide +kernel, rfl⟩
theorem dX9_fancied_112 : xd cX9_fancied 112 (.aload_n 0) 1 113 := ⟨by decide +kernel, rfl⟩
theorem dX9_fancied_113 : xd cX9_fancied 113 (.invokevirtual 129) 3 116 := ⟨by decide +kernel, rfl⟩
theorem dX9_fancied_116 : xd cX9_fancied 116 .iand 1 117 := ⟨by decide +kernel, rfl⟩
theorem dX9_fancied_117 : xd cX9_fancied 117 (.invokevirtual 132) 3 120 := ⟨by decide +kernel, rfl⟩
theorem dX9_fancied_120 : xd cX9_fancied 120 .imul 1 121 := ⟨by decide +kernel, rfl⟩
theorem dX9_fancied_121 : xd cX9_fancied 121 .iadd 1 122 := ⟨by decide +kernel, rfl⟩
theorem dX9_fancied_122 : xd cX9_fancied 122 .ireturn 1 123 := ⟨by decide +kernel, rfl⟩
theorem dX9_fancied_123 : xd cX9_fancied 123 (.iload 4) 2 125 := ⟨by decide +kernel, rfl⟩
theorem dX9_fancied_125 : xd cX9_fancied 125 (.iconst 2) 1 126 := ⟨by decide +kernel, rfl⟩
theorem dX9_fancied_126 : xd cX9_fancied 126 (.aload_n 0) 1 127 := ⟨by decide +kernel, rfl⟩
theorem dX9_fancied_127 : xd cX9_fancied 127 (.iload 5) 2 129 := ⟨by decide +kernel, rfl⟩
theorem dX9_fancied_129 : xd cX9_fancied 129 (.bipush 63) 2 131 := ⟨by decide +kernel, rfl⟩
theorem dX9_fancied_131 : xd cX9_fancied 131 .iand 1 132 := ⟨by decide +kernel, rfl⟩
theorem dX9_fancied_132 : xd cX9_fancied 132 (.invokevirtual 132) 3 135 := ⟨by decide +kernel, rfl⟩
theorem dX9_fancied_135 : xd cX9_fancied 135 .imul 1 136 := ⟨by decide +kernel, rfl⟩
theorem dX9_fancied_136 : xd cX9_fancied 136 .iadd 1 137 := ⟨by decide +kernel, rfl⟩
theorem dX9_fancied_137 : xd cX9_fancied 137 (.iload 5) 2 139 := ⟨by decide +kernel, rfl⟩
theorem dX9_fancied_139 : xd cX9_fancied 139 (.bipush 7) 2 141 := ⟨by decide +kernel, rfl⟩
theorem dX9_fancied_141 : xd cX9_fancied 141 (.invokestatic 83) 3 144 := ⟨by decide +kernel, rfl⟩
theorem dX9_fancied_144 : xj cX9_fancied 144 (.ifCond .eq) 147 151 := ⟨7, by decide +kernel, rfl, by decide⟩
theorem dX9_fancied_147 : xd cX9_fancied 147 (.iconst 2) 1 148 := ⟨by decide +kernel, rfl⟩
theorem dX9_fancied_148 : xj cX9_fancied 148 .goto 151 152 := ⟨4, by decide +kernel, rfl, by decide⟩
theorem dX9_fancied_151 : xd cX9_fancied 151 (.iconst 1) 1 152 := ⟨by decide +kernel, rfl⟩
theorem dX9_fancied_152 : xd cX9_fancied 152 .imul 1 153 := ⟨by decide +kernel, rfl⟩
theorem dX9_fancied_153 : xd cX9_fancied 153 .ireturn 1 154 := ⟨by decide +kernel, rfl⟩
theorem dX9_fancied_154 : xd cX9_fancied 154 (.iconst 1) 1 155 := ⟨by decide +kernel, rfl⟩
theorem dX9_fancied_155 : xd cX9_fancied 155 (.aload_n 0) 1 156 := ⟨by decide +kernel, rfl⟩
theorem dX9_fancied_156 : xd cX9_fancied 156 (.iload 5) 2 158 := ⟨by decide +kernel, rfl⟩
theorem dX9_fancied_158 : xd cX9_fancied 158 (.sipush 3840) 3 161 := ⟨by decide +kernel, rfl⟩
theorem dX9_fancied_161 : xd cX9_fancied 161 .iand 1 162 := ⟨by decide +kernel, rfl⟩
theorem dX9_fancied_162 : xd cX9_fancied 162 (.invokevirtual 132) 3 165 := ⟨by decide +kernel, rfl⟩
theorem dX9_fancied_165 : xd cX9_fancied 165 .iadd 1 166 := ⟨by decide +kernel, rfl⟩
theorem dX9_fancied_166 : xd cX9_fancied 166 .ireturn 1 167 := ⟨by decide +kernel, rfl⟩
theorem dX9_fancied_167 : xd cX9_fancied 167 (.iload_n 3) 1 168 := ⟨by decide +kernel, rfl⟩
theorem dX9_fancied_168 : xd cX9_fancied 168 (.iload_n 2) 1 169 := ⟨by decide +kernel, rfl⟩
theorem dX9_fancied_169 : xj cX9_fancied 169 (.if_icmp .ge) 172 187 := ⟨18, by decide +kernel, rfl, by decide⟩
theorem dX9_fancied_172 : xd cX9_fancied 172 (.iconst 1) 1 173 := ⟨by decide +kernel, rfl⟩
theorem dX9_fancied_173 : xd cX9_fancied 173 (.aload_n 0) 1 174 := ⟨by decide +kernel, rfl⟩
theorem dX9_fancied_174 : xd cX9_fancied 174 (.iload 5) 2 176 := ⟨by decide +kernel, rfl⟩
theorem dX9_fancied_176 : xd cX9_fancied 176 (.sipush 3840) 3 179 := ⟨by decide +kernel, rfl⟩
theorem dX9_fancied_179 : xd cX9_fancied 179 .iand 1 180 := ⟨by decide +kernel, rfl⟩
theorem dX9_fancied_180 : xd cX9_fancied 180 (.invokevirtual 132) 3 183 := ⟨by decide +kernel, rfl⟩
theorem dX9_fancied_183 : xd cX9_fancied 183 .iadd 1 184 := ⟨by decide +kernel, rfl⟩
theorem dX9_fancied_184 : xj cX9_fancied 184 .goto 187 188 := ⟨4, by decide +kernel, rfl, by decide⟩
theorem dX9_fancied_187 : xd cX9_fancied 187 (.iconst 0) 1 188 := ⟨by decide +kernel, rfl⟩
theorem dX9_fancied_188 : xd cX9_fancied 188 .ireturn 1 189 := ⟨by decide +kernel, rfl⟩

set_option maxRecDepth 100000 in
set_option maxHeartbeats 4000000 in
theorem ct_X9_fancied (l : Launch) (g : XG) (aN aNs aNk aNf aNr aNp aNb aNa aNt aNbo aNsz aNnu aNl aNal aNlo aNw aNtr aNis aNbg aNow nts nta nop npr nac : Nat) (nkp nbd ntp nnw nsn nwn : Int32) (gr wk lk sz br : Nat) (z : Int32) (ru ki ma bb hd : Nat → Nat) (ce : Nat → Int32) (L p kd mn sd : Nat) (hkd : kd < 2 ^ 31) (hmn : mn ≤ 99999) (hp : p < 495) (hwk : wk ≤ 40) (hlat : latI ce wk = nI L) (hL : L < 4096) : Ct l g 3 0 0 yX9_fancied cX9_fancied 6 (some .int) [.ref aN, .int (nI kd), .int (nI mn), .int (nI p), .int (nI sd)] [(aN, .inr (9, [.ref aNs, .ref aNk, .int nkp, .ref aNf, .ref aNr, .ref aNp, .ref aNb, .ref aNa, .ref aNt, .int (nI nts), .ref aNbo, .ref aNsz, .ref aNnu, .int (nI nta), .int (nI nop), .int nbd, .int ntp, .int (nI npr), .int nnw, .int nsn, .int nwn, .ref aNl, .ref aNal, .ref aNlo, .int (nI nac), .ref aNw, .ref aNtr, .ref aNis, .ref aNbg, .ref aNow])), (aNs, .inl (g.2.1 0, 919, .inl (msF gr wk z lk sz br ru ki ma bb ce hd))), (aNr, .inl (g.2.1 0, 495, .inl (nIf rowB))), (aNb, .inl (g.2.1 0, 4096, .inl (nIf popN)))] (xpi (nI (lkN kd mn p L sd)) [(aN, .inr (9, [.ref aNs, .ref aNk, .int nkp, .ref aNf, .ref aNr, .ref aNp, .ref aNb, .ref aNa, .ref aNt, .int (nI nts), .ref aNbo, .ref aNsz, .ref aNnu, .int (nI nta), .int (nI nop), .int nbd, .int ntp, .int (nI npr), .int nnw, .int nsn, .int nwn, .ref aNl, .ref aNal, .ref aNlo, .int (nI nac), .ref aNw, .ref aNtr, .ref aNis, .ref aNbg, .ref aNow])), (aNs, .inl (g.2.1 0, 919, .inl (msF gr wk z lk sz br ru ki ma bb ce hd))), (aNr, .inl (g.2.1 0, 495, .inl (nIf rowB))), (aNb, .inl (g.2.1 0, 4096, .inl (nIf popN)))]) := by
  refine Ct.ofX (lv := [some (.ref aN), some (.int (nI kd)), some (.int (nI mn)), some (.int (nI p)), some (.int (nI sd)), none]) (by decide) rfl (Nat.le_of_ble_eq_true rfl) (fun κ => ?_)
  generalize hQ : xQ κ g 0 0 _ = Q
  refine x_aload_n dX9_fancied_0 rfl ?_
  refine x_get dX9_fancied_1 0 4 inX9 fl_X9_19 rfl rfl (by decide) rfl ?_
  refine x_iload_n dX9_fancied_4 rfl ?_
  refine x_iald dX9_fancied_5 2 p rfl (rfl) (by omega) (by decide) ?_
  refine x_istore (lv' := [some (.ref aN), some (.int (nI kd)), some (.int (nI mn)), some (.int (nI p)), some (.int (nI sd)), some (.int (nI (rowB p)))]) dX9_fancied_6 (xlt rfl) rfl ?_
  refine x_iload_n dX9_fancied_8 rfl ?_
  by_cases c9_0 : nI kd = 0
  · refine x_reS c9_0 ?_
    have c9_0n := (nI_eq (a := kd) (b := 0) (by omega) (by decide)).mp c9_0
    refine x_tabIn (off := 43) 52 dX9_fancied_9 (by decide) (by decide) rfl (by decide) ?_
    refine x_iload dX9_fancied_52 rfl ?_
    rw [← hQ]
    refine x_iret dX9_fancied_54 rfl (Nat.le_of_ble_eq_true rfl) (Nat.le_of_ble_eq_true rfl) ?_
    exact ⟨by simp [lkN, c9_0n] <;> rfl, rfl⟩
  have c9_0n := mt (nI_eq (a := kd) (b := 0) (by omega) (by decide)).mpr c9_0
  by_cases c9_1 : nI kd = 1
  · refine x_reS c9_1 ?_
    have c9_1n := (nI_eq (a := kd) (b := 1) (by omega) (by decide)).mp c9_1
    refine x_tabIn (off := 46) 55 dX9_fancied_9 (by decide) (by decide) rfl (by decide) ?_
    refine x_iload dX9_fancied_55 rfl ?_
    refine x_iconst 2 dX9_fancied_57 (by decide) ?_
    refine x_aload_n dX9_fancied_58 rfl ?_
    refine x_iload dX9_fancied_59 rfl ?_
    refine x_bipush 63 dX9_fancied_61 (by decide) ?_
    refine x_iand dX9_fancied_63 ?_
    refine x_rei (nI ((rowB p) &&& 63)) (nI_iand (rowB p) 63) ?_
    refine x_cVi0 dX9_fancied_64 ml_X9_132 mX9_ones (ct_X9_ones κ.2.1 g aN aNs aNk aNf aNr aNp aNb aNa aNt aNbo aNsz aNnu aNl aNal aNlo aNw aNtr aNis aNbg aNow nts nta nop npr nac nkp nbd ntp nnw nsn nwn ((rowB p) &&& 63) (by first | exact and_lt (by decide) | exact and_ltl (rowB_lt _) | exact rowB_lt _ | omega)) [0, 3] rfl rfl 0 rfl rfl rfl (Nat.le_of_ble_eq_true rfl) (by decide) (Nat.le_refl _) (Nat.le_refl _) ?_
    refine x_imul dX9_fancied_67 ?_
    refine x_rei (nI (2 * (popN ((rowB p) &&& 63)))) (nI_imul 2 (popN ((rowB p) &&& 63))) ?_
    refine x_iadd dX9_fancied_68 ?_
    refine x_rei (nI (sd + (2 * (popN ((rowB p) &&& 63))))) (nI_iadd sd (2 * (popN ((rowB p) &&& 63)))) ?_
    rw [← hQ]
    refine x_iret dX9_fancied_69 rfl (Nat.le_of_ble_eq_true rfl) (Nat.le_of_ble_eq_true rfl) ?_
    exact ⟨by simp [lkN, c9_1n] <;> rfl, rfl⟩
  have c9_1n := mt (nI_eq (a := kd) (b := 1) (by omega) (by decide)).mpr c9_1
  by_cases c9_2 : nI kd = 2
  · refine x_reS c9_2 ?_
    have c9_2n := (nI_eq (a := kd) (b := 2) (by omega) (by decide)).mp c9_2
    refine x_tabIn (off := 61) 70 dX9_fancied_9 (by decide) (by decide) rfl (by decide) ?_
    refine x_iload dX9_fancied_70 rfl ?_
    refine x_iload dX9_fancied_72 rfl ?_
    refine x_cSi dX9_fancied_74 ml_X9_178 mX9_isOneLine (ct_X9_isOneLine κ.2.1 g (rowB p) (by first | exact rowB_lt _ | omega)) rfl (Nat.le_of_ble_eq_true rfl) (by decide) (Nat.le_refl _) (Nat.le_refl _) ?_
    have J77_2 : ∀ (v1 : Int32), v1 = (if (nI (lineF (rowB p))) = 0 then 0 else 20) → Xs κ g 3 0 0 cX9_fancied yX9_fancied (some .int) Q 0 0 86 [some (.ref aN), some (.int (nI kd)), some (.int (nI mn)), some (.int (nI p)), some (.int (nI sd)), some (.int (nI (rowB p)))] [.int v1, .int (nI sd)] [(aN, .inr (9, [.ref aNs, .ref aNk, .int nkp, .ref aNf, .ref aNr, .ref aNp, .ref aNb, .ref aNa, .ref aNt, .int (nI nts), .ref aNbo, .ref aNsz, .ref aNnu, .int (nI nta), .int (nI nop), .int nbd, .int ntp, .int (nI npr), .int nnw, .int nsn, .int nwn, .ref aNl, .ref aNal, .ref aNlo, .int (nI nac), .ref aNw, .ref aNtr, .ref aNis, .ref aNbg, .ref aNow])), (aNs, .inl (g.2.1 0, 919, .inl (msF gr wk z lk sz br ru ki ma bb ce hd))), (aNr, .inl (g.2.1 0, 495, .inl (nIf rowB))), (aNb, .inl (g.2.1 0, 4096, .inl (nIf popN)))] := by
      intro v1 ev1
      refine x_rei (nI (20 * lineF (rowB p))) (by simp only [ev1]; exact if01 (lineF_lt _) 20) ?_
      refine x_iadd dX9_fancied_86 ?_
      refine x_rei (nI (sd + (20 * lineF (rowB p)))) (nI_iadd sd (20 * lineF (rowB p))) ?_
      refine x_aload_n dX9_fancied_87 rfl ?_
      refine x_iload dX9_fancied_88 rfl ?_
      refine x_cVi0 dX9_fancied_90 ml_X9_181 mX9_isThreeUp (ct_X9_isThreeUp κ.2.1 g aN aNs aNk aNf aNr aNp aNb aNa aNt aNbo aNsz aNnu aNl aNal aNlo aNw aNtr aNis aNbg aNow nts nta nop npr nac nkp nbd ntp nnw nsn nwn (rowB p) (by first | exact rowB_lt _ | omega)) [0, 3] rfl rfl 0 rfl rfl rfl (Nat.le_of_ble_eq_true rfl) (by decide) (Nat.le_refl _) (Nat.le_refl _) ?_
      have J93_4 : ∀ (v3 : Int32), v3 = (if (nI (colF (rowB p))) = 0 then 0 else 10) → Xs κ g 3 0 0 cX9_fancied yX9_fancied (some .int) Q 0 0 102 [some (.ref aN), some (.int (nI kd)), some (.int (nI mn)), some (.int (nI p)), some (.int (nI sd)), some (.int (nI (rowB p)))] [.int v3, .int (nI (sd + (20 * lineF (rowB p))))] [(aN, .inr (9, [.ref aNs, .ref aNk, .int nkp, .ref aNf, .ref aNr, .ref aNp, .ref aNb, .ref aNa, .ref aNt, .int (nI nts), .ref aNbo, .ref aNsz, .ref aNnu, .int (nI nta), .int (nI nop), .int nbd, .int ntp, .int (nI npr), .int nnw, .int nsn, .int nwn, .ref aNl, .ref aNal, .ref aNlo, .int (nI nac), .ref aNw, .ref aNtr, .ref aNis, .ref aNbg, .ref aNow])), (aNs, .inl (g.2.1 0, 919, .inl (msF gr wk z lk sz br ru ki ma bb ce hd))), (aNr, .inl (g.2.1 0, 495, .inl (nIf rowB))), (aNb, .inl (g.2.1 0, 4096, .inl (nIf popN)))] := by
        intro v3 ev3
        refine x_rei (nI (10 * colF (rowB p))) (by simp only [ev3]; exact if01 (colF_lt _) 10) ?_
        refine x_iadd dX9_fancied_102 ?_
        refine x_rei (nI ((sd + (20 * lineF (rowB p))) + (10 * colF (rowB p)))) (nI_iadd (sd + (20 * lineF (rowB p))) (10 * colF (rowB p))) ?_
        rw [← hQ]
        refine x_iret dX9_fancied_103 rfl (Nat.le_of_ble_eq_true rfl) (Nat.le_of_ble_eq_true rfl) ?_
        exact ⟨by simp [lkN, c9_2n] <;> rfl, rfl⟩
      refine x_if_eq dX9_fancied_93 (fun c93 => ?_) (fun c93 => ?_)
      · have c93 : (nI (colF (rowB p))) = 0 := c93
        refine x_iconst 0 dX9_fancied_101 (by decide) ?_
        exact J93_4 _ (if_pos c93).symm
      · have c93 : ¬ ((nI (colF (rowB p))) = 0) := c93
        refine x_bipush 10 dX9_fancied_96 (by decide) ?_
        refine x_goto dX9_fancied_98 ?_
        exact J93_4 _ (if_neg c93).symm
    refine x_if_eq dX9_fancied_77 (fun c77 => ?_) (fun c77 => ?_)
    · have c77 : (nI (lineF (rowB p))) = 0 := c77
      refine x_iconst 0 dX9_fancied_85 (by decide) ?_
      exact J77_2 _ (if_pos c77).symm
    · have c77 : ¬ ((nI (lineF (rowB p))) = 0) := c77
      refine x_bipush 20 dX9_fancied_80 (by decide) ?_
      refine x_goto dX9_fancied_82 ?_
      exact J77_2 _ (if_neg c77).symm
  have c9_2n := mt (nI_eq (a := kd) (b := 2) (by omega) (by decide)).mpr c9_2
  by_cases c9_3 : nI kd = 3
  · refine x_reS c9_3 ?_
    have c9_3n := (nI_eq (a := kd) (b := 3) (by omega) (by decide)).mp c9_3
    refine x_tabIn (off := 95) 104 dX9_fancied_9 (by decide) (by decide) rfl (by decide) ?_
    refine x_iconst 1 dX9_fancied_104 (by decide) ?_
    rw [← hQ]
    refine x_iret dX9_fancied_105 rfl (Nat.le_of_ble_eq_true rfl) (Nat.le_of_ble_eq_true rfl) ?_
    exact ⟨by simp [lkN, c9_3n] <;> rfl, rfl⟩
  have c9_3n := mt (nI_eq (a := kd) (b := 3) (by omega) (by decide)).mpr c9_3
  by_cases c9_4 : nI kd = 4
  · refine x_reS c9_4 ?_
    have c9_4n := (nI_eq (a := kd) (b := 4) (by omega) (by decide)).mp c9_4
    refine x_tabIn (off := 97) 106 dX9_fancied_9 (by decide) (by decide) rfl (by decide) ?_
    refine x_iload dX9_fancied_106 rfl ?_
    refine x_iconst 3 dX9_fancied_108 (by decide) ?_
    refine x_aload_n dX9_fancied_109 rfl ?_
    refine x_iload dX9_fancied_110 rfl ?_
    refine x_aload_n dX9_fancied_112 rfl ?_
    refine x_cVi0 dX9_fancied_113 ml_X9_129 mX9_latest (ct_X9_latest κ.2.1 g aN aNs aNk aNf aNr aNp aNb aNa aNt aNbo aNsz aNnu aNl aNal aNlo aNw aNtr aNis aNbg aNow nts nta nop npr nac nkp nbd ntp nnw nsn nwn gr wk lk sz br z ru ki ma bb hd ce L (hwk) (hlat)) [0, 1] rfl rfl 0 rfl rfl rfl (Nat.le_of_ble_eq_true rfl) (by decide) (Nat.le_refl _) (Nat.le_refl _) ?_
    refine x_iand dX9_fancied_116 ?_
    refine x_rei (nI ((rowB p) &&& L)) (nI_iand (rowB p) L) ?_
    refine x_cVi0 dX9_fancied_117 ml_X9_132 mX9_ones (ct_X9_ones κ.2.1 g aN aNs aNk aNf aNr aNp aNb aNa aNt aNbo aNsz aNnu aNl aNal aNlo aNw aNtr aNis aNbg aNow nts nta nop npr nac nkp nbd ntp nnw nsn nwn ((rowB p) &&& L) (by first | exact and_lt (by decide) | exact and_ltl (rowB_lt _) | exact rowB_lt _ | omega)) [0, 3] rfl rfl 0 rfl rfl rfl (Nat.le_of_ble_eq_true rfl) (by decide) (Nat.le_refl _) (Nat.le_refl _) ?_
    refine x_imul dX9_fancied_120 ?_
    refine x_rei (nI (3 * (popN ((rowB p) &&& L)))) (nI_imul 3 (popN ((rowB p) &&& L))) ?_
    refine x_iadd dX9_fancied_121 ?_
    refine x_rei (nI (sd + (3 * (popN ((rowB p) &&& L))))) (nI_iadd sd (3 * (popN ((rowB p) &&& L)))) ?_
    rw [← hQ]
    refine x_iret dX9_fancied_122 rfl (Nat.le_of_ble_eq_true rfl) (Nat.le_of_ble_eq_true rfl) ?_
    exact ⟨by simp [lkN, c9_4n] <;> rfl, rfl⟩
  have c9_4n := mt (nI_eq (a := kd) (b := 4) (by omega) (by decide)).mpr c9_4
  by_cases c9_5 : nI kd = 5
  · refine x_reS c9_5 ?_
    have c9_5n := (nI_eq (a := kd) (b := 5) (by omega) (by decide)).mp c9_5
    refine x_tabIn (off := 114) 123 dX9_fancied_9 (by decide) (by decide) rfl (by decide) ?_
    refine x_iload dX9_fancied_123 rfl ?_
    refine x_iconst 2 dX9_fancied_125 (by decide) ?_
    refine x_aload_n dX9_fancied_126 rfl ?_
    refine x_iload dX9_fancied_127 rfl ?_
    refine x_bipush 63 dX9_fancied_129 (by decide) ?_
    refine x_iand dX9_fancied_131 ?_
    refine x_rei (nI ((rowB p) &&& 63)) (nI_iand (rowB p) 63) ?_
    refine x_cVi0 dX9_fancied_132 ml_X9_132 mX9_ones (ct_X9_ones κ.2.1 g aN aNs aNk aNf aNr aNp aNb aNa aNt aNbo aNsz aNnu aNl aNal aNlo aNw aNtr aNis aNbg aNow nts nta nop npr nac nkp nbd ntp nnw nsn nwn ((rowB p) &&& 63) (by first | exact and_lt (by decide) | exact and_ltl (rowB_lt _) | exact rowB_lt _ | omega)) [0, 3] rfl rfl 0 rfl rfl rfl (Nat.le_of_ble_eq_true rfl) (by decide) (Nat.le_refl _) (Nat.le_refl _) ?_
    refine x_imul dX9_fancied_135 ?_
    refine x_rei (nI (2 * (popN ((rowB p) &&& 63)))) (nI_imul 2 (popN ((rowB p) &&& 63))) ?_
    refine x_iadd dX9_fancied_136 ?_
    refine x_rei (nI (sd + (2 * (popN ((rowB p) &&& 63))))) (nI_iadd sd (2 * (popN ((rowB p) &&& 63)))) ?_
    refine x_iload dX9_fancied_137 rfl ?_
    refine x_bipush 7 dX9_fancied_139 (by decide) ?_
    refine x_cSi dX9_fancied_141 ml_X9_83 mX9_has (ct_X9_has κ.2.1 g (rowB p) 7 (by omega)) rfl (Nat.le_of_ble_eq_true rfl) (by decide) (Nat.le_refl _) (Nat.le_refl _) ?_
    have J144_6 : ∀ (v5 : Int32), v5 = (if (nI (bitN (rowB p) 7)) = 0 then 1 else 2) → Xs κ g 3 0 0 cX9_fancied yX9_fancied (some .int) Q 0 0 152 [some (.ref aN), some (.int (nI kd)), some (.int (nI mn)), some (.int (nI p)), some (.int (nI sd)), some (.int (nI (rowB p)))] [.int v5, .int (nI (sd + (2 * (popN ((rowB p) &&& 63)))))] [(aN, .inr (9, [.ref aNs, .ref aNk, .int nkp, .ref aNf, .ref aNr, .ref aNp, .ref aNb, .ref aNa, .ref aNt, .int (nI nts), .ref aNbo, .ref aNsz, .ref aNnu, .int (nI nta), .int (nI nop), .int nbd, .int ntp, .int (nI npr), .int nnw, .int nsn, .int nwn, .ref aNl, .ref aNal, .ref aNlo, .int (nI nac), .ref aNw, .ref aNtr, .ref aNis, .ref aNbg, .ref aNow])), (aNs, .inl (g.2.1 0, 919, .inl (msF gr wk z lk sz br ru ki ma bb ce hd))), (aNr, .inl (g.2.1 0, 495, .inl (nIf rowB))), (aNb, .inl (g.2.1 0, 4096, .inl (nIf popN)))] := by
      intro v5 ev5
      refine x_rei (nI (if rowB p &&& 128 = 0 then 1 else 2)) (by simp only [ev5, bitI0, bit7 (rowB_lt p)]; split <;> rfl) ?_
      refine x_imul dX9_fancied_152 ?_
      refine x_rei (nI ((sd + (2 * (popN ((rowB p) &&& 63)))) * (if rowB p &&& 128 = 0 then 1 else 2))) (nI_imul (sd + (2 * (popN ((rowB p) &&& 63)))) (if rowB p &&& 128 = 0 then 1 else 2)) ?_
      rw [← hQ]
      refine x_iret dX9_fancied_153 rfl (Nat.le_of_ble_eq_true rfl) (Nat.le_of_ble_eq_true rfl) ?_
      exact ⟨by simp [lkN, c9_5n] <;> rfl, rfl⟩
    refine x_if_eq dX9_fancied_144 (fun c144 => ?_) (fun c144 => ?_)
    · have c144 : (nI (bitN (rowB p) 7)) = 0 := c144
      refine x_iconst 1 dX9_fancied_151 (by decide) ?_
      exact J144_6 _ (if_pos c144).symm
    · have c144 : ¬ ((nI (bitN (rowB p) 7)) = 0) := c144
      refine x_iconst 2 dX9_fancied_147 (by decide) ?_
      refine x_goto dX9_fancied_148 ?_
      exact J144_6 _ (if_neg c144).symm
  have c9_5n := mt (nI_eq (a := kd) (b := 5) (by omega) (by decide)).mpr c9_5
  by_cases c9_6 : nI kd = 6
  · refine x_reS c9_6 ?_
    have c9_6n := (nI_eq (a := kd) (b := 6) (by omega) (by decide)).mp c9_6
    refine x_tabIn (off := 145) 154 dX9_fancied_9 (by decide) (by decide) rfl (by decide) ?_
    refine x_iconst 1 dX9_fancied_154 (by decide) ?_
    refine x_aload_n dX9_fancied_155 rfl ?_
    refine x_iload dX9_fancied_156 rfl ?_
    refine x_sipush 3840 dX9_fancied_158 (by decide) ?_
    refine x_iand dX9_fancied_161 ?_
    refine x_rei (nI ((rowB p) &&& 3840)) (nI_iand (rowB p) 3840) ?_
    refine x_cVi0 dX9_fancied_162 ml_X9_132 mX9_ones (ct_X9_ones κ.2.1 g aN aNs aNk aNf aNr aNp aNb aNa aNt aNbo aNsz aNnu aNl aNal aNlo aNw aNtr aNis aNbg aNow nts nta nop npr nac nkp nbd ntp nnw nsn nwn ((rowB p) &&& 3840) (by first | exact and_lt (by decide) | exact and_ltl (rowB_lt _) | exact rowB_lt _ | omega)) [0, 3] rfl rfl 0 rfl rfl rfl (Nat.le_of_ble_eq_true rfl) (by decide) (Nat.le_refl _) (Nat.le_refl _) ?_
    refine x_iadd dX9_fancied_165 ?_
    refine x_rei (nI (1 + (popN ((rowB p) &&& 3840)))) (nI_iadd 1 (popN ((rowB p) &&& 3840))) ?_
    rw [← hQ]
    refine x_iret dX9_fancied_166 rfl (Nat.le_of_ble_eq_true rfl) (Nat.le_of_ble_eq_true rfl) ?_
    exact ⟨by simp [lkN, c9_6n] <;> rfl, rfl⟩
  have c9_6n := mt (nI_eq (a := kd) (b := 6) (by omega) (by decide)).mpr c9_6
  refine x_tabD 167 dX9_fancied_9 (by decide) (fun t ht => match t, ht with | 0, _ => Or.inr (xtne c9_0 (by decide)) | 1, _ => Or.inr (xtne c9_1 (by decide)) | 2, _ => Or.inr (xtne c9_2 (by decide)) | 3, _ => Or.inr (xtne c9_3 (by decide)) | 4, _ => Or.inr (xtne c9_4 (by decide)) | 5, _ => Or.inr (xtne c9_5 (by decide)) | 6, _ => Or.inr (xtne c9_6 (by decide)) | t + 7, ht => absurd ht (by simp)) (by decide) ?_
  refine x_iload_n dX9_fancied_167 rfl ?_
  refine x_iload_n dX9_fancied_168 rfl ?_
  have J169_8 : ∀ (v7 : Nat), v7 = (if (nI mn) ≤ (nI p) then 0 else 1 + (popN ((rowB p) &&& 3840))) → Xs κ g 3 0 0 cX9_fancied yX9_fancied (some .int) Q 0 0 188 [some (.ref aN), some (.int (nI kd)), some (.int (nI mn)), some (.int (nI p)), some (.int (nI sd)), some (.int (nI (rowB p)))] [.int (nI v7)] [(aN, .inr (9, [.ref aNs, .ref aNk, .int nkp, .ref aNf, .ref aNr, .ref aNp, .ref aNb, .ref aNa, .ref aNt, .int (nI nts), .ref aNbo, .ref aNsz, .ref aNnu, .int (nI nta), .int (nI nop), .int nbd, .int ntp, .int (nI npr), .int nnw, .int nsn, .int nwn, .ref aNl, .ref aNal, .ref aNlo, .int (nI nac), .ref aNw, .ref aNtr, .ref aNis, .ref aNbg, .ref aNow])), (aNs, .inl (g.2.1 0, 919, .inl (msF gr wk z lk sz br ru ki ma bb ce hd))), (aNr, .inl (g.2.1 0, 495, .inl (nIf rowB))), (aNb, .inl (g.2.1 0, 4096, .inl (nIf popN)))] := by
    intro v7 ev7
    rw [← hQ]
    refine x_iret dX9_fancied_188 rfl (Nat.le_of_ble_eq_true rfl) (Nat.le_of_ble_eq_true rfl) ?_
    exact ⟨by simp only [ev7, nI_leI (show mn < 2 ^ 31 by omega) (show p < 2 ^ 31 by omega)]; simp [lkN, c9_0n, c9_1n, c9_2n, c9_3n, c9_4n, c9_5n, c9_6n], rfl⟩
  refine x_icmp_ge dX9_fancied_169 (fun c169 => ?_) (fun c169 => ?_)
  · have c169 : (nI mn) ≤ (nI p) := c169
    have c169n := (nI_leI (a := mn) (b := p) (by omega) (by omega)).mp c169
    refine x_iconst 0 dX9_fancied_187 (by decide) ?_
    exact J169_8 0 (if_pos c169).symm
  · have c169 : ¬ ((nI mn) ≤ (nI p)) := c169
    have c169n := mt (nI_leI (a := mn) (b := p) (by omega) (by omega)).mpr c169
    refine x_iconst 1 dX9_fancied_172 (by decide) ?_
    refine x_aload_n dX9_fancied_173 rfl ?_
    refine x_iload dX9_fancied_174 rfl ?_
    refine x_sipush 3840 dX9_fancied_176 (by decide) ?_
    refine x_iand dX9_fancied_179 ?_
    refine x_rei (nI ((rowB p) &&& 3840)) (nI_iand (rowB p) 3840) ?_
    refine x_cVi0 dX9_fancied_180 ml_X9_132 mX9_ones (ct_X9_ones κ.2.1 g aN aNs aNk aNf aNr aNp aNb aNa aNt aNbo aNsz aNnu aNl aNal aNlo aNw aNtr aNis aNbg aNow nts nta nop npr nac nkp nbd ntp nnw nsn nwn ((rowB p) &&& 3840) (by first | exact and_lt (by decide) | exact and_ltl (rowB_lt _) | exact rowB_lt _ | omega)) [0, 3] rfl rfl 0 rfl rfl rfl (Nat.le_of_ble_eq_true rfl) (by decide) (Nat.le_refl _) (Nat.le_refl _) ?_
    refine x_iadd dX9_fancied_183 ?_
    refine x_rei (nI (1 + (popN ((rowB p) &&& 3840)))) (nI_iadd 1 (popN ((rowB p) &&& 3840))) ?_
    refine x_goto dX9_fancied_184 ?_
    exact J169_8 (1 + (popN ((rowB p) &&& 3840))) (if_neg c169).symm

-- == X9_likesBy ==
theorem dX9_likesBy_0 : xd cX9_likesBy 0 (.aload_n 0) 1 1 := ⟨by decide +kernel, rfl⟩
theorem dX9_likesBy_1 : xd cX9_likesBy 1 (.aload_n 0) 1 2 := ⟨by decide +kernel, rfl⟩
theorem dX9_likesBy_2 : xd cX9_likesBy 2 (.getfield 7) 3 5 := ⟨by decide +kernel, rfl⟩
theorem dX9_likesBy_5 : xd cX9_likesBy 5 (.bipush 20) 2 7 := ⟨by decide +kernel, rfl⟩
theorem dX9_likesBy_7 : xd cX9_likesBy 7 (.iload_n 1) 1 8 := ⟨by decide +kernel, rfl⟩
theorem dX9_likesBy_8 : xd cX9_likesBy 8 .iadd 1 9 := ⟨by decide +kernel, rfl⟩
theorem dX9_likesBy_9 : xd cX9_likesBy 9 .iaload 1 10 := ⟨by decide +kernel, rfl⟩
theorem dX9_likesBy_10 : xd cX9_likesBy 10 (.aload_n 0) 1 11 := ⟨by decide +kernel, rfl⟩
theorem dX9_likesBy_11 : xd cX9_likesBy 11 (.getfield 7) 3 14 := ⟨by decide +kernel, rfl⟩
theorem dX9_likesBy_14 : xd cX9_likesBy 14 (.bipush 32) 2 16 := ⟨by decide +kernel, rfl⟩
theorem dX9_likesBy_16 : xd cX9_likesBy 16 (.iload_n 1) 1 17 := ⟨by decide +kernel, rfl⟩
theorem dX9_likesBy_17 : xd cX9_likesBy 17 .iadd 1 18 := ⟨by decide +kernel, rfl⟩
theorem dX9_likesBy_18 : xd cX9_likesBy 18 .iaload 1 19 := ⟨by decide +kernel, rfl⟩
theorem dX9_likesBy_19 : xd cX9_likesBy 19 (.iload_n 2) 1 20 := ⟨by decide +kernel, rfl⟩
theorem dX9_likesBy_20 : xd cX9_likesBy 20 (.aload_n 0) 1 21 := ⟨by decide +kernel, rfl⟩
theorem dX9_likesBy_21 : xd cX9_likesBy 21 (.getfield 54) 3 24 := ⟨by decide +kernel, rfl⟩
theorem dX9_likesBy_24 : xd cX9_likesBy 24 (.iload_n 2) 1 25 := ⟨by decide +kernel, rfl⟩
theorem dX9_likesBy_25 : xd cX9_likesBy 25 .iaload 1 26 := ⟨by decide +kernel, rfl⟩
theorem dX9_likesBy_26 : xd cX9_likesBy 26 (.invokevirtual 184) 3 29 := ⟨by decide +kernel, rfl⟩
theorem dX9_likesBy_29 : xd cX9_likesBy 29 .ireturn 1 30 := ⟨by decide +kernel, rfl⟩

set_option maxRecDepth 100000 in
set_option maxHeartbeats 4000000 in
theorem ct_X9_likesBy (l : Launch) (g : XG) (aN aNs aNk aNf aNr aNp aNb aNa aNt aNbo aNsz aNnu aNl aNal aNlo aNw aNtr aNis aNbg aNow nts nta nop npr nac : Nat) (nkp nbd ntp nnw nsn nwn : Int32) (gr wk lk sz br : Nat) (z : Int32) (ru ki ma bb hd : Nat → Nat) (ce : Nat → Int32) (L p q : Nat) (nli : Nat → Nat) (hq : q < 12) (hki : ∀ j, ki j ≤ 7) (hma : ∀ j, ma j ≤ 99999) (hp : p < 495) (hwk : wk ≤ 40) (hlat : latI ce wk = nI L) (hL : L < 4096) : Ct l g 4 0 0 yX9_likesBy cX9_likesBy 3 (some .int) [.ref aN, .int (nI q), .int (nI p)] [(aN, .inr (9, [.ref aNs, .ref aNk, .int nkp, .ref aNf, .ref aNr, .ref aNp, .ref aNb, .ref aNa, .ref aNt, .int (nI nts), .ref aNbo, .ref aNsz, .ref aNnu, .int (nI nta), .int (nI nop), .int nbd, .int ntp, .int (nI npr), .int nnw, .int nsn, .int nwn, .ref aNl, .ref aNal, .ref aNlo, .int (nI nac), .ref aNw, .ref aNtr, .ref aNis, .ref aNbg, .ref aNow])), (aNs, .inl (g.2.1 0, 919, .inl (msF gr wk z lk sz br ru ki ma bb ce hd))), (aNr, .inl (g.2.1 0, 495, .inl (nIf rowB))), (aNb, .inl (g.2.1 0, 4096, .inl (nIf popN))), (aNl, .inl (g.2.1 0, 495, .inl (nIf nli)))] (xpi (nI (lkN (ki q) (ma q) p L (nli p))) [(aN, .inr (9, [.ref aNs, .ref aNk, .int nkp, .ref aNf, .ref aNr, .ref aNp, .ref aNb, .ref aNa, .ref aNt, .int (nI nts), .ref aNbo, .ref aNsz, .ref aNnu, .int (nI nta), .int (nI nop), .int nbd, .int ntp, .int (nI npr), .int nnw, .int nsn, .int nwn, .ref aNl, .ref aNal, .ref aNlo, .int (nI nac), .ref aNw, .ref aNtr, .ref aNis, .ref aNbg, .ref aNow])), (aNs, .inl (g.2.1 0, 919, .inl (msF gr wk z lk sz br ru ki ma bb ce hd))), (aNr, .inl (g.2.1 0, 495, .inl (nIf rowB))), (aNb, .inl (g.2.1 0, 4096, .inl (nIf popN))), (aNl, .inl (g.2.1 0, 495, .inl (nIf nli)))]) := by
  refine Ct.ofX (lv := [some (.ref aN), some (.int (nI q)), some (.int (nI p))]) (by decide) rfl (Nat.le_of_ble_eq_true rfl) (fun κ => ?_)
  generalize hQ : xQ κ g 0 0 _ = Q
  refine x_aload_n dX9_likesBy_0 rfl ?_
  refine x_aload_n dX9_likesBy_1 rfl ?_
  refine x_get dX9_likesBy_2 0 0 inX9 fl_X9_7 rfl rfl (by decide) rfl ?_
  refine x_bipush 20 dX9_likesBy_5 (by decide) ?_
  refine x_iload_n dX9_likesBy_7 rfl ?_
  refine x_iadd dX9_likesBy_8 ?_
  refine x_rei (nI (20 + q)) (nI_iadd 20 q) ?_
  refine x_iald dX9_likesBy_9 1 (20 + q) rfl (rfl) (by omega) (by decide) ?_
  refine x_rei (nI (ki q)) (msg_ki (x := q) (by omega) (by omega)) ?_
  refine x_aload_n dX9_likesBy_10 rfl ?_
  refine x_get dX9_likesBy_11 0 0 inX9 fl_X9_7 rfl rfl (by decide) rfl ?_
  refine x_bipush 32 dX9_likesBy_14 (by decide) ?_
  refine x_iload_n dX9_likesBy_16 rfl ?_
  refine x_iadd dX9_likesBy_17 ?_
  refine x_rei (nI (32 + q)) (nI_iadd 32 q) ?_
  refine x_iald dX9_likesBy_18 1 (32 + q) rfl (rfl) (by omega) (by decide) ?_
  refine x_rei (nI (ma q)) (msg_ma (x := q) (by omega) (by omega)) ?_
  refine x_iload_n dX9_likesBy_19 rfl ?_
  refine x_aload_n dX9_likesBy_20 rfl ?_
  refine x_get dX9_likesBy_21 0 21 inX9 fl_X9_54 rfl rfl (by decide) rfl ?_
  refine x_iload_n dX9_likesBy_24 rfl ?_
  refine x_iald dX9_likesBy_25 4 p rfl (rfl) (by omega) (by decide) ?_
  refine x_cVi0 dX9_likesBy_26 ml_X9_184 mX9_fancied (ct_X9_fancied κ.2.1 g aN aNs aNk aNf aNr aNp aNb aNa aNt aNbo aNsz aNnu aNl aNal aNlo aNw aNtr aNis aNbg aNow nts nta nop npr nac nkp nbd ntp nnw nsn nwn gr wk lk sz br z ru ki ma bb hd ce L p (ki q) (ma q) (nli p) (by have := hki q; omega) (hma q) (hp) (hwk) (hlat) (hL)) [0, 1, 2, 3] rfl rfl 0 rfl rfl rfl (Nat.le_of_ble_eq_true rfl) (by decide) (Nat.le_refl _) (Nat.le_refl _) ?_
  rw [← hQ]
  refine x_iret dX9_likesBy_29 rfl (Nat.le_of_ble_eq_true rfl) (Nat.le_of_ble_eq_true rfl) ?_
  exact ⟨rfl, rfl⟩

-- == X9_crossedBy ==
theorem dX9_crossedBy_0 : xd cX9_crossedBy 0 (.aload_n 0) 1 1 := ⟨by decide +kernel, rfl⟩
theorem dX9_crossedBy_1 : xd cX9_crossedBy 1 (.getfield 60) 3 4 := ⟨by decide +kernel, rfl⟩
theorem dX9_crossedBy_4 : xd cX9_crossedBy 4 (.iload_n 1) 1 5 := ⟨by decide +kernel, rfl⟩
theorem dX9_crossedBy_5 : xd cX9_crossedBy 5 .iaload 1 6 := ⟨by decide +kernel, rfl⟩
theorem dX9_crossedBy_6 : xj cX9_crossedBy 6 (.ifCond .ne) 9 13 := ⟨7, by decide +kernel, rfl, by decide⟩
theorem dX9_crossedBy_9 : xd cX9_crossedBy 9 (.iconst 0) 1 10 := ⟨by decide +kernel, rfl⟩
theorem dX9_crossedBy_10 : xj cX9_crossedBy 10 .goto 13 36 := ⟨26, by decide +kernel, rfl, by decide⟩
theorem dX9_crossedBy_13 : xd cX9_crossedBy 13 (.aload_n 0) 1 14 := ⟨by decide +kernel, rfl⟩
theorem dX9_crossedBy_14 : xd cX9_crossedBy 14 (.getfield 7) 3 17 := ⟨by decide +kernel, rfl⟩
theorem dX9_crossedBy_17 : xd cX9_crossedBy 17 (.bipush 32) 2 19 := ⟨by decide +kernel, rfl⟩
theorem dX9_crossedBy_19 : xd cX9_crossedBy 19 (.iload_n 1) 1 20 := ⟨by decide +kernel, rfl⟩
theorem dX9_crossedBy_20 : xd cX9_crossedBy 20 .iadd 1 21 := ⟨by decide +kernel, rfl⟩
theorem dX9_crossedBy_21 : xd cX9_crossedBy 21 .iaload 1 22 := ⟨by decide +kernel, rfl⟩
theorem dX9_crossedBy_22 : xd cX9_crossedBy 22 (.aload_n 0) 1 23 := ⟨by decide +kernel, rfl⟩
theorem dX9_crossedBy_23 : xd cX9_crossedBy 23 (.iload_n 1) 1 24 := ⟨by decide +kernel, rfl⟩
theorem dX9_crossedBy_24 : xd cX9_crossedBy 24 (.iload_n 2) 1 25 := ⟨by decide +kernel, rfl⟩
theorem dX9_crossedBy_25 : xd cX9_crossedBy 25 (.invokevirtual 188) 3 28 := ⟨by decide +kernel, rfl⟩
theorem dX9_crossedBy_28 : xd cX9_crossedBy 28 .imul 1 29 := ⟨by decide +kernel, rfl⟩
theorem dX9_crossedBy_29 : xd cX9_crossedBy 29 (.aload_n 0) 1 30 := ⟨by decide +kernel, rfl⟩
theorem dX9_crossedBy_30 : xd cX9_crossedBy 30 (.getfield 60) 3 33 := ⟨by decide +kernel, rfl⟩
theorem dX9_crossedBy_33 : xd cX9_crossedBy 33 (.iload_n 1) 1 34 := ⟨by decide +kernel, rfl⟩
theorem dX9_crossedBy_34 : xd cX9_crossedBy 34 .iaload 1 35 := ⟨by decide +kernel, rfl⟩
theorem dX9_crossedBy_35 : xd cX9_crossedBy 35 .idiv 1 36 := ⟨by decide +kernel, rfl⟩
theorem dX9_crossedBy_36 : xd cX9_crossedBy 36 .ireturn 1 37 := ⟨by decide +kernel, rfl⟩

set_option maxRecDepth 100000 in
set_option maxHeartbeats 4000000 in
theorem ct_X9_crossedBy (l : Launch) (g : XG) (aN aNs aNk aNf aNr aNp aNb aNa aNt aNbo aNsz aNnu aNl aNal aNlo aNw aNtr aNis aNbg aNow nts nta nop npr nac : Nat) (nkp nbd ntp nnw nsn nwn : Int32) (gr wk lk sz br : Nat) (z : Int32) (ru ki ma bb hd : Nat → Nat) (ce : Nat → Int32) (L p q : Nat) (nli nlo : Nat → Nat) (hq : q < 12) (hki : ∀ j, ki j ≤ 7) (hma : ∀ j, ma j ≤ 99999) (hp : p < 495) (hwk : wk ≤ 40) (hlat : latI ce wk = nI L) (hL : L < 4096) (hsd : ∀ p, nli p ≤ 99) (hlo : nlo q = laN (ki q) (ma q) L nli) : Ct l g 5 0 0 yX9_crossedBy cX9_crossedBy 3 (some .int) [.ref aN, .int (nI q), .int (nI p)] [(aN, .inr (9, [.ref aNs, .ref aNk, .int nkp, .ref aNf, .ref aNr, .ref aNp, .ref aNb, .ref aNa, .ref aNt, .int (nI nts), .ref aNbo, .ref aNsz, .ref aNnu, .int (nI nta), .int (nI nop), .int nbd, .int ntp, .int (nI npr), .int nnw, .int nsn, .int nwn, .ref aNl, .ref aNal, .ref aNlo, .int (nI nac), .ref aNw, .ref aNtr, .ref aNis, .ref aNbg, .ref aNow])), (aNs, .inl (g.2.1 0, 919, .inl (msF gr wk z lk sz br ru ki ma bb ce hd))), (aNr, .inl (g.2.1 0, 495, .inl (nIf rowB))), (aNb, .inl (g.2.1 0, 4096, .inl (nIf popN))), (aNl, .inl (g.2.1 0, 495, .inl (nIf nli))), (aNlo, .inl (g.2.1 0, 12, .inl (nIf nlo)))] (xpi (nI (shN (ki q) (ma q) p L nli)) [(aN, .inr (9, [.ref aNs, .ref aNk, .int nkp, .ref aNf, .ref aNr, .ref aNp, .ref aNb, .ref aNa, .ref aNt, .int (nI nts), .ref aNbo, .ref aNsz, .ref aNnu, .int (nI nta), .int (nI nop), .int nbd, .int ntp, .int (nI npr), .int nnw, .int nsn, .int nwn, .ref aNl, .ref aNal, .ref aNlo, .int (nI nac), .ref aNw, .ref aNtr, .ref aNis, .ref aNbg, .ref aNow])), (aNs, .inl (g.2.1 0, 919, .inl (msF gr wk z lk sz br ru ki ma bb ce hd))), (aNr, .inl (g.2.1 0, 495, .inl (nIf rowB))), (aNb, .inl (g.2.1 0, 4096, .inl (nIf popN))), (aNl, .inl (g.2.1 0, 495, .inl (nIf nli))), (aNlo, .inl (g.2.1 0, 12, .inl (nIf nlo)))]) := by
  refine Ct.ofX (lv := [some (.ref aN), some (.int (nI q)), some (.int (nI p))]) (by decide) rfl (Nat.le_of_ble_eq_true rfl) (fun κ => ?_)
  generalize hQ : xQ κ g 0 0 _ = Q
  have hla := laN_le (kd := ki q) (mn := ma q) (lat := L) hsd
  have hlk := lkN_le (kd := ki q) (mn := ma q) (p := p) (lat := L) (hsd p)
  have hmq := hma q
  refine x_aload_n dX9_crossedBy_0 rfl ?_
  refine x_get dX9_crossedBy_1 0 23 inX9 fl_X9_60 rfl rfl (by decide) rfl ?_
  refine x_iload_n dX9_crossedBy_4 rfl ?_
  refine x_iald dX9_crossedBy_5 5 q rfl (rfl) (by omega) (by decide) ?_
  refine x_if_ne dX9_crossedBy_6 (fun c6 => ?_) (fun c6 => ?_)
  · have c6 : ¬ ((nI (nlo q)) = 0) := c6
    have c6n := mt (nI_eq (a := (nlo q)) (b := 0) (by omega) (by omega)).mpr c6
    refine x_aload_n dX9_crossedBy_13 rfl ?_
    refine x_get dX9_crossedBy_14 0 0 inX9 fl_X9_7 rfl rfl (by decide) rfl ?_
    refine x_bipush 32 dX9_crossedBy_17 (by decide) ?_
    refine x_iload_n dX9_crossedBy_19 rfl ?_
    refine x_iadd dX9_crossedBy_20 ?_
    refine x_rei (nI (32 + q)) (nI_iadd 32 q) ?_
    refine x_iald dX9_crossedBy_21 1 (32 + q) rfl (rfl) (by omega) (by decide) ?_
    refine x_rei (nI (ma q)) (msg_ma (x := q) (by omega) (by omega)) ?_
    refine x_aload_n dX9_crossedBy_22 rfl ?_
    refine x_iload_n dX9_crossedBy_23 rfl ?_
    refine x_iload_n dX9_crossedBy_24 rfl ?_
    refine x_cVi0 dX9_crossedBy_25 ml_X9_188 mX9_likesBy (ct_X9_likesBy κ.2.1 g aN aNs aNk aNf aNr aNp aNb aNa aNt aNbo aNsz aNnu aNl aNal aNlo aNw aNtr aNis aNbg aNow nts nta nop npr nac nkp nbd ntp nnw nsn nwn gr wk lk sz br z ru ki ma bb hd ce L p q nli (hq) (hki) (hma) (hp) (hwk) (hlat) (hL)) [0, 1, 2, 3, 4] rfl rfl 0 rfl rfl rfl (Nat.le_of_ble_eq_true rfl) (by decide) (Nat.le_refl _) (Nat.le_refl _) ?_
    refine x_imul dX9_crossedBy_28 ?_
    refine x_rei (nI ((ma q) * (lkN (ki q) (ma q) p L (nli p)))) (nI_imul (ma q) (lkN (ki q) (ma q) p L (nli p))) ?_
    refine x_aload_n dX9_crossedBy_29 rfl ?_
    refine x_get dX9_crossedBy_30 0 23 inX9 fl_X9_60 rfl rfl (by decide) rfl ?_
    refine x_iload_n dX9_crossedBy_33 rfl ?_
    refine x_iald dX9_crossedBy_34 5 q rfl (rfl) (by omega) (by decide) ?_
    refine x_idiv dX9_crossedBy_35 (nI_ne0 (by omega) (by omega)) ?_
    refine x_rei (nI (ma q * lkN (ki q) (ma q) p L (nli p) / nlo q)) (nI_idiv (mulb hmq hlk) (by omega)) ?_
    rw [← hQ]
    refine x_iret dX9_crossedBy_36 rfl (Nat.le_of_ble_eq_true rfl) (Nat.le_of_ble_eq_true rfl) ?_
    exact ⟨by rw [shN]; first | (rw [if_pos (by omega)] <;> rfl) | (rw [if_neg (by omega), hlo] <;> rfl), rfl⟩
  · have c6 : (nI (nlo q)) = 0 := c6
    have c6n := (nI_eq (a := (nlo q)) (b := 0) (by omega) (by omega)).mp c6
    refine x_iconst 0 dX9_crossedBy_9 (by decide) ?_
    refine x_goto dX9_crossedBy_10 ?_
    rw [← hQ]
    refine x_iret dX9_crossedBy_36 rfl (Nat.le_of_ble_eq_true rfl) (Nat.le_of_ble_eq_true rfl) ?_
    exact ⟨by rw [shN]; first | (rw [if_pos (by omega)] <;> rfl) | (rw [if_neg (by omega), hlo] <;> rfl), rfl⟩

-- == X9_says ==
theorem dX9_says_0 : xd cX9_says 0 (.aload_n 0) 1 1 := ⟨by decide +kernel, rfl⟩
theorem dX9_says_1 : xd cX9_says 1 (.iload_n 1) 1 2 := ⟨by decide +kernel, rfl⟩
theorem dX9_says_2 : xd cX9_says 2 (.putfield 126) 3 5 := ⟨by decide +kernel, rfl⟩
theorem dX9_says_5 : xd cX9_says 5 (.aload_n 0) 1 6 := ⟨by decide +kernel, rfl⟩
theorem dX9_says_6 : xd cX9_says 6 (.iconst 0) 1 7 := ⟨by decide +kernel, rfl⟩
theorem dX9_says_7 : xd cX9_says 7 (.putfield 119) 3 10 := ⟨by decide +kernel, rfl⟩
theorem dX9_says_10 : xd cX9_says 10 (.aload_n 0) 1 11 := ⟨by decide +kernel, rfl⟩
theorem dX9_says_11 : xd cX9_says 11 (.iconst 0) 1 12 := ⟨by decide +kernel, rfl⟩
theorem dX9_says_12 : xd cX9_says 12 (.putfield 148) 3 15 := ⟨by decide +kernel, rfl⟩
theorem dX9_says_15 : xd cX9_says 15 (.aload_n 0) 1 16 := ⟨by decide +kernel, rfl⟩
theorem dX9_says_16 : xd cX9_says 16 (.iconst 0) 1 17 := ⟨by decide +kernel, rfl⟩
theorem dX9_says_17 : xd cX9_says 17 (.putfield 135) 3 20 := ⟨by decide +kernel, rfl⟩
theorem dX9_says_20 : xd cX9_says 20 (.aload_n 0) 1 21 := ⟨by decide +kernel, rfl⟩
theorem dX9_says_21 : xd cX9_says 21 (.invokevirtual 151) 3 24 := ⟨by decide +kernel, rfl⟩
theorem dX9_says_24 : xd cX9_says 24 (.istore_n 2) 1 25 := ⟨by decide +kernel, rfl⟩
theorem dX9_says_25 : xd cX9_says 25 (.aload_n 0) 1 26 := ⟨by decide +kernel, rfl⟩
theorem dX9_says_26 : xd cX9_says 26 (.aload_n 0) 1 27 := ⟨by decide +kernel, rfl⟩
theorem dX9_says_27 : xd cX9_says 27 (.getfield 135) 3 30 := ⟨by decide +kernel, rfl⟩
theorem dX9_says_30 : xj cX9_says 30 (.ifCond .ne) 33 44 := ⟨14, by decide +kernel, rfl, by decide⟩
theorem dX9_says_33 : xd cX9_says 33 (.aload_n 0) 1 34 := ⟨by decide +kernel, rfl⟩
theorem dX9_says_34 : xd cX9_says 34 (.getfield 119) 3 37 := ⟨by decide +kernel, rfl⟩
theorem dX9_says_37 : xd cX9_says 37 (.aload_n 0) 1 38 := ⟨by decide +kernel, rfl⟩
theorem dX9_says_38 : xd cX9_says 38 (.invokevirtual 122) 3 41 := ⟨by decide +kernel, rfl⟩
theorem dX9_says_41 : xj cX9_says 41 (.if_icmp .ge) 44 48 := ⟨7, by decide +kernel, rfl, by decide⟩
theorem dX9_says_44 : xd cX9_says 44 (.iconst 1) 1 45 := ⟨by decide +kernel, rfl⟩
theorem dX9_says_45 : xj cX9_says 45 .goto 48 49 := ⟨4, by decide +kernel, rfl, by decide⟩
theorem dX9_says_48 : xd cX9_says 48 (.iconst 0) 1 49 := ⟨by decide +kernel, rfl⟩
theorem dX9_says_49 : xd cX9_says 49 (.putfield 135) 3 52 := ⟨by decide +kernel, rfl⟩
theorem dX9_says_52 : xd cX9_says 52 (.iload_n 2) 1 53 := ⟨by decide +kernel, rfl⟩
theorem dX9_says_53 : xd cX9_says 53 .ireturn 1 54 := ⟨by decide +kernel, rfl⟩

set_option maxRecDepth 100000 in
set_option maxHeartbeats 4000000 in
theorem ct_X9_says (l : Launch) (g : XG) (aN aNs aNk aNf aNr aNp aNb aNa aNt aNbo aNsz aNnu aNl aNal aNlo aNw aNtr aNis aNbg aNow nts nta nop npr nac : Nat) (nkp nbd nnw nsn nwn : Int32) (gr wk lk sz br : Nat) (z : Int32) (ru ki ma bb hd : Nat → Nat) (ce : Nat → Int32) (tb : Nat → Nat) (L p : Nat) (hsz : sz ≤ 60) (hbb : ∀ j, bb j < 256) (hp : p < 495) (hwk : wk ≤ 40) (hlat : latI ce wk = nI L) : Ct l g 26 0 0 yX9_says cX9_says 3 (some .int) [.ref aN, .int (nI p)] [(aN, .inr (9, [.ref aNs, .ref aNk, .int nkp, .ref aNf, .ref aNr, .ref aNp, .ref aNb, .ref aNa, .ref aNt, .int (nI nts), .ref aNbo, .ref aNsz, .ref aNnu, .int (nI nta), .int (nI nop), .int nbd, .int 0, .int (nI npr), .int nnw, .int nsn, .int nwn, .ref aNl, .ref aNal, .ref aNlo, .int (nI nac), .ref aNw, .ref aNtr, .ref aNis, .ref aNbg, .ref aNow])), (aNs, .inl (g.2.1 0, 919, .inl (msF gr wk z lk sz br ru ki ma bb ce hd))), (aNt, .inl (g.2.1 0, 60, .inl (nIf tb))), (aNa, .inl (g.2.1 0, 2475, .inl (nIf fcN))), (aNr, .inl (g.2.1 0, 495, .inl (nIf rowB))), (aNb, .inl (g.2.1 0, 4096, .inl (nIf popN)))] (xpi ((srL (hB bb sz) (nmI wk L p) 4 0).2.2) [(aN, .inr (9, [.ref aNs, .ref aNk, .int nkp, .ref aNf, .ref aNr, .ref aNp, .ref aNb, .ref aNa, .ref aNt, .int (nI nts), .ref aNbo, .ref aNsz, .ref aNnu, .int (nI ((srL (hB bb sz) (nmI wk L p) 4 0).1)), .int 0, .int (syI (srL (hB bb sz) (nmI wk L p) 4 0) sz), .int 0, .int (nI p), .int nnw, .int nsn, .int nwn, .ref aNl, .ref aNal, .ref aNlo, .int (nI nac), .ref aNw, .ref aNtr, .ref aNis, .ref aNbg, .ref aNow])), (aNs, .inl (g.2.1 0, 919, .inl (msF gr wk z lk sz br ru ki ma bb ce hd))), (aNt, .inl (g.2.1 0, 60, .inl (nIf tb))), (aNa, .inl (g.2.1 0, 2475, .inl (nIf fcN))), (aNr, .inl (g.2.1 0, 495, .inl (nIf rowB))), (aNb, .inl (g.2.1 0, 4096, .inl (nIf popN)))]) := by
  refine Ct.ofX (lv := [some (.ref aN), some (.int (nI p)), none]) (by decide) rfl (Nat.le_of_ble_eq_true rfl) (fun κ => ?_)
  generalize hQ : xQ κ g 0 0 _ = Q
  refine x_aload_n dX9_says_0 rfl ?_
  refine x_iload_n dX9_says_1 rfl ?_
  refine x_put (ws' := [(aN, .inr (9, [.ref aNs, .ref aNk, .int nkp, .ref aNf, .ref aNr, .ref aNp, .ref aNb, .ref aNa, .ref aNt, .int (nI nts), .ref aNbo, .ref aNsz, .ref aNnu, .int (nI nta), .int (nI nop), .int nbd, .int 0, .int (nI p), .int nnw, .int nsn, .int nwn, .ref aNl, .ref aNal, .ref aNlo, .int (nI nac), .ref aNw, .ref aNtr, .ref aNis, .ref aNbg, .ref aNow])), (aNs, .inl (g.2.1 0, 919, .inl (msF gr wk z lk sz br ru ki ma bb ce hd))), (aNt, .inl (g.2.1 0, 60, .inl (nIf tb))), (aNa, .inl (g.2.1 0, 2475, .inl (nIf fcN))), (aNr, .inl (g.2.1 0, 495, .inl (nIf rowB))), (aNb, .inl (g.2.1 0, 4096, .inl (nIf popN)))]) dX9_says_2 0 17 inX9 tyX9_ok nmX9 fl_X9_126 rfl rfl (by decide) rfl (rfl) rfl (xlt rfl) rfl ?_
  refine x_aload_n dX9_says_5 rfl ?_
  refine x_iconst 0 dX9_says_6 (by decide) ?_
  refine x_put (ws' := [(aN, .inr (9, [.ref aNs, .ref aNk, .int nkp, .ref aNf, .ref aNr, .ref aNp, .ref aNb, .ref aNa, .ref aNt, .int (nI nts), .ref aNbo, .ref aNsz, .ref aNnu, .int 0, .int (nI nop), .int nbd, .int 0, .int (nI p), .int nnw, .int nsn, .int nwn, .ref aNl, .ref aNal, .ref aNlo, .int (nI nac), .ref aNw, .ref aNtr, .ref aNis, .ref aNbg, .ref aNow])), (aNs, .inl (g.2.1 0, 919, .inl (msF gr wk z lk sz br ru ki ma bb ce hd))), (aNt, .inl (g.2.1 0, 60, .inl (nIf tb))), (aNa, .inl (g.2.1 0, 2475, .inl (nIf fcN))), (aNr, .inl (g.2.1 0, 495, .inl (nIf rowB))), (aNb, .inl (g.2.1 0, 4096, .inl (nIf popN)))]) dX9_says_7 0 13 inX9 tyX9_ok nmX9 fl_X9_119 rfl rfl (by decide) rfl (rfl) rfl (xlt rfl) rfl ?_
  refine x_aload_n dX9_says_10 rfl ?_
  refine x_iconst 0 dX9_says_11 (by decide) ?_
  refine x_put (ws' := [(aN, .inr (9, [.ref aNs, .ref aNk, .int nkp, .ref aNf, .ref aNr, .ref aNp, .ref aNb, .ref aNa, .ref aNt, .int (nI nts), .ref aNbo, .ref aNsz, .ref aNnu, .int 0, .int 0, .int nbd, .int 0, .int (nI p), .int nnw, .int nsn, .int nwn, .ref aNl, .ref aNal, .ref aNlo, .int (nI nac), .ref aNw, .ref aNtr, .ref aNis, .ref aNbg, .ref aNow])), (aNs, .inl (g.2.1 0, 919, .inl (msF gr wk z lk sz br ru ki ma bb ce hd))), (aNt, .inl (g.2.1 0, 60, .inl (nIf tb))), (aNa, .inl (g.2.1 0, 2475, .inl (nIf fcN))), (aNr, .inl (g.2.1 0, 495, .inl (nIf rowB))), (aNb, .inl (g.2.1 0, 4096, .inl (nIf popN)))]) dX9_says_12 0 14 inX9 tyX9_ok nmX9 fl_X9_148 rfl rfl (by decide) rfl (rfl) rfl (xlt rfl) rfl ?_
  refine x_aload_n dX9_says_15 rfl ?_
  refine x_iconst 0 dX9_says_16 (by decide) ?_
  refine x_put (ws' := [(aN, .inr (9, [.ref aNs, .ref aNk, .int nkp, .ref aNf, .ref aNr, .ref aNp, .ref aNb, .ref aNa, .ref aNt, .int (nI nts), .ref aNbo, .ref aNsz, .ref aNnu, .int 0, .int 0, .int 0, .int 0, .int (nI p), .int nnw, .int nsn, .int nwn, .ref aNl, .ref aNal, .ref aNlo, .int (nI nac), .ref aNw, .ref aNtr, .ref aNis, .ref aNbg, .ref aNow])), (aNs, .inl (g.2.1 0, 919, .inl (msF gr wk z lk sz br ru ki ma bb ce hd))), (aNt, .inl (g.2.1 0, 60, .inl (nIf tb))), (aNa, .inl (g.2.1 0, 2475, .inl (nIf fcN))), (aNr, .inl (g.2.1 0, 495, .inl (nIf rowB))), (aNb, .inl (g.2.1 0, 4096, .inl (nIf popN)))]) dX9_says_17 0 15 inX9 tyX9_ok nmX9 fl_X9_135 rfl rfl (by decide) rfl (rfl) rfl (xlt rfl) rfl ?_
  refine x_aload_n dX9_says_20 rfl ?_
  refine x_cVi (ws' := [(aN, .inr (9, [.ref aNs, .ref aNk, .int nkp, .ref aNf, .ref aNr, .ref aNp, .ref aNb, .ref aNa, .ref aNt, .int (nI nts), .ref aNbo, .ref aNsz, .ref aNnu, .int (nI ((srL (hB bb sz) (nmI wk L p) 4 0).1)), .int 0, .int (bI (srL (hB bb sz) (nmI wk L p) 4 0).2.1), .int 0, .int (nI p), .int nnw, .int nsn, .int nwn, .ref aNl, .ref aNal, .ref aNlo, .int (nI nac), .ref aNw, .ref aNtr, .ref aNis, .ref aNbg, .ref aNow])), (aNs, .inl (g.2.1 0, 919, .inl (msF gr wk z lk sz br ru ki ma bb ce hd))), (aNt, .inl (g.2.1 0, 60, .inl (nIf tb))), (aNa, .inl (g.2.1 0, 2475, .inl (nIf fcN))), (aNr, .inl (g.2.1 0, 495, .inl (nIf rowB))), (aNb, .inl (g.2.1 0, 4096, .inl (nIf popN)))]) dX9_says_21 ml_X9_151 mX9_sum (ct_sr_4 κ.2.1 g aN aNs aNk aNf aNr aNp aNb aNa aNt aNbo aNsz aNnu aNl aNal aNlo aNw aNtr aNis aNbg aNow nts 0 nac nkp 0 nnw nsn nwn gr wk lk sz br z ru ki ma bb hd ce tb bb sz L p (Or.inr ⟨rfl, rfl, rfl⟩) (Nat.zero_le _) (hsz) (hbb) (hp) (hwk) (hlat)) [0, 1, 2, 3, 4, 5] rfl rfl 0 rfl rfl rfl (Nat.le_of_ble_eq_true rfl) (by decide) (Nat.le_refl _) (Nat.le_refl _) (rfl : [aN, aNs, aNt, aNa, aNr, aNb] = [aN, aNs, aNt, aNa, aNr, aNb]) rfl ?_
  have hk := srL_ok (nv := nmI wk L p) (okH_hB bb sz) 4 0 (Nat.zero_le _)
  refine x_istore_n (lv' := [some (.ref aN), some (.int (nI p)), some (.int ((srL (hB bb sz) (nmI wk L p) 4 0).2.2))]) dX9_says_24 (xlt rfl) rfl ?_
  refine x_aload_n dX9_says_25 rfl ?_
  refine x_aload_n dX9_says_26 rfl ?_
  refine x_get dX9_says_27 0 15 inX9 fl_X9_135 rfl rfl (by decide) rfl ?_
  refine x_if_ne dX9_says_30 (fun c30 => ?_) (fun c30 => ?_)
  · have c30 : ¬ ((bI (srL (hB bb sz) (nmI wk L p) 4 0).2.1) = 0) := c30
    refine x_iconst 1 dX9_says_44 (by decide) ?_
    refine x_goto dX9_says_45 ?_
    refine x_put (ws' := [(aN, .inr (9, [.ref aNs, .ref aNk, .int nkp, .ref aNf, .ref aNr, .ref aNp, .ref aNb, .ref aNa, .ref aNt, .int (nI nts), .ref aNbo, .ref aNsz, .ref aNnu, .int (nI ((srL (hB bb sz) (nmI wk L p) 4 0).1)), .int 0, .int 1, .int 0, .int (nI p), .int nnw, .int nsn, .int nwn, .ref aNl, .ref aNal, .ref aNlo, .int (nI nac), .ref aNw, .ref aNtr, .ref aNis, .ref aNbg, .ref aNow])), (aNs, .inl (g.2.1 0, 919, .inl (msF gr wk z lk sz br ru ki ma bb ce hd))), (aNt, .inl (g.2.1 0, 60, .inl (nIf tb))), (aNa, .inl (g.2.1 0, 2475, .inl (nIf fcN))), (aNr, .inl (g.2.1 0, 495, .inl (nIf rowB))), (aNb, .inl (g.2.1 0, 4096, .inl (nIf popN)))]) dX9_says_49 0 15 inX9 tyX9_ok nmX9 fl_X9_135 rfl rfl (by decide) rfl (rfl) rfl (xlt rfl) rfl ?_
    refine x_iload_n dX9_says_52 rfl ?_
    rw [← hQ]
    refine x_iret dX9_says_53 rfl (Nat.le_of_ble_eq_true rfl) (Nat.le_of_ble_eq_true rfl) ?_
    refine ⟨rfl, ?_⟩
    first | (rw [syI, if_pos (by assumption)] <;> rfl) | (rw [syI, if_neg (by simpa using c30), if_pos c41] <;> rfl) | (rw [syI, if_neg (by simpa using c30), if_neg c41] <;> rfl)
  · have c30 : (bI (srL (hB bb sz) (nmI wk L p) 4 0).2.1) = 0 := c30
    refine x_aload_n dX9_says_33 rfl ?_
    refine x_get dX9_says_34 0 13 inX9 fl_X9_119 rfl rfl (by decide) rfl ?_
    refine x_aload_n dX9_says_37 rfl ?_
    refine x_cVi0 dX9_says_38 ml_X9_122 mX9_end (ct_end_s κ.2.1 g aN aNs aNk aNf aNr aNp aNb aNa aNt aNbo aNsz aNnu aNl aNal aNlo aNw aNtr aNis aNbg aNow nts ((srL (hB bb sz) (nmI wk L p) 4 0).1) 0 p nac nkp (bI (srL (hB bb sz) (nmI wk L p) 4 0).2.1) nnw nsn nwn gr wk lk sz br z ru ki ma bb hd ce tb) [0, 1, 2] rfl rfl 0 rfl rfl rfl (Nat.le_of_ble_eq_true rfl) (by decide) (Nat.le_refl _) (Nat.le_refl _) ?_
    refine x_icmp_ge dX9_says_41 (fun c41 => ?_) (fun c41 => ?_)
    · have c41 : (nI sz) ≤ (nI ((srL (hB bb sz) (nmI wk L p) 4 0).1)) := c41
      have c41n := (nI_leI (a := sz) (b := ((srL (hB bb sz) (nmI wk L p) 4 0).1)) (by omega) (by omega)).mp c41
      refine x_iconst 0 dX9_says_48 (by decide) ?_
      refine x_put (ws' := [(aN, .inr (9, [.ref aNs, .ref aNk, .int nkp, .ref aNf, .ref aNr, .ref aNp, .ref aNb, .ref aNa, .ref aNt, .int (nI nts), .ref aNbo, .ref aNsz, .ref aNnu, .int (nI ((srL (hB bb sz) (nmI wk L p) 4 0).1)), .int 0, .int 0, .int 0, .int (nI p), .int nnw, .int nsn, .int nwn, .ref aNl, .ref aNal, .ref aNlo, .int (nI nac), .ref aNw, .ref aNtr, .ref aNis, .ref aNbg, .ref aNow])), (aNs, .inl (g.2.1 0, 919, .inl (msF gr wk z lk sz br ru ki ma bb ce hd))), (aNt, .inl (g.2.1 0, 60, .inl (nIf tb))), (aNa, .inl (g.2.1 0, 2475, .inl (nIf fcN))), (aNr, .inl (g.2.1 0, 495, .inl (nIf rowB))), (aNb, .inl (g.2.1 0, 4096, .inl (nIf popN)))]) dX9_says_49 0 15 inX9 tyX9_ok nmX9 fl_X9_135 rfl rfl (by decide) rfl (rfl) rfl (xlt rfl) rfl ?_
      refine x_iload_n dX9_says_52 rfl ?_
      rw [← hQ]
      refine x_iret dX9_says_53 rfl (Nat.le_of_ble_eq_true rfl) (Nat.le_of_ble_eq_true rfl) ?_
      refine ⟨rfl, ?_⟩
      first | (rw [syI, if_pos (by assumption)] <;> rfl) | (rw [syI, if_neg (by simpa using c30), if_pos c41] <;> rfl) | (rw [syI, if_neg (by simpa using c30), if_neg c41] <;> rfl)
    · have c41 : ¬ ((nI sz) ≤ (nI ((srL (hB bb sz) (nmI wk L p) 4 0).1))) := c41
      have c41n := mt (nI_leI (a := sz) (b := ((srL (hB bb sz) (nmI wk L p) 4 0).1)) (by omega) (by omega)).mpr c41
      refine x_iconst 1 dX9_says_44 (by decide) ?_
      refine x_goto dX9_says_45 ?_
      refine x_put (ws' := [(aN, .inr (9, [.ref aNs, .ref aNk, .int nkp, .ref aNf, .ref aNr, .ref aNp, .ref aNb, .ref aNa, .ref aNt, .int (nI nts), .ref aNbo, .ref aNsz, .ref aNnu, .int (nI ((srL (hB bb sz) (nmI wk L p) 4 0).1)), .int 0, .int 1, .int 0, .int (nI p), .int nnw, .int nsn, .int nwn, .ref aNl, .ref aNal, .ref aNlo, .int (nI nac), .ref aNw, .ref aNtr, .ref aNis, .ref aNbg, .ref aNow])), (aNs, .inl (g.2.1 0, 919, .inl (msF gr wk z lk sz br ru ki ma bb ce hd))), (aNt, .inl (g.2.1 0, 60, .inl (nIf tb))), (aNa, .inl (g.2.1 0, 2475, .inl (nIf fcN))), (aNr, .inl (g.2.1 0, 495, .inl (nIf rowB))), (aNb, .inl (g.2.1 0, 4096, .inl (nIf popN)))]) dX9_says_49 0 15 inX9 tyX9_ok nmX9 fl_X9_135 rfl rfl (by decide) rfl (rfl) rfl (xlt rfl) rfl ?_
      refine x_iload_n dX9_says_52 rfl ?_
      rw [← hQ]
      refine x_iret dX9_says_53 rfl (Nat.le_of_ble_eq_true rfl) (Nat.le_of_ble_eq_true rfl) ?_
      refine ⟨rfl, ?_⟩
      first | (rw [syI, if_pos (by assumption)] <;> rfl) | (rw [syI, if_neg (by simpa using c30), if_pos c41] <;> rfl) | (rw [syI, if_neg (by simpa using c30), if_neg c41] <;> rfl)

