
-- == X9_ones ==
theorem dX9_ones_0 : xd cX9_ones 0 (.aload_n 0) 1 1 := ⟨by decide +kernel, rfl⟩
theorem dX9_ones_1 : xd cX9_ones 1 (.getfield 25) 3 4 := ⟨by decide +kernel, rfl⟩
theorem dX9_ones_4 : xd cX9_ones 4 (.iload_n 1) 1 5 := ⟨by decide +kernel, rfl⟩
theorem dX9_ones_5 : xd cX9_ones 5 .iaload 1 6 := ⟨by decide +kernel, rfl⟩
theorem dX9_ones_6 : xd cX9_ones 6 .ireturn 1 7 := ⟨by decide +kernel, rfl⟩

set_option maxRecDepth 100000 in
set_option maxHeartbeats 4000000 in
theorem ct_X9_ones (l : Launch) (g : XG) (aN aNs aNk aNf aNr aNp aNb aNa aNt aNbo aNsz aNnu aNl aNal aNlo aNw aNtr aNis aNbg aNow nts nta nop npr nac : Nat) (nkp nbd ntp nnw nsn nwn : Int32) (r : Nat) (hr : r < 4096) : Ct l g 1 0 0 yX9_ones cX9_ones 2 (some .int) [.ref aN, .int (nI r)] [(aN, .inr (9, [.ref aNs, .ref aNk, .int nkp, .ref aNf, .ref aNr, .ref aNp, .ref aNb, .ref aNa, .ref aNt, .int (nI nts), .ref aNbo, .ref aNsz, .ref aNnu, .int (nI nta), .int (nI nop), .int nbd, .int ntp, .int (nI npr), .int nnw, .int nsn, .int nwn, .ref aNl, .ref aNal, .ref aNlo, .int (nI nac), .ref aNw, .ref aNtr, .ref aNis, .ref aNbg, .ref aNow])), (aNb, .inl (g.2.1 0, 4096, .inl (nIf popN)))] (xpi (nI (popN r)) [(aN, .inr (9, [.ref aNs, .ref aNk, .int nkp, .ref aNf, .ref aNr, .ref aNp, .ref aNb, .ref aNa, .ref aNt, .int (nI nts), .ref aNbo, .ref aNsz, .ref aNnu, .int (nI nta), .int (nI nop), .int nbd, .int ntp, .int (nI npr), .int nnw, .int nsn, .int nwn, .ref aNl, .ref aNal, .ref aNlo, .int (nI nac), .ref aNw, .ref aNtr, .ref aNis, .ref aNbg, .ref aNow])), (aNb, .inl (g.2.1 0, 4096, .inl (nIf popN)))]) := by
  refine Ct.ofX (lv := [some (.ref aN), some (.int (nI r))]) (by decide) rfl (Nat.le_of_ble_eq_true rfl) (fun κ => ?_)
  generalize hQ : xQ κ g 0 0 _ = Q
  refine x_aload_n dX9_ones_0 rfl ?_
  refine x_get dX9_ones_1 0 6 inX9 fl_X9_25 rfl rfl (by decide) rfl ?_
  refine x_iload_n dX9_ones_4 rfl ?_
  refine x_iald dX9_ones_5 1 r rfl (rfl) (by omega) (by decide) ?_
  rw [← hQ]
  refine x_iret dX9_ones_6 rfl (Nat.le_of_ble_eq_true rfl) (Nat.le_of_ble_eq_true rfl) ?_
  exact ⟨rfl, rfl⟩

-- == X9_isIn ==
theorem dX9_isIn_0 : xd cX9_isIn 0 (.lload_n 0) 1 1 := ⟨by decide +kernel, rfl⟩
theorem dX9_isIn_1 : xd cX9_isIn 1 (.lload_n 2) 1 2 := ⟨by decide +kernel, rfl⟩
theorem dX9_isIn_2 : xd cX9_isIn 2 .lcmp 1 3 := ⟨by decide +kernel, rfl⟩
theorem dX9_isIn_3 : xj cX9_isIn 3 (.ifCond .lt) 6 17 := ⟨14, by decide +kernel, rfl, by decide⟩
theorem dX9_isIn_6 : xd cX9_isIn 6 (.lload_n 0) 1 7 := ⟨by decide +kernel, rfl⟩
theorem dX9_isIn_7 : xd cX9_isIn 7 (.lload 4) 2 9 := ⟨by decide +kernel, rfl⟩
theorem dX9_isIn_9 : xd cX9_isIn 9 .lcmp 1 10 := ⟨by decide +kernel, rfl⟩
theorem dX9_isIn_10 : xj cX9_isIn 10 (.ifCond .gt) 13 17 := ⟨7, by decide +kernel, rfl, by decide⟩
theorem dX9_isIn_13 : xd cX9_isIn 13 (.iconst 1) 1 14 := ⟨by decide +kernel, rfl⟩
theorem dX9_isIn_14 : xj cX9_isIn 14 .goto 17 18 := ⟨4, by decide +kernel, rfl, by decide⟩
theorem dX9_isIn_17 : xd cX9_isIn 17 (.iconst 0) 1 18 := ⟨by decide +kernel, rfl⟩
theorem dX9_isIn_18 : xd cX9_isIn 18 .ireturn 1 19 := ⟨by decide +kernel, rfl⟩

set_option maxRecDepth 100000 in
set_option maxHeartbeats 4000000 in
theorem ct_X9_isIn (l : Launch) (g : XG) (v a b : Int64) : Ct l g 1 0 0 yX9_isIn cX9_isIn 6 (some .boolean) [.long v, .long a, .long b] [] (xpi (inL v a b) []) := by
  refine Ct.ofX (lv := [some (.long v), none, some (.long a), none, some (.long b), none]) (by decide) rfl (Nat.le_of_ble_eq_true rfl) (fun κ => ?_)
  generalize hQ : xQ κ g 0 0 _ = Q
  refine x_lload_n dX9_isIn_0 rfl ?_
  refine x_lload_n dX9_isIn_1 rfl ?_
  refine x_lcmp dX9_isIn_2 ?_
  have J3_4 : ∀ (v3 : Int32), v3 = (if (lg_cmp v a) < 0 then 0 else ((if 0 < (lg_cmp v b) then 0 else 1))) → Xs κ g 1 0 0 cX9_isIn yX9_isIn (some .boolean) Q 0 0 18 [some (.long v), none, some (.long a), none, some (.long b), none] [.int v3] [] := by
    intro v3 ev3
    rw [← hQ]
    refine x_zret dX9_isIn_18 rfl (by simp only [ev3]; exact z01 (inL01 v a b)) (Nat.le_of_ble_eq_true rfl) (Nat.le_of_ble_eq_true rfl) ?_
    exact ⟨by simp only [ev3]; rfl, rfl⟩
  refine x_if_lt dX9_isIn_3 (fun c3 => ?_) (fun c3 => ?_)
  · have c3 : (lg_cmp v a) < 0 := c3
    refine x_iconst 0 dX9_isIn_17 (by decide) ?_
    exact J3_4 _ (if_pos c3).symm
  · have c3 : ¬ ((lg_cmp v a) < 0) := c3
    refine x_lload_n dX9_isIn_6 rfl ?_
    refine x_lload dX9_isIn_7 rfl ?_
    refine x_lcmp dX9_isIn_9 ?_
    have J10_6 : ∀ (v5 : Int32), v5 = (if 0 < (lg_cmp v b) then 0 else 1) → Xs κ g 1 0 0 cX9_isIn yX9_isIn (some .boolean) Q 0 0 18 [some (.long v), none, some (.long a), none, some (.long b), none] [.int v5] [] := by
      intro v5 ev5
      exact J3_4 _ (by rw [if_neg c3]; try simp only [ev5])
    refine x_if_gt dX9_isIn_10 (fun c10 => ?_) (fun c10 => ?_)
    · have c10 : 0 < (lg_cmp v b) := c10
      refine x_iconst 0 dX9_isIn_17 (by decide) ?_
      exact J10_6 _ (if_pos c10).symm
    · have c10 : ¬ (0 < (lg_cmp v b)) := c10
      refine x_iconst 1 dX9_isIn_13 (by decide) ?_
      refine x_goto dX9_isIn_14 ?_
      exact J10_6 _ (if_neg c10).symm

-- == finds_0 ==
theorem dX9_finds_0 : xd cX9_finds 0 (.aload_n 0) 1 1 := ⟨by decide +kernel, rfl⟩
theorem dX9_finds_1 : xd cX9_finds 1 (.getfield 16) 3 4 := ⟨by decide +kernel, rfl⟩
theorem dX9_finds_4 : xd cX9_finds 4 (.iconst 0) 1 5 := ⟨by decide +kernel, rfl⟩
theorem dX9_finds_5 : xd cX9_finds 5 .dup2 1 6 := ⟨by decide +kernel, rfl⟩
theorem dX9_finds_6 : xd cX9_finds 6 .iaload 1 7 := ⟨by decide +kernel, rfl⟩
theorem dX9_finds_7 : xd cX9_finds 7 (.iconst 1) 1 8 := ⟨by decide +kernel, rfl⟩
theorem dX9_finds_8 : xd cX9_finds 8 .iadd 1 9 := ⟨by decide +kernel, rfl⟩
theorem dX9_finds_9 : xd cX9_finds 9 .iastore 1 10 := ⟨by decide +kernel, rfl⟩
theorem dX9_finds_10 : xd cX9_finds 10 (.aload_n 0) 1 11 := ⟨by decide +kernel, rfl⟩
theorem dX9_finds_11 : xd cX9_finds 11 (.getfield 16) 3 14 := ⟨by decide +kernel, rfl⟩
theorem dX9_finds_14 : xd cX9_finds 14 (.ldc 87) 2 16 := ⟨by decide +kernel, rfl⟩
theorem dX9_finds_16 : xd cX9_finds 16 (.iload_n 1) 1 17 := ⟨by decide +kernel, rfl⟩
theorem dX9_finds_17 : xd cX9_finds 17 .isub 1 18 := ⟨by decide +kernel, rfl⟩
theorem dX9_finds_18 : xd cX9_finds 18 (.iconst 1) 1 19 := ⟨by decide +kernel, rfl⟩
theorem dX9_finds_19 : xd cX9_finds 19 .iadd 1 20 := ⟨by decide +kernel, rfl⟩
theorem dX9_finds_20 : xd cX9_finds 20 .dup2 1 21 := ⟨by decide +kernel, rfl⟩
theorem dX9_finds_21 : xd cX9_finds 21 .iaload 1 22 := ⟨by decide +kernel, rfl⟩
theorem dX9_finds_22 : xd cX9_finds 22 (.iconst 1) 1 23 := ⟨by decide +kernel, rfl⟩
theorem dX9_finds_23 : xd cX9_finds 23 .iadd 1 24 := ⟨by decide +kernel, rfl⟩
theorem dX9_finds_24 : xd cX9_finds 24 .iastore 1 25 := ⟨by decide +kernel, rfl⟩
theorem dX9_finds_25 : xd cX9_finds 25 (.iload_n 1) 1 26 := ⟨by decide +kernel, rfl⟩
theorem dX9_finds_26 : xd cX9_finds 26 .ireturn 1 27 := ⟨by decide +kernel, rfl⟩

set_option maxRecDepth 100000 in
set_option maxHeartbeats 4000000 in
theorem ct_finds_0 (l : Launch) (g : XG) (aN aNs aNk aNf aNr aNp aNb aNa aNt aNbo aNsz aNnu aNl aNal aNlo aNw aNtr aNis aNbg aNow nts nta nop npr nac : Nat) (nkp nbd ntp nnw nsn nwn : Int32) (fi : Nat → Nat) : Ct l g 1 0 0 yX9_finds cX9_finds 2 (some .int) [.ref aN, .int ((-1000000001))] [(aN, .inr (9, [.ref aNs, .ref aNk, .int nkp, .ref aNf, .ref aNr, .ref aNp, .ref aNb, .ref aNa, .ref aNt, .int (nI nts), .ref aNbo, .ref aNsz, .ref aNnu, .int (nI nta), .int (nI nop), .int nbd, .int ntp, .int (nI npr), .int nnw, .int nsn, .int nwn, .ref aNl, .ref aNal, .ref aNlo, .int (nI nac), .ref aNw, .ref aNtr, .ref aNis, .ref aNbg, .ref aNow])), (aNf, .inl (g.2.1 0, 8, .inl (nIf (fnF fi))))] (xpi (fndI 0) [(aN, .inr (9, [.ref aNs, .ref aNk, .int nkp, .ref aNf, .ref aNr, .ref aNp, .ref aNb, .ref aNa, .ref aNt, .int (nI nts), .ref aNbo, .ref aNsz, .ref aNnu, .int (nI nta), .int (nI nop), .int nbd, .int ntp, .int (nI npr), .int nnw, .int nsn, .int nwn, .ref aNl, .ref aNal, .ref aNlo, .int (nI nac), .ref aNw, .ref aNtr, .ref aNis, .ref aNbg, .ref aNow])), (aNf, .inl (g.2.1 0, 8, .inl (nIf (fnF (updN fi 0 (fi 0 + 1))))))]) := by
  refine Ct.ofX (lv := [some (.ref aN), some (.int ((-1000000001)))]) (by decide) rfl (Nat.le_of_ble_eq_true rfl) (fun κ => ?_)
  generalize hQ : xQ κ g 0 0 _ = Q
  refine x_aload_n dX9_finds_0 rfl ?_
  refine x_get dX9_finds_1 0 3 inX9 fl_X9_16 rfl rfl (by decide) rfl ?_
  refine x_iconst 0 dX9_finds_4 (by decide) ?_
  refine x_dup2 dX9_finds_5 rfl rfl ?_
  refine x_iald dX9_finds_6 1 0 rfl (rfl) (by decide) (by decide) ?_
  refine x_iconst 1 dX9_finds_7 (by decide) ?_
  refine x_iadd dX9_finds_8 ?_
  refine x_rei (nI (((fnF fi) 0) + 1)) (nI_addc ((fnF fi) 0) 1 rfl) ?_
  refine x_iast (ws' := [(aN, .inr (9, [.ref aNs, .ref aNk, .int nkp, .ref aNf, .ref aNr, .ref aNp, .ref aNb, .ref aNa, .ref aNt, .int (nI nts), .ref aNbo, .ref aNsz, .ref aNnu, .int (nI nta), .int (nI nop), .int nbd, .int ntp, .int (nI npr), .int nnw, .int nsn, .int nwn, .ref aNl, .ref aNal, .ref aNlo, .int (nI nac), .ref aNw, .ref aNtr, .ref aNis, .ref aNbg, .ref aNow])), (aNf, .inl (g.2.1 0, 8, .inl (nIf (updN (fnF fi) 0 (((fnF fi) 0) + 1)))))]) dX9_finds_9 1 0 rfl (rfl) (by decide) (by decide) (by rw [upd_nIf]; rfl) ?_
  refine x_aload_n dX9_finds_10 rfl ?_
  refine x_get dX9_finds_11 0 3 inX9 fl_X9_16 rfl rfl (by decide) rfl ?_
  refine x_ldc dX9_finds_14 k_X9_87 ?_
  refine x_iload_n dX9_finds_16 rfl ?_
  refine x_isub dX9_finds_17 ?_
  refine x_rei (0) (by decide) ?_
  refine x_iconst 1 dX9_finds_18 (by decide) ?_
  refine x_iadd dX9_finds_19 ?_
  refine x_rei 1 (by decide) ?_
  refine x_dup2 dX9_finds_20 rfl rfl ?_
  refine x_iald dX9_finds_21 1 1 rfl (rfl) (by decide) (by decide) ?_
  refine x_iconst 1 dX9_finds_22 (by decide) ?_
  refine x_iadd dX9_finds_23 ?_
  refine x_rei (nI (((updN (fnF fi) 0 (((fnF fi) 0) + 1)) 1) + 1)) (nI_addc ((updN (fnF fi) 0 (((fnF fi) 0) + 1)) 1) 1 rfl) ?_
  refine x_iast (ws' := [(aN, .inr (9, [.ref aNs, .ref aNk, .int nkp, .ref aNf, .ref aNr, .ref aNp, .ref aNb, .ref aNa, .ref aNt, .int (nI nts), .ref aNbo, .ref aNsz, .ref aNnu, .int (nI nta), .int (nI nop), .int nbd, .int ntp, .int (nI npr), .int nnw, .int nsn, .int nwn, .ref aNl, .ref aNal, .ref aNlo, .int (nI nac), .ref aNw, .ref aNtr, .ref aNis, .ref aNbg, .ref aNow])), (aNf, .inl (g.2.1 0, 8, .inl (nIf (updN (updN (fnF fi) 0 (((fnF fi) 0) + 1)) 1 (((updN (fnF fi) 0 (((fnF fi) 0) + 1)) 1) + 1)))))]) dX9_finds_24 1 1 rfl (rfl) (by decide) (by decide) (by rw [upd_nIf]; rfl) ?_
  refine x_funi (ws' := [(aN, .inr (9, [.ref aNs, .ref aNk, .int nkp, .ref aNf, .ref aNr, .ref aNp, .ref aNb, .ref aNa, .ref aNt, .int (nI nts), .ref aNbo, .ref aNsz, .ref aNnu, .int (nI nta), .int (nI nop), .int nbd, .int ntp, .int (nI npr), .int nnw, .int nsn, .int nwn, .ref aNl, .ref aNal, .ref aNlo, .int (nI nac), .ref aNw, .ref aNtr, .ref aNis, .ref aNbg, .ref aNow])), (aNf, .inl (g.2.1 0, 8, .inl (nIf (fnF (updN fi 0 (fi 0 + 1))))))]) (q0 := 1) rfl (fun j _ => congrArg (fun q => nIf q j) (fn_step fi (f := 0) (by decide))) rfl ?_
  refine x_iload_n dX9_finds_25 rfl ?_
  rw [← hQ]
  refine x_iret dX9_finds_26 rfl (Nat.le_of_ble_eq_true rfl) (Nat.le_of_ble_eq_true rfl) ?_
  exact ⟨by decide, rfl⟩

-- == finds_1 ==
set_option maxRecDepth 100000 in
set_option maxHeartbeats 4000000 in
theorem ct_finds_1 (l : Launch) (g : XG) (aN aNs aNk aNf aNr aNp aNb aNa aNt aNbo aNsz aNnu aNl aNal aNlo aNw aNtr aNis aNbg aNow nts nta nop npr nac : Nat) (nkp nbd ntp nnw nsn nwn : Int32) (fi : Nat → Nat) : Ct l g 1 0 0 yX9_finds cX9_finds 2 (some .int) [.ref aN, .int ((-1000000002))] [(aN, .inr (9, [.ref aNs, .ref aNk, .int nkp, .ref aNf, .ref aNr, .ref aNp, .ref aNb, .ref aNa, .ref aNt, .int (nI nts), .ref aNbo, .ref aNsz, .ref aNnu, .int (nI nta), .int (nI nop), .int nbd, .int ntp, .int (nI npr), .int nnw, .int nsn, .int nwn, .ref aNl, .ref aNal, .ref aNlo, .int (nI nac), .ref aNw, .ref aNtr, .ref aNis, .ref aNbg, .ref aNow])), (aNf, .inl (g.2.1 0, 8, .inl (nIf (fnF fi))))] (xpi (fndI 1) [(aN, .inr (9, [.ref aNs, .ref aNk, .int nkp, .ref aNf, .ref aNr, .ref aNp, .ref aNb, .ref aNa, .ref aNt, .int (nI nts), .ref aNbo, .ref aNsz, .ref aNnu, .int (nI nta), .int (nI nop), .int nbd, .int ntp, .int (nI npr), .int nnw, .int nsn, .int nwn, .ref aNl, .ref aNal, .ref aNlo, .int (nI nac), .ref aNw, .ref aNtr, .ref aNis, .ref aNbg, .ref aNow])), (aNf, .inl (g.2.1 0, 8, .inl (nIf (fnF (updN fi 1 (fi 1 + 1))))))]) := by
  refine Ct.ofX (lv := [some (.ref aN), some (.int ((-1000000002)))]) (by decide) rfl (Nat.le_of_ble_eq_true rfl) (fun κ => ?_)
  generalize hQ : xQ κ g 0 0 _ = Q
  refine x_aload_n dX9_finds_0 rfl ?_
  refine x_get dX9_finds_1 0 3 inX9 fl_X9_16 rfl rfl (by decide) rfl ?_
  refine x_iconst 0 dX9_finds_4 (by decide) ?_
  refine x_dup2 dX9_finds_5 rfl rfl ?_
  refine x_iald dX9_finds_6 1 0 rfl (rfl) (by decide) (by decide) ?_
  refine x_iconst 1 dX9_finds_7 (by decide) ?_
  refine x_iadd dX9_finds_8 ?_
  refine x_rei (nI (((fnF fi) 0) + 1)) (nI_addc ((fnF fi) 0) 1 rfl) ?_
  refine x_iast (ws' := [(aN, .inr (9, [.ref aNs, .ref aNk, .int nkp, .ref aNf, .ref aNr, .ref aNp, .ref aNb, .ref aNa, .ref aNt, .int (nI nts), .ref aNbo, .ref aNsz, .ref aNnu, .int (nI nta), .int (nI nop), .int nbd, .int ntp, .int (nI npr), .int nnw, .int nsn, .int nwn, .ref aNl, .ref aNal, .ref aNlo, .int (nI nac), .ref aNw, .ref aNtr, .ref aNis, .ref aNbg, .ref aNow])), (aNf, .inl (g.2.1 0, 8, .inl (nIf (updN (fnF fi) 0 (((fnF fi) 0) + 1)))))]) dX9_finds_9 1 0 rfl (rfl) (by decide) (by decide) (by rw [upd_nIf]; rfl) ?_
  refine x_aload_n dX9_finds_10 rfl ?_
  refine x_get dX9_finds_11 0 3 inX9 fl_X9_16 rfl rfl (by decide) rfl ?_
  refine x_ldc dX9_finds_14 k_X9_87 ?_
  refine x_iload_n dX9_finds_16 rfl ?_
  refine x_isub dX9_finds_17 ?_
  refine x_rei (1) (by decide) ?_
  refine x_iconst 1 dX9_finds_18 (by decide) ?_
  refine x_iadd dX9_finds_19 ?_
  refine x_rei 2 (by decide) ?_
  refine x_dup2 dX9_finds_20 rfl rfl ?_
  refine x_iald dX9_finds_21 1 2 rfl (rfl) (by decide) (by decide) ?_
  refine x_iconst 1 dX9_finds_22 (by decide) ?_
  refine x_iadd dX9_finds_23 ?_
  refine x_rei (nI (((updN (fnF fi) 0 (((fnF fi) 0) + 1)) 2) + 1)) (nI_addc ((updN (fnF fi) 0 (((fnF fi) 0) + 1)) 2) 1 rfl) ?_
  refine x_iast (ws' := [(aN, .inr (9, [.ref aNs, .ref aNk, .int nkp, .ref aNf, .ref aNr, .ref aNp, .ref aNb, .ref aNa, .ref aNt, .int (nI nts), .ref aNbo, .ref aNsz, .ref aNnu, .int (nI nta), .int (nI nop), .int nbd, .int ntp, .int (nI npr), .int nnw, .int nsn, .int nwn, .ref aNl, .ref aNal, .ref aNlo, .int (nI nac), .ref aNw, .ref aNtr, .ref aNis, .ref aNbg, .ref aNow])), (aNf, .inl (g.2.1 0, 8, .inl (nIf (updN (updN (fnF fi) 0 (((fnF fi) 0) + 1)) 2 (((updN (fnF fi) 0 (((fnF fi) 0) + 1)) 2) + 1)))))]) dX9_finds_24 1 2 rfl (rfl) (by decide) (by decide) (by rw [upd_nIf]; rfl) ?_
  refine x_funi (ws' := [(aN, .inr (9, [.ref aNs, .ref aNk, .int nkp, .ref aNf, .ref aNr, .ref aNp, .ref aNb, .ref aNa, .ref aNt, .int (nI nts), .ref aNbo, .ref aNsz, .ref aNnu, .int (nI nta), .int (nI nop), .int nbd, .int ntp, .int (nI npr), .int nnw, .int nsn, .int nwn, .ref aNl, .ref aNal, .ref aNlo, .int (nI nac), .ref aNw, .ref aNtr, .ref aNis, .ref aNbg, .ref aNow])), (aNf, .inl (g.2.1 0, 8, .inl (nIf (fnF (updN fi 1 (fi 1 + 1))))))]) (q0 := 1) rfl (fun j _ => congrArg (fun q => nIf q j) (fn_step fi (f := 1) (by decide))) rfl ?_
  refine x_iload_n dX9_finds_25 rfl ?_
  rw [← hQ]
  refine x_iret dX9_finds_26 rfl (Nat.le_of_ble_eq_true rfl) (Nat.le_of_ble_eq_true rfl) ?_
  exact ⟨by decide, rfl⟩

-- == finds_2 ==
set_option maxRecDepth 100000 in
set_option maxHeartbeats 4000000 in
theorem ct_finds_2 (l : Launch) (g : XG) (aN aNs aNk aNf aNr aNp aNb aNa aNt aNbo aNsz aNnu aNl aNal aNlo aNw aNtr aNis aNbg aNow nts nta nop npr nac : Nat) (nkp nbd ntp nnw nsn nwn : Int32) (fi : Nat → Nat) : Ct l g 1 0 0 yX9_finds cX9_finds 2 (some .int) [.ref aN, .int ((-1000000003))] [(aN, .inr (9, [.ref aNs, .ref aNk, .int nkp, .ref aNf, .ref aNr, .ref aNp, .ref aNb, .ref aNa, .ref aNt, .int (nI nts), .ref aNbo, .ref aNsz, .ref aNnu, .int (nI nta), .int (nI nop), .int nbd, .int ntp, .int (nI npr), .int nnw, .int nsn, .int nwn, .ref aNl, .ref aNal, .ref aNlo, .int (nI nac), .ref aNw, .ref aNtr, .ref aNis, .ref aNbg, .ref aNow])), (aNf, .inl (g.2.1 0, 8, .inl (nIf (fnF fi))))] (xpi (fndI 2) [(aN, .inr (9, [.ref aNs, .ref aNk, .int nkp, .ref aNf, .ref aNr, .ref aNp, .ref aNb, .ref aNa, .ref aNt, .int (nI nts), .ref aNbo, .ref aNsz, .ref aNnu, .int (nI nta), .int (nI nop), .int nbd, .int ntp, .int (nI npr), .int nnw, .int nsn, .int nwn, .ref aNl, .ref aNal, .ref aNlo, .int (nI nac), .ref aNw, .ref aNtr, .ref aNis, .ref aNbg, .ref aNow])), (aNf, .inl (g.2.1 0, 8, .inl (nIf (fnF (updN fi 2 (fi 2 + 1))))))]) := by
  refine Ct.ofX (lv := [some (.ref aN), some (.int ((-1000000003)))]) (by decide) rfl (Nat.le_of_ble_eq_true rfl) (fun κ => ?_)
  generalize hQ : xQ κ g 0 0 _ = Q
  refine x_aload_n dX9_finds_0 rfl ?_
  refine x_get dX9_finds_1 0 3 inX9 fl_X9_16 rfl rfl (by decide) rfl ?_
  refine x_iconst 0 dX9_finds_4 (by decide) ?_
  refine x_dup2 dX9_finds_5 rfl rfl ?_
  refine x_iald dX9_finds_6 1 0 rfl (rfl) (by decide) (by decide) ?_
  refine x_iconst 1 dX9_finds_7 (by decide) ?_
  refine x_iadd dX9_finds_8 ?_
  refine x_rei (nI (((fnF fi) 0) + 1)) (nI_addc ((fnF fi) 0) 1 rfl) ?_
  refine x_iast (ws' := [(aN, .inr (9, [.ref aNs, .ref aNk, .int nkp, .ref aNf, .ref aNr, .ref aNp, .ref aNb, .ref aNa, .ref aNt, .int (nI nts), .ref aNbo, .ref aNsz, .ref aNnu, .int (nI nta), .int (nI nop), .int nbd, .int ntp, .int (nI npr), .int nnw, .int nsn, .int nwn, .ref aNl, .ref aNal, .ref aNlo, .int (nI nac), .ref aNw, .ref aNtr, .ref aNis, .ref aNbg, .ref aNow])), (aNf, .inl (g.2.1 0, 8, .inl (nIf (updN (fnF fi) 0 (((fnF fi) 0) + 1)))))]) dX9_finds_9 1 0 rfl (rfl) (by decide) (by decide) (by rw [upd_nIf]; rfl) ?_
  refine x_aload_n dX9_finds_10 rfl ?_
  refine x_get dX9_finds_11 0 3 inX9 fl_X9_16 rfl rfl (by decide) rfl ?_
  refine x_ldc dX9_finds_14 k_X9_87 ?_
  refine x_iload_n dX9_finds_16 rfl ?_
  refine x_isub dX9_finds_17 ?_
  refine x_rei (2) (by decide) ?_
  refine x_iconst 1 dX9_finds_18 (by decide) ?_
  refine x_iadd dX9_finds_19 ?_
  refine x_rei 3 (by decide) ?_
  refine x_dup2 dX9_finds_20 rfl rfl ?_
  refine x_iald dX9_finds_21 1 3 rfl (rfl) (by decide) (by decide) ?_
  refine x_iconst 1 dX9_finds_22 (by decide) ?_
  refine x_iadd dX9_finds_23 ?_
  refine x_rei (nI (((updN (fnF fi) 0 (((fnF fi) 0) + 1)) 3) + 1)) (nI_addc ((updN (fnF fi) 0 (((fnF fi) 0) + 1)) 3) 1 rfl) ?_
  refine x_iast (ws' := [(aN, .inr (9, [.ref aNs, .ref aNk, .int nkp, .ref aNf, .ref aNr, .ref aNp, .ref aNb, .ref aNa, .ref aNt, .int (nI nts), .ref aNbo, .ref aNsz, .ref aNnu, .int (nI nta), .int (nI nop), .int nbd, .int ntp, .int (nI npr), .int nnw, .int nsn, .int nwn, .ref aNl, .ref aNal, .ref aNlo, .int (nI nac), .ref aNw, .ref aNtr, .ref aNis, .ref aNbg, .ref aNow])), (aNf, .inl (g.2.1 0, 8, .inl (nIf (updN (updN (fnF fi) 0 (((fnF fi) 0) + 1)) 3 (((updN (fnF fi) 0 (((fnF fi) 0) + 1)) 3) + 1)))))]) dX9_finds_24 1 3 rfl (rfl) (by decide) (by decide) (by rw [upd_nIf]; rfl) ?_
  refine x_funi (ws' := [(aN, .inr (9, [.ref aNs, .ref aNk, .int nkp, .ref aNf, .ref aNr, .ref aNp, .ref aNb, .ref aNa, .ref aNt, .int (nI nts), .ref aNbo, .ref aNsz, .ref aNnu, .int (nI nta), .int (nI nop), .int nbd, .int ntp, .int (nI npr), .int nnw, .int nsn, .int nwn, .ref aNl, .ref aNal, .ref aNlo, .int (nI nac), .ref aNw, .ref aNtr, .ref aNis, .ref aNbg, .ref aNow])), (aNf, .inl (g.2.1 0, 8, .inl (nIf (fnF (updN fi 2 (fi 2 + 1))))))]) (q0 := 1) rfl (fun j _ => congrArg (fun q => nIf q j) (fn_step fi (f := 2) (by decide))) rfl ?_
  refine x_iload_n dX9_finds_25 rfl ?_
  rw [← hQ]
  refine x_iret dX9_finds_26 rfl (Nat.le_of_ble_eq_true rfl) (Nat.le_of_ble_eq_true rfl) ?_
  exact ⟨by decide, rfl⟩

-- == finds_3 ==
set_option maxRecDepth 100000 in
set_option maxHeartbeats 4000000 in
theorem ct_finds_3 (l : Launch) (g : XG) (aN aNs aNk aNf aNr aNp aNb aNa aNt aNbo aNsz aNnu aNl aNal aNlo aNw aNtr aNis aNbg aNow nts nta nop npr nac : Nat) (nkp nbd ntp nnw nsn nwn : Int32) (fi : Nat → Nat) : Ct l g 1 0 0 yX9_finds cX9_finds 2 (some .int) [.ref aN, .int ((-1000000004))] [(aN, .inr (9, [.ref aNs, .ref aNk, .int nkp, .ref aNf, .ref aNr, .ref aNp, .ref aNb, .ref aNa, .ref aNt, .int (nI nts), .ref aNbo, .ref aNsz, .ref aNnu, .int (nI nta), .int (nI nop), .int nbd, .int ntp, .int (nI npr), .int nnw, .int nsn, .int nwn, .ref aNl, .ref aNal, .ref aNlo, .int (nI nac), .ref aNw, .ref aNtr, .ref aNis, .ref aNbg, .ref aNow])), (aNf, .inl (g.2.1 0, 8, .inl (nIf (fnF fi))))] (xpi (fndI 3) [(aN, .inr (9, [.ref aNs, .ref aNk, .int nkp, .ref aNf, .ref aNr, .ref aNp, .ref aNb, .ref aNa, .ref aNt, .int (nI nts), .ref aNbo, .ref aNsz, .ref aNnu, .int (nI nta), .int (nI nop), .int nbd, .int ntp, .int (nI npr), .int nnw, .int nsn, .int nwn, .ref aNl, .ref aNal, .ref aNlo, .int (nI nac), .ref aNw, .ref aNtr, .ref aNis, .ref aNbg, .ref aNow])), (aNf, .inl (g.2.1 0, 8, .inl (nIf (fnF (updN fi 3 (fi 3 + 1))))))]) := by
  refine Ct.ofX (lv := [some (.ref aN), some (.int ((-1000000004)))]) (by decide) rfl (Nat.le_of_ble_eq_true rfl) (fun κ => ?_)
  generalize hQ : xQ κ g 0 0 _ = Q
  refine x_aload_n dX9_finds_0 rfl ?_
  refine x_get dX9_finds_1 0 3 inX9 fl_X9_16 rfl rfl (by decide) rfl ?_
  refine x_iconst 0 dX9_finds_4 (by decide) ?_
  refine x_dup2 dX9_finds_5 rfl rfl ?_
  refine x_iald dX9_finds_6 1 0 rfl (rfl) (by decide) (by decide) ?_
  refine x_iconst 1 dX9_finds_7 (by decide) ?_
  refine x_iadd dX9_finds_8 ?_
  refine x_rei (nI (((fnF fi) 0) + 1)) (nI_addc ((fnF fi) 0) 1 rfl) ?_
  refine x_iast (ws' := [(aN, .inr (9, [.ref aNs, .ref aNk, .int nkp, .ref aNf, .ref aNr, .ref aNp, .ref aNb, .ref aNa, .ref aNt, .int (nI nts), .ref aNbo, .ref aNsz, .ref aNnu, .int (nI nta), .int (nI nop), .int nbd, .int ntp, .int (nI npr), .int nnw, .int nsn, .int nwn, .ref aNl, .ref aNal, .ref aNlo, .int (nI nac), .ref aNw, .ref aNtr, .ref aNis, .ref aNbg, .ref aNow])), (aNf, .inl (g.2.1 0, 8, .inl (nIf (updN (fnF fi) 0 (((fnF fi) 0) + 1)))))]) dX9_finds_9 1 0 rfl (rfl) (by decide) (by decide) (by rw [upd_nIf]; rfl) ?_
  refine x_aload_n dX9_finds_10 rfl ?_
  refine x_get dX9_finds_11 0 3 inX9 fl_X9_16 rfl rfl (by decide) rfl ?_
  refine x_ldc dX9_finds_14 k_X9_87 ?_
  refine x_iload_n dX9_finds_16 rfl ?_
  refine x_isub dX9_finds_17 ?_
  refine x_rei (3) (by decide) ?_
  refine x_iconst 1 dX9_finds_18 (by decide) ?_
  refine x_iadd dX9_finds_19 ?_
  refine x_rei 4 (by decide) ?_
  refine x_dup2 dX9_finds_20 rfl rfl ?_
  refine x_iald dX9_finds_21 1 4 rfl (rfl) (by decide) (by decide) ?_
  refine x_iconst 1 dX9_finds_22 (by decide) ?_
  refine x_iadd dX9_finds_23 ?_
  refine x_rei (nI (((updN (fnF fi) 0 (((fnF fi) 0) + 1)) 4) + 1)) (nI_addc ((updN (fnF fi) 0 (((fnF fi) 0) + 1)) 4) 1 rfl) ?_
  refine x_iast (ws' := [(aN, .inr (9, [.ref aNs, .ref aNk, .int nkp, .ref aNf, .ref aNr, .ref aNp, .ref aNb, .ref aNa, .ref aNt, .int (nI nts), .ref aNbo, .ref aNsz, .ref aNnu, .int (nI nta), .int (nI nop), .int nbd, .int ntp, .int (nI npr), .int nnw, .int nsn, .int nwn, .ref aNl, .ref aNal, .ref aNlo, .int (nI nac), .ref aNw, .ref aNtr, .ref aNis, .ref aNbg, .ref aNow])), (aNf, .inl (g.2.1 0, 8, .inl (nIf (updN (updN (fnF fi) 0 (((fnF fi) 0) + 1)) 4 (((updN (fnF fi) 0 (((fnF fi) 0) + 1)) 4) + 1)))))]) dX9_finds_24 1 4 rfl (rfl) (by decide) (by decide) (by rw [upd_nIf]; rfl) ?_
  refine x_funi (ws' := [(aN, .inr (9, [.ref aNs, .ref aNk, .int nkp, .ref aNf, .ref aNr, .ref aNp, .ref aNb, .ref aNa, .ref aNt, .int (nI nts), .ref aNbo, .ref aNsz, .ref aNnu, .int (nI nta), .int (nI nop), .int nbd, .int ntp, .int (nI npr), .int nnw, .int nsn, .int nwn, .ref aNl, .ref aNal, .ref aNlo, .int (nI nac), .ref aNw, .ref aNtr, .ref aNis, .ref aNbg, .ref aNow])), (aNf, .inl (g.2.1 0, 8, .inl (nIf (fnF (updN fi 3 (fi 3 + 1))))))]) (q0 := 1) rfl (fun j _ => congrArg (fun q => nIf q j) (fn_step fi (f := 3) (by decide))) rfl ?_
  refine x_iload_n dX9_finds_25 rfl ?_
  rw [← hQ]
  refine x_iret dX9_finds_26 rfl (Nat.le_of_ble_eq_true rfl) (Nat.le_of_ble_eq_true rfl) ?_
  exact ⟨by decide, rfl⟩

-- == finds_4 ==
set_option maxRecDepth 100000 in
set_option maxHeartbeats 4000000 in
theorem ct_finds_4 (l : Launch) (g : XG) (aN aNs aNk aNf aNr aNp aNb aNa aNt aNbo aNsz aNnu aNl aNal aNlo aNw aNtr aNis aNbg aNow nts nta nop npr nac : Nat) (nkp nbd ntp nnw nsn nwn : Int32) (fi : Nat → Nat) : Ct l g 1 0 0 yX9_finds cX9_finds 2 (some .int) [.ref aN, .int ((-1000000005))] [(aN, .inr (9, [.ref aNs, .ref aNk, .int nkp, .ref aNf, .ref aNr, .ref aNp, .ref aNb, .ref aNa, .ref aNt, .int (nI nts), .ref aNbo, .ref aNsz, .ref aNnu, .int (nI nta), .int (nI nop), .int nbd, .int ntp, .int (nI npr), .int nnw, .int nsn, .int nwn, .ref aNl, .ref aNal, .ref aNlo, .int (nI nac), .ref aNw, .ref aNtr, .ref aNis, .ref aNbg, .ref aNow])), (aNf, .inl (g.2.1 0, 8, .inl (nIf (fnF fi))))] (xpi (fndI 4) [(aN, .inr (9, [.ref aNs, .ref aNk, .int nkp, .ref aNf, .ref aNr, .ref aNp, .ref aNb, .ref aNa, .ref aNt, .int (nI nts), .ref aNbo, .ref aNsz, .ref aNnu, .int (nI nta), .int (nI nop), .int nbd, .int ntp, .int (nI npr), .int nnw, .int nsn, .int nwn, .ref aNl, .ref aNal, .ref aNlo, .int (nI nac), .ref aNw, .ref aNtr, .ref aNis, .ref aNbg, .ref aNow])), (aNf, .inl (g.2.1 0, 8, .inl (nIf (fnF (updN fi 4 (fi 4 + 1))))))]) := by
  refine Ct.ofX (lv := [some (.ref aN), some (.int ((-1000000005)))]) (by decide) rfl (Nat.le_of_ble_eq_true rfl) (fun κ => ?_)
  generalize hQ : xQ κ g 0 0 _ = Q
  refine x_aload_n dX9_finds_0 rfl ?_
  refine x_get dX9_finds_1 0 3 inX9 fl_X9_16 rfl rfl (by decide) rfl ?_
  refine x_iconst 0 dX9_finds_4 (by decide) ?_
  refine x_dup2 dX9_finds_5 rfl rfl ?_
  refine x_iald dX9_finds_6 1 0 rfl (rfl) (by decide) (by decide) ?_
  refine x_iconst 1 dX9_finds_7 (by decide) ?_
  refine x_iadd dX9_finds_8 ?_
  refine x_rei (nI (((fnF fi) 0) + 1)) (nI_addc ((fnF fi) 0) 1 rfl) ?_
  refine x_iast (ws' := [(aN, .inr (9, [.ref aNs, .ref aNk, .int nkp, .ref aNf, .ref aNr, .ref aNp, .ref aNb, .ref aNa, .ref aNt, .int (nI nts), .ref aNbo, .ref aNsz, .ref aNnu, .int (nI nta), .int (nI nop), .int nbd, .int ntp, .int (nI npr), .int nnw, .int nsn, .int nwn, .ref aNl, .ref aNal, .ref aNlo, .int (nI nac), .ref aNw, .ref aNtr, .ref aNis, .ref aNbg, .ref aNow])), (aNf, .inl (g.2.1 0, 8, .inl (nIf (updN (fnF fi) 0 (((fnF fi) 0) + 1)))))]) dX9_finds_9 1 0 rfl (rfl) (by decide) (by decide) (by rw [upd_nIf]; rfl) ?_
  refine x_aload_n dX9_finds_10 rfl ?_
  refine x_get dX9_finds_11 0 3 inX9 fl_X9_16 rfl rfl (by decide) rfl ?_
  refine x_ldc dX9_finds_14 k_X9_87 ?_
  refine x_iload_n dX9_finds_16 rfl ?_
  refine x_isub dX9_finds_17 ?_
  refine x_rei (4) (by decide) ?_
  refine x_iconst 1 dX9_finds_18 (by decide) ?_
  refine x_iadd dX9_finds_19 ?_
  refine x_rei 5 (by decide) ?_
  refine x_dup2 dX9_finds_20 rfl rfl ?_
  refine x_iald dX9_finds_21 1 5 rfl (rfl) (by decide) (by decide) ?_
  refine x_iconst 1 dX9_finds_22 (by decide) ?_
  refine x_iadd dX9_finds_23 ?_
  refine x_rei (nI (((updN (fnF fi) 0 (((fnF fi) 0) + 1)) 5) + 1)) (nI_addc ((updN (fnF fi) 0 (((fnF fi) 0) + 1)) 5) 1 rfl) ?_
  refine x_iast (ws' := [(aN, .inr (9, [.ref aNs, .ref aNk, .int nkp, .ref aNf, .ref aNr, .ref aNp, .ref aNb, .ref aNa, .ref aNt, .int (nI nts), .ref aNbo, .ref aNsz, .ref aNnu, .int (nI nta), .int (nI nop), .int nbd, .int ntp, .int (nI npr), .int nnw, .int nsn, .int nwn, .ref aNl, .ref aNal, .ref aNlo, .int (nI nac), .ref aNw, .ref aNtr, .ref aNis, .ref aNbg, .ref aNow])), (aNf, .inl (g.2.1 0, 8, .inl (nIf (updN (updN (fnF fi) 0 (((fnF fi) 0) + 1)) 5 (((updN (fnF fi) 0 (((fnF fi) 0) + 1)) 5) + 1)))))]) dX9_finds_24 1 5 rfl (rfl) (by decide) (by decide) (by rw [upd_nIf]; rfl) ?_
  refine x_funi (ws' := [(aN, .inr (9, [.ref aNs, .ref aNk, .int nkp, .ref aNf, .ref aNr, .ref aNp, .ref aNb, .ref aNa, .ref aNt, .int (nI nts), .ref aNbo, .ref aNsz, .ref aNnu, .int (nI nta), .int (nI nop), .int nbd, .int ntp, .int (nI npr), .int nnw, .int nsn, .int nwn, .ref aNl, .ref aNal, .ref aNlo, .int (nI nac), .ref aNw, .ref aNtr, .ref aNis, .ref aNbg, .ref aNow])), (aNf, .inl (g.2.1 0, 8, .inl (nIf (fnF (updN fi 4 (fi 4 + 1))))))]) (q0 := 1) rfl (fun j _ => congrArg (fun q => nIf q j) (fn_step fi (f := 4) (by decide))) rfl ?_
  refine x_iload_n dX9_finds_25 rfl ?_
  rw [← hQ]
  refine x_iret dX9_finds_26 rfl (Nat.le_of_ble_eq_true rfl) (Nat.le_of_ble_eq_true rfl) ?_
  exact ⟨by decide, rfl⟩

-- == finds_5 ==
set_option maxRecDepth 100000 in
set_option maxHeartbeats 4000000 in
theorem ct_finds_5 (l : Launch) (g : XG) (aN aNs aNk aNf aNr aNp aNb aNa aNt aNbo aNsz aNnu aNl aNal aNlo aNw aNtr aNis aNbg aNow nts nta nop npr nac : Nat) (nkp nbd ntp nnw nsn nwn : Int32) (fi : Nat → Nat) : Ct l g 1 0 0 yX9_finds cX9_finds 2 (some .int) [.ref aN, .int ((-1000000006))] [(aN, .inr (9, [.ref aNs, .ref aNk, .int nkp, .ref aNf, .ref aNr, .ref aNp, .ref aNb, .ref aNa, .ref aNt, .int (nI nts), .ref aNbo, .ref aNsz, .ref aNnu, .int (nI nta), .int (nI nop), .int nbd, .int ntp, .int (nI npr), .int nnw, .int nsn, .int nwn, .ref aNl, .ref aNal, .ref aNlo, .int (nI nac), .ref aNw, .ref aNtr, .ref aNis, .ref aNbg, .ref aNow])), (aNf, .inl (g.2.1 0, 8, .inl (nIf (fnF fi))))] (xpi (fndI 5) [(aN, .inr (9, [.ref aNs, .ref aNk, .int nkp, .ref aNf, .ref aNr, .ref aNp, .ref aNb, .ref aNa, .ref aNt, .int (nI nts), .ref aNbo, .ref aNsz, .ref aNnu, .int (nI nta), .int (nI nop), .int nbd, .int ntp, .int (nI npr), .int nnw, .int nsn, .int nwn, .ref aNl, .ref aNal, .ref aNlo, .int (nI nac), .ref aNw, .ref aNtr, .ref aNis, .ref aNbg, .ref aNow])), (aNf, .inl (g.2.1 0, 8, .inl (nIf (fnF (updN fi 5 (fi 5 + 1))))))]) := by
  refine Ct.ofX (lv := [some (.ref aN), some (.int ((-1000000006)))]) (by decide) rfl (Nat.le_of_ble_eq_true rfl) (fun κ => ?_)
  generalize hQ : xQ κ g 0 0 _ = Q
  refine x_aload_n dX9_finds_0 rfl ?_
  refine x_get dX9_finds_1 0 3 inX9 fl_X9_16 rfl rfl (by decide) rfl ?_
  refine x_iconst 0 dX9_finds_4 (by decide) ?_
  refine x_dup2 dX9_finds_5 rfl rfl ?_
  refine x_iald dX9_finds_6 1 0 rfl (rfl) (by decide) (by decide) ?_
  refine x_iconst 1 dX9_finds_7 (by decide) ?_
  refine x_iadd dX9_finds_8 ?_
  refine x_rei (nI (((fnF fi) 0) + 1)) (nI_addc ((fnF fi) 0) 1 rfl) ?_
  refine x_iast (ws' := [(aN, .inr (9, [.ref aNs, .ref aNk, .int nkp, .ref aNf, .ref aNr, .ref aNp, .ref aNb, .ref aNa, .ref aNt, .int (nI nts), .ref aNbo, .ref aNsz, .ref aNnu, .int (nI nta), .int (nI nop), .int nbd, .int ntp, .int (nI npr), .int nnw, .int nsn, .int nwn, .ref aNl, .ref aNal, .ref aNlo, .int (nI nac), .ref aNw, .ref aNtr, .ref aNis, .ref aNbg, .ref aNow])), (aNf, .inl (g.2.1 0, 8, .inl (nIf (updN (fnF fi) 0 (((fnF fi) 0) + 1)))))]) dX9_finds_9 1 0 rfl (rfl) (by decide) (by decide) (by rw [upd_nIf]; rfl) ?_
  refine x_aload_n dX9_finds_10 rfl ?_
  refine x_get dX9_finds_11 0 3 inX9 fl_X9_16 rfl rfl (by decide) rfl ?_
  refine x_ldc dX9_finds_14 k_X9_87 ?_
  refine x_iload_n dX9_finds_16 rfl ?_
  refine x_isub dX9_finds_17 ?_
  refine x_rei (5) (by decide) ?_
  refine x_iconst 1 dX9_finds_18 (by decide) ?_
  refine x_iadd dX9_finds_19 ?_
  refine x_rei 6 (by decide) ?_
  refine x_dup2 dX9_finds_20 rfl rfl ?_
  refine x_iald dX9_finds_21 1 6 rfl (rfl) (by decide) (by decide) ?_
  refine x_iconst 1 dX9_finds_22 (by decide) ?_
  refine x_iadd dX9_finds_23 ?_
  refine x_rei (nI (((updN (fnF fi) 0 (((fnF fi) 0) + 1)) 6) + 1)) (nI_addc ((updN (fnF fi) 0 (((fnF fi) 0) + 1)) 6) 1 rfl) ?_
  refine x_iast (ws' := [(aN, .inr (9, [.ref aNs, .ref aNk, .int nkp, .ref aNf, .ref aNr, .ref aNp, .ref aNb, .ref aNa, .ref aNt, .int (nI nts), .ref aNbo, .ref aNsz, .ref aNnu, .int (nI nta), .int (nI nop), .int nbd, .int ntp, .int (nI npr), .int nnw, .int nsn, .int nwn, .ref aNl, .ref aNal, .ref aNlo, .int (nI nac), .ref aNw, .ref aNtr, .ref aNis, .ref aNbg, .ref aNow])), (aNf, .inl (g.2.1 0, 8, .inl (nIf (updN (updN (fnF fi) 0 (((fnF fi) 0) + 1)) 6 (((updN (fnF fi) 0 (((fnF fi) 0) + 1)) 6) + 1)))))]) dX9_finds_24 1 6 rfl (rfl) (by decide) (by decide) (by rw [upd_nIf]; rfl) ?_
  refine x_funi (ws' := [(aN, .inr (9, [.ref aNs, .ref aNk, .int nkp, .ref aNf, .ref aNr, .ref aNp, .ref aNb, .ref aNa, .ref aNt, .int (nI nts), .ref aNbo, .ref aNsz, .ref aNnu, .int (nI nta), .int (nI nop), .int nbd, .int ntp, .int (nI npr), .int nnw, .int nsn, .int nwn, .ref aNl, .ref aNal, .ref aNlo, .int (nI nac), .ref aNw, .ref aNtr, .ref aNis, .ref aNbg, .ref aNow])), (aNf, .inl (g.2.1 0, 8, .inl (nIf (fnF (updN fi 5 (fi 5 + 1))))))]) (q0 := 1) rfl (fun j _ => congrArg (fun q => nIf q j) (fn_step fi (f := 5) (by decide))) rfl ?_
  refine x_iload_n dX9_finds_25 rfl ?_
  rw [← hQ]
  refine x_iret dX9_finds_26 rfl (Nat.le_of_ble_eq_true rfl) (Nat.le_of_ble_eq_true rfl) ?_
  exact ⟨by decide, rfl⟩

-- == finds_6 ==
set_option maxRecDepth 100000 in
set_option maxHeartbeats 4000000 in
theorem ct_finds_6 (l : Launch) (g : XG) (aN aNs aNk aNf aNr aNp aNb aNa aNt aNbo aNsz aNnu aNl aNal aNlo aNw aNtr aNis aNbg aNow nts nta nop npr nac : Nat) (nkp nbd ntp nnw nsn nwn : Int32) (fi : Nat → Nat) : Ct l g 1 0 0 yX9_finds cX9_finds 2 (some .int) [.ref aN, .int ((-1000000007))] [(aN, .inr (9, [.ref aNs, .ref aNk, .int nkp, .ref aNf, .ref aNr, .ref aNp, .ref aNb, .ref aNa, .ref aNt, .int (nI nts), .ref aNbo, .ref aNsz, .ref aNnu, .int (nI nta), .int (nI nop), .int nbd, .int ntp, .int (nI npr), .int nnw, .int nsn, .int nwn, .ref aNl, .ref aNal, .ref aNlo, .int (nI nac), .ref aNw, .ref aNtr, .ref aNis, .ref aNbg, .ref aNow])), (aNf, .inl (g.2.1 0, 8, .inl (nIf (fnF fi))))] (xpi (fndI 6) [(aN, .inr (9, [.ref aNs, .ref aNk, .int nkp, .ref aNf, .ref aNr, .ref aNp, .ref aNb, .ref aNa, .ref aNt, .int (nI nts), .ref aNbo, .ref aNsz, .ref aNnu, .int (nI nta), .int (nI nop), .int nbd, .int ntp, .int (nI npr), .int nnw, .int nsn, .int nwn, .ref aNl, .ref aNal, .ref aNlo, .int (nI nac), .ref aNw, .ref aNtr, .ref aNis, .ref aNbg, .ref aNow])), (aNf, .inl (g.2.1 0, 8, .inl (nIf (fnF (updN fi 6 (fi 6 + 1))))))]) := by
  refine Ct.ofX (lv := [some (.ref aN), some (.int ((-1000000007)))]) (by decide) rfl (Nat.le_of_ble_eq_true rfl) (fun κ => ?_)
  generalize hQ : xQ κ g 0 0 _ = Q
  refine x_aload_n dX9_finds_0 rfl ?_
  refine x_get dX9_finds_1 0 3 inX9 fl_X9_16 rfl rfl (by decide) rfl ?_
  refine x_iconst 0 dX9_finds_4 (by decide) ?_
  refine x_dup2 dX9_finds_5 rfl rfl ?_
  refine x_iald dX9_finds_6 1 0 rfl (rfl) (by decide) (by decide) ?_
  refine x_iconst 1 dX9_finds_7 (by decide) ?_
  refine x_iadd dX9_finds_8 ?_
  refine x_rei (nI (((fnF fi) 0) + 1)) (nI_addc ((fnF fi) 0) 1 rfl) ?_
  refine x_iast (ws' := [(aN, .inr (9, [.ref aNs, .ref aNk, .int nkp, .ref aNf, .ref aNr, .ref aNp, .ref aNb, .ref aNa, .ref aNt, .int (nI nts), .ref aNbo, .ref aNsz, .ref aNnu, .int (nI nta), .int (nI nop), .int nbd, .int ntp, .int (nI npr), .int nnw, .int nsn, .int nwn, .ref aNl, .ref aNal, .ref aNlo, .int (nI nac), .ref aNw, .ref aNtr, .ref aNis, .ref aNbg, .ref aNow])), (aNf, .inl (g.2.1 0, 8, .inl (nIf (updN (fnF fi) 0 (((fnF fi) 0) + 1)))))]) dX9_finds_9 1 0 rfl (rfl) (by decide) (by decide) (by rw [upd_nIf]; rfl) ?_
  refine x_aload_n dX9_finds_10 rfl ?_
  refine x_get dX9_finds_11 0 3 inX9 fl_X9_16 rfl rfl (by decide) rfl ?_
  refine x_ldc dX9_finds_14 k_X9_87 ?_
  refine x_iload_n dX9_finds_16 rfl ?_
  refine x_isub dX9_finds_17 ?_
  refine x_rei (6) (by decide) ?_
  refine x_iconst 1 dX9_finds_18 (by decide) ?_
  refine x_iadd dX9_finds_19 ?_
  refine x_rei 7 (by decide) ?_
  refine x_dup2 dX9_finds_20 rfl rfl ?_
  refine x_iald dX9_finds_21 1 7 rfl (rfl) (by decide) (by decide) ?_
  refine x_iconst 1 dX9_finds_22 (by decide) ?_
  refine x_iadd dX9_finds_23 ?_
  refine x_rei (nI (((updN (fnF fi) 0 (((fnF fi) 0) + 1)) 7) + 1)) (nI_addc ((updN (fnF fi) 0 (((fnF fi) 0) + 1)) 7) 1 rfl) ?_
  refine x_iast (ws' := [(aN, .inr (9, [.ref aNs, .ref aNk, .int nkp, .ref aNf, .ref aNr, .ref aNp, .ref aNb, .ref aNa, .ref aNt, .int (nI nts), .ref aNbo, .ref aNsz, .ref aNnu, .int (nI nta), .int (nI nop), .int nbd, .int ntp, .int (nI npr), .int nnw, .int nsn, .int nwn, .ref aNl, .ref aNal, .ref aNlo, .int (nI nac), .ref aNw, .ref aNtr, .ref aNis, .ref aNbg, .ref aNow])), (aNf, .inl (g.2.1 0, 8, .inl (nIf (updN (updN (fnF fi) 0 (((fnF fi) 0) + 1)) 7 (((updN (fnF fi) 0 (((fnF fi) 0) + 1)) 7) + 1)))))]) dX9_finds_24 1 7 rfl (rfl) (by decide) (by decide) (by rw [upd_nIf]; rfl) ?_
  refine x_funi (ws' := [(aN, .inr (9, [.ref aNs, .ref aNk, .int nkp, .ref aNf, .ref aNr, .ref aNp, .ref aNb, .ref aNa, .ref aNt, .int (nI nts), .ref aNbo, .ref aNsz, .ref aNnu, .int (nI nta), .int (nI nop), .int nbd, .int ntp, .int (nI npr), .int nnw, .int nsn, .int nwn, .ref aNl, .ref aNal, .ref aNlo, .int (nI nac), .ref aNw, .ref aNtr, .ref aNis, .ref aNbg, .ref aNow])), (aNf, .inl (g.2.1 0, 8, .inl (nIf (fnF (updN fi 6 (fi 6 + 1))))))]) (q0 := 1) rfl (fun j _ => congrArg (fun q => nIf q j) (fn_step fi (f := 6) (by decide))) rfl ?_
  refine x_iload_n dX9_finds_25 rfl ?_
  rw [← hQ]
  refine x_iret dX9_finds_26 rfl (Nat.le_of_ble_eq_true rfl) (Nat.le_of_ble_eq_true rfl) ?_
  exact ⟨by decide, rfl⟩

-- == X9_isPlace ==
theorem dX9_isPlace_0 : xd cX9_isPlace 0 (.iload_n 0) 1 1 := ⟨by decide +kernel, rfl⟩
theorem dX9_isPlace_1 : xj cX9_isPlace 1 (.ifCond .lt) 4 15 := ⟨14, by decide +kernel, rfl, by decide⟩
theorem dX9_isPlace_4 : xd cX9_isPlace 4 (.iload_n 0) 1 5 := ⟨by decide +kernel, rfl⟩
theorem dX9_isPlace_5 : xd cX9_isPlace 5 (.sipush 495) 3 8 := ⟨by decide +kernel, rfl⟩
theorem dX9_isPlace_8 : xj cX9_isPlace 8 (.if_icmp .ge) 11 15 := ⟨7, by decide +kernel, rfl, by decide⟩
theorem dX9_isPlace_11 : xd cX9_isPlace 11 (.iconst 1) 1 12 := ⟨by decide +kernel, rfl⟩
theorem dX9_isPlace_12 : xj cX9_isPlace 12 .goto 15 16 := ⟨4, by decide +kernel, rfl, by decide⟩
theorem dX9_isPlace_15 : xd cX9_isPlace 15 (.iconst 0) 1 16 := ⟨by decide +kernel, rfl⟩
theorem dX9_isPlace_16 : xd cX9_isPlace 16 .ireturn 1 17 := ⟨by decide +kernel, rfl⟩

set_option maxRecDepth 100000 in
set_option maxHeartbeats 4000000 in
theorem ct_X9_isPlace (l : Launch) (g : XG) (p : Int32) : Ct l g 1 0 0 yX9_isPlace cX9_isPlace 1 (some .boolean) [.int p] [] (xpi (wI p 0 494) []) := by
  refine Ct.ofX (lv := [some (.int p)]) (by decide) rfl (Nat.le_of_ble_eq_true rfl) (fun κ => ?_)
  generalize hQ : xQ κ g 0 0 _ = Q
  refine x_iload_n dX9_isPlace_0 rfl ?_
  have J1_4 : ∀ (v3 : Int32), v3 = (if p < 0 then 0 else ((if 495 ≤ p then 0 else 1))) → Xs κ g 1 0 0 cX9_isPlace yX9_isPlace (some .boolean) Q 0 0 16 [some (.int p)] [.int v3] [] := by
    intro v3 ev3
    rw [← hQ]
    refine x_zret dX9_isPlace_16 rfl (by simp only [ev3, pl_eq]; exact wI_nar _ _ _) (Nat.le_of_ble_eq_true rfl) (Nat.le_of_ble_eq_true rfl) ?_
    exact ⟨by simp only [ev3, pl_eq], rfl⟩
  refine x_if_lt dX9_isPlace_1 (fun c1 => ?_) (fun c1 => ?_)
  · have c1 : p < 0 := c1
    refine x_iconst 0 dX9_isPlace_15 (by decide) ?_
    exact J1_4 _ (if_pos c1).symm
  · have c1 : ¬ (p < 0) := c1
    refine x_iload_n dX9_isPlace_4 rfl ?_
    refine x_sipush 495 dX9_isPlace_5 (by decide) ?_
    have J8_6 : ∀ (v5 : Int32), v5 = (if 495 ≤ p then 0 else 1) → Xs κ g 1 0 0 cX9_isPlace yX9_isPlace (some .boolean) Q 0 0 16 [some (.int p)] [.int v5] [] := by
      intro v5 ev5
      exact J1_4 _ (by rw [if_neg c1]; try simp only [ev5])
    refine x_icmp_ge dX9_isPlace_8 (fun c8 => ?_) (fun c8 => ?_)
    · have c8 : 495 ≤ p := c8
      refine x_iconst 0 dX9_isPlace_15 (by decide) ?_
      exact J8_6 _ (if_pos c8).symm
    · have c8 : ¬ (495 ≤ p) := c8
      refine x_iconst 1 dX9_isPlace_11 (by decide) ?_
      refine x_goto dX9_isPlace_12 ?_
      exact J8_6 _ (if_neg c8).symm

-- == nPlace_n ==
theorem ct_nPlace_n (l : Launch) (g : XG) (n : Nat) (hn : n < 495) : Ct l g 1 0 0 yX9_isPlace cX9_isPlace 1 (some .boolean) [.int (nI n)] [] (xpi (1) []) := by
  have h := ct_X9_isPlace l g (nI n)
  rw [show wI (nI n) 0 494 = 1 from wI_nat (a := 0) (b := 494) ⟨Nat.zero_le _, by omega, by omega, by decide⟩] at h
  exact h

-- == X9_isPeople ==
theorem dX9_isPeople_0 : xd cX9_isPeople 0 (.iload_n 1) 1 1 := ⟨by decide +kernel, rfl⟩
theorem dX9_isPeople_1 : xj cX9_isPeople 1 (.ifCond .lt) 4 18 := ⟨17, by decide +kernel, rfl, by decide⟩
theorem dX9_isPeople_4 : xd cX9_isPeople 4 (.iload_n 1) 1 5 := ⟨by decide +kernel, rfl⟩
theorem dX9_isPeople_5 : xd cX9_isPeople 5 (.aload_n 0) 1 6 := ⟨by decide +kernel, rfl⟩
theorem dX9_isPeople_6 : xd cX9_isPeople 6 (.getfield 7) 3 9 := ⟨by decide +kernel, rfl⟩
theorem dX9_isPeople_9 : xd cX9_isPeople 9 (.iconst 0) 1 10 := ⟨by decide +kernel, rfl⟩
theorem dX9_isPeople_10 : xd cX9_isPeople 10 .iaload 1 11 := ⟨by decide +kernel, rfl⟩
theorem dX9_isPeople_11 : xj cX9_isPeople 11 (.if_icmp .ge) 14 18 := ⟨7, by decide +kernel, rfl, by decide⟩
theorem dX9_isPeople_14 : xd cX9_isPeople 14 (.iconst 1) 1 15 := ⟨by decide +kernel, rfl⟩
theorem dX9_isPeople_15 : xj cX9_isPeople 15 .goto 18 19 := ⟨4, by decide +kernel, rfl, by decide⟩
theorem dX9_isPeople_18 : xd cX9_isPeople 18 (.iconst 0) 1 19 := ⟨by decide +kernel, rfl⟩
theorem dX9_isPeople_19 : xd cX9_isPeople 19 .ireturn 1 20 := ⟨by decide +kernel, rfl⟩

set_option maxRecDepth 100000 in
set_option maxHeartbeats 4000000 in
theorem ct_X9_isPeople (l : Launch) (g : XG) (aN aNs aNk aNf aNr aNp aNb aNa aNt aNbo aNsz aNnu aNl aNal aNlo aNw aNtr aNis aNbg aNow nts nta nop npr nac : Nat) (nkp nbd ntp nnw nsn nwn : Int32) (gr wk lk sz br : Nat) (z : Int32) (ru ki ma bb hd : Nat → Nat) (ce : Nat → Int32) (pp : Int32) (hgr : gr ≤ 12) : Ct l g 1 0 0 yX9_isPeople cX9_isPeople 2 (some .boolean) [.ref aN, .int pp] [(aN, .inr (9, [.ref aNs, .ref aNk, .int nkp, .ref aNf, .ref aNr, .ref aNp, .ref aNb, .ref aNa, .ref aNt, .int (nI nts), .ref aNbo, .ref aNsz, .ref aNnu, .int (nI nta), .int (nI nop), .int nbd, .int ntp, .int (nI npr), .int nnw, .int nsn, .int nwn, .ref aNl, .ref aNal, .ref aNlo, .int (nI nac), .ref aNw, .ref aNtr, .ref aNis, .ref aNbg, .ref aNow])), (aNs, .inl (g.2.1 0, 919, .inl (msF gr wk z lk sz br ru ki ma bb ce hd)))] (xpi (wI pp 0 (nI gr - 1)) [(aN, .inr (9, [.ref aNs, .ref aNk, .int nkp, .ref aNf, .ref aNr, .ref aNp, .ref aNb, .ref aNa, .ref aNt, .int (nI nts), .ref aNbo, .ref aNsz, .ref aNnu, .int (nI nta), .int (nI nop), .int nbd, .int ntp, .int (nI npr), .int nnw, .int nsn, .int nwn, .ref aNl, .ref aNal, .ref aNlo, .int (nI nac), .ref aNw, .ref aNtr, .ref aNis, .ref aNbg, .ref aNow])), (aNs, .inl (g.2.1 0, 919, .inl (msF gr wk z lk sz br ru ki ma bb ce hd)))]) := by
  refine Ct.ofX (lv := [some (.ref aN), some (.int pp)]) (by decide) rfl (Nat.le_of_ble_eq_true rfl) (fun κ => ?_)
  generalize hQ : xQ κ g 0 0 _ = Q
  refine x_iload_n dX9_isPeople_0 rfl ?_
  have J1_4 : ∀ (v3 : Int32), v3 = (if pp < 0 then 0 else ((if (nI gr) ≤ pp then 0 else 1))) → Xs κ g 1 0 0 cX9_isPeople yX9_isPeople (some .boolean) Q 0 0 19 [some (.ref aN), some (.int pp)] [.int v3] [(aN, .inr (9, [.ref aNs, .ref aNk, .int nkp, .ref aNf, .ref aNr, .ref aNp, .ref aNb, .ref aNa, .ref aNt, .int (nI nts), .ref aNbo, .ref aNsz, .ref aNnu, .int (nI nta), .int (nI nop), .int nbd, .int ntp, .int (nI npr), .int nnw, .int nsn, .int nwn, .ref aNl, .ref aNal, .ref aNlo, .int (nI nac), .ref aNw, .ref aNtr, .ref aNis, .ref aNbg, .ref aNow])), (aNs, .inl (g.2.1 0, 919, .inl (msF gr wk z lk sz br ru ki ma bb ce hd)))] := by
    intro v3 ev3
    rw [← hQ]
    refine x_zret dX9_isPeople_19 rfl (by simp only [ev3, pp_eq _ hgr]; exact wI_nar _ _ _) (Nat.le_of_ble_eq_true rfl) (Nat.le_of_ble_eq_true rfl) ?_
    exact ⟨by simp only [ev3, pp_eq _ hgr], rfl⟩
  refine x_if_lt dX9_isPeople_1 (fun c1 => ?_) (fun c1 => ?_)
  · have c1 : pp < 0 := c1
    refine x_iconst 0 dX9_isPeople_18 (by decide) ?_
    exact J1_4 _ (if_pos c1).symm
  · have c1 : ¬ (pp < 0) := c1
    refine x_iload_n dX9_isPeople_4 rfl ?_
    refine x_aload_n dX9_isPeople_5 rfl ?_
    refine x_get dX9_isPeople_6 0 0 inX9 fl_X9_7 rfl rfl (by decide) rfl ?_
    refine x_iconst 0 dX9_isPeople_9 (by decide) ?_
    refine x_iald dX9_isPeople_10 1 0 rfl (rfl) (by decide) (by decide) ?_
    refine x_rei (nI gr) (rfl) ?_
    have J11_6 : ∀ (v5 : Int32), v5 = (if (nI gr) ≤ pp then 0 else 1) → Xs κ g 1 0 0 cX9_isPeople yX9_isPeople (some .boolean) Q 0 0 19 [some (.ref aN), some (.int pp)] [.int v5] [(aN, .inr (9, [.ref aNs, .ref aNk, .int nkp, .ref aNf, .ref aNr, .ref aNp, .ref aNb, .ref aNa, .ref aNt, .int (nI nts), .ref aNbo, .ref aNsz, .ref aNnu, .int (nI nta), .int (nI nop), .int nbd, .int ntp, .int (nI npr), .int nnw, .int nsn, .int nwn, .ref aNl, .ref aNal, .ref aNlo, .int (nI nac), .ref aNw, .ref aNtr, .ref aNis, .ref aNbg, .ref aNow])), (aNs, .inl (g.2.1 0, 919, .inl (msF gr wk z lk sz br ru ki ma bb ce hd)))] := by
      intro v5 ev5
      exact J1_4 _ (by rw [if_neg c1]; try simp only [ev5])
    refine x_icmp_ge dX9_isPeople_11 (fun c11 => ?_) (fun c11 => ?_)
    · have c11 : (nI gr) ≤ pp := c11
      refine x_iconst 0 dX9_isPeople_18 (by decide) ?_
      exact J11_6 _ (if_pos c11).symm
    · have c11 : ¬ ((nI gr) ≤ pp) := c11
      refine x_iconst 1 dX9_isPeople_14 (by decide) ?_
      refine x_goto dX9_isPeople_15 ?_
      exact J11_6 _ (if_neg c11).symm

-- == nPeople_n ==
theorem ct_nPeople_n (l : Launch) (g : XG) (aN aNs aNk aNf aNr aNp aNb aNa aNt aNbo aNsz aNnu aNl aNal aNlo aNw aNtr aNis aNbg aNow nts nta nop npr nac : Nat) (nkp nbd ntp nnw nsn nwn : Int32) (gr wk lk sz br : Nat) (z : Int32) (ru ki ma bb hd : Nat → Nat) (ce : Nat → Int32) (q : Nat) (hq : q < gr ∧ gr ≤ 12) : Ct l g 1 0 0 yX9_isPeople cX9_isPeople 2 (some .boolean) [.ref aN, .int (nI q)] [(aN, .inr (9, [.ref aNs, .ref aNk, .int nkp, .ref aNf, .ref aNr, .ref aNp, .ref aNb, .ref aNa, .ref aNt, .int (nI nts), .ref aNbo, .ref aNsz, .ref aNnu, .int (nI nta), .int (nI nop), .int nbd, .int ntp, .int (nI npr), .int nnw, .int nsn, .int nwn, .ref aNl, .ref aNal, .ref aNlo, .int (nI nac), .ref aNw, .ref aNtr, .ref aNis, .ref aNbg, .ref aNow])), (aNs, .inl (g.2.1 0, 919, .inl (msF gr wk z lk sz br ru ki ma bb ce hd)))] (xpi (1) [(aN, .inr (9, [.ref aNs, .ref aNk, .int nkp, .ref aNf, .ref aNr, .ref aNp, .ref aNb, .ref aNa, .ref aNt, .int (nI nts), .ref aNbo, .ref aNsz, .ref aNnu, .int (nI nta), .int (nI nop), .int nbd, .int ntp, .int (nI npr), .int nnw, .int nsn, .int nwn, .ref aNl, .ref aNal, .ref aNlo, .int (nI nac), .ref aNw, .ref aNtr, .ref aNis, .ref aNbg, .ref aNow])), (aNs, .inl (g.2.1 0, 919, .inl (msF gr wk z lk sz br ru ki ma bb ce hd)))]) := by
  have h := ct_X9_isPeople l g aN aNs aNk aNf aNr aNp aNb aNa aNt aNbo aNsz aNnu aNl aNal aNlo aNw aNtr aNis aNbg aNow nts nta nop npr nac nkp nbd ntp nnw nsn nwn gr wk lk sz br z ru ki ma bb hd ce (nI q) hq.2
  rw [show wI (nI q) 0 (nI gr - 1) = 1 from by rw [show nI gr - 1 = nI (gr - 1) from nI_isub gr 1 (by omega)]; exact wI_nat (a := 0) ⟨Nat.zero_le _, by omega, by omega, by omega⟩] at h
  exact h

-- == X9_has ==
theorem dX9_has_0 : xd cX9_has 0 (.iload_n 0) 1 1 := ⟨by decide +kernel, rfl⟩
theorem dX9_has_1 : xd cX9_has 1 (.iload_n 1) 1 2 := ⟨by decide +kernel, rfl⟩
theorem dX9_has_2 : xd cX9_has 2 .ishr 1 3 := ⟨by decide +kernel, rfl⟩
theorem dX9_has_3 : xd cX9_has 3 (.iconst 1) 1 4 := ⟨by decide +kernel, rfl⟩
theorem dX9_has_4 : xd cX9_has 4 .iand 1 5 := ⟨by decide +kernel, rfl⟩
theorem dX9_has_5 : xd cX9_has 5 (.iconst 1) 1 6 := ⟨by decide +kernel, rfl⟩
theorem dX9_has_6 : xj cX9_has 6 (.if_icmp .ne) 9 13 := ⟨7, by decide +kernel, rfl, by decide⟩
theorem dX9_has_9 : xd cX9_has 9 (.iconst 1) 1 10 := ⟨by decide +kernel, rfl⟩
theorem dX9_has_10 : xj cX9_has 10 .goto 13 14 := ⟨4, by decide +kernel, rfl, by decide⟩
theorem dX9_has_13 : xd cX9_has 13 (.iconst 0) 1 14 := ⟨by decide +kernel, rfl⟩
theorem dX9_has_14 : xd cX9_has 14 .ireturn 1 15 := ⟨by decide +kernel, rfl⟩

set_option maxRecDepth 100000 in
set_option maxHeartbeats 4000000 in
theorem ct_X9_has (l : Launch) (g : XG) (r n : Nat) (hn : n < 31) : Ct l g 1 0 0 yX9_has cX9_has 2 (some .boolean) [.int (nI r), .int (nI n)] [] (xpi (nI (bitN r n)) []) := by
  refine Ct.ofX (lv := [some (.int (nI r)), some (.int (nI n))]) (by decide) rfl (Nat.le_of_ble_eq_true rfl) (fun κ => ?_)
  generalize hQ : xQ κ g 0 0 _ = Q
  refine x_iload_n dX9_has_0 rfl ?_
  refine x_iload_n dX9_has_1 rfl ?_
  refine x_ishr dX9_has_2 ?_
  refine x_iconst 1 dX9_has_3 (by decide) ?_
  refine x_iand dX9_has_4 ?_
  refine x_rei (nI (bitN r n)) (shr_bit (by omega)) ?_
  refine x_iconst 1 dX9_has_5 (by decide) ?_
  have J6_2 : ∀ (v1 : Int32), v1 = (if (nI (bitN r n)) = 1 then 1 else 0) → Xs κ g 1 0 0 cX9_has yX9_has (some .boolean) Q 0 0 14 [some (.int (nI r)), some (.int (nI n))] [.int v1] [] := by
    intro v1 ev1
    rw [← hQ]
    refine x_zret dX9_has_14 rfl (by simp only [ev1, bit_if]; exact z01 (bit01 _ _)) (Nat.le_of_ble_eq_true rfl) (Nat.le_of_ble_eq_true rfl) ?_
    exact ⟨by simp only [ev1, bit_if], rfl⟩
  refine x_icmp_ne dX9_has_6 (fun c6 => ?_) (fun c6 => ?_)
  · have c6 : ¬ ((nI (bitN r n)) = 1) := c6
    refine x_iconst 0 dX9_has_13 (by decide) ?_
    exact J6_2 _ (if_neg c6).symm
  · have c6 : (nI (bitN r n)) = 1 := c6
    refine x_iconst 1 dX9_has_9 (by decide) ?_
    refine x_goto dX9_has_10 ?_
    exact J6_2 _ (if_pos c6).symm

-- == above_0 ==
theorem dX9_above_0 : xd cX9_above 0 (.iload_n 0) 1 1 := ⟨by decide +kernel, rfl⟩
theorem dX9_above_1 : decode cX9_above 1 = .ok (.tableswitch 56 0 7 #[47, 56, 56, 56, 56, 49, 51, 53], 47) := by decide +kernel
theorem dX9_above_48 : xd cX9_above 48 (.iconst (-1)) 1 49 := ⟨by decide +kernel, rfl⟩
theorem dX9_above_49 : xd cX9_above 49 .ireturn 1 50 := ⟨by decide +kernel, rfl⟩
theorem dX9_above_50 : xd cX9_above 50 (.iconst 1) 1 51 := ⟨by decide +kernel, rfl⟩
theorem dX9_above_51 : xd cX9_above 51 .ireturn 1 52 := ⟨by decide +kernel, rfl⟩
theorem dX9_above_52 : xd cX9_above 52 (.iconst 3) 1 53 := ⟨by decide +kernel, rfl⟩
theorem dX9_above_53 : xd cX9_above 53 .ireturn 1 54 := ⟨by decide +kernel, rfl⟩
theorem dX9_above_54 : xd cX9_above 54 (.bipush 6) 2 56 := ⟨by decide +kernel, rfl⟩
theorem dX9_above_56 : xd cX9_above 56 .ireturn 1 57 := ⟨by decide +kernel, rfl⟩
theorem dX9_above_57 : xd cX9_above 57 (.iconst 0) 1 58 := ⟨by decide +kernel, rfl⟩
theorem dX9_above_58 : xd cX9_above 58 .ireturn 1 59 := ⟨by decide +kernel, rfl⟩

set_option maxRecDepth 100000 in
set_option maxHeartbeats 4000000 in
theorem ct_above_0 (l : Launch) (g : XG)  : Ct l g 1 0 0 yX9_above cX9_above 1 (some .int) [.int 0] [] (xpi ((-1)) []) := by
  refine Ct.ofX (lv := [some (.int 0)]) (by decide) rfl (Nat.le_of_ble_eq_true rfl) (fun κ => ?_)
  generalize hQ : xQ κ g 0 0 _ = Q
  refine x_iload_n dX9_above_0 rfl ?_
  refine x_tabIn (off := 47) 48 dX9_above_1 (by decide) (by decide) rfl (by decide) ?_
  refine x_iconst (-1) dX9_above_48 (by decide) ?_
  rw [← hQ]
  refine x_iret dX9_above_49 rfl (Nat.le_of_ble_eq_true rfl) (Nat.le_of_ble_eq_true rfl) ?_
  exact ⟨rfl, rfl⟩

-- == above_1 ==
set_option maxRecDepth 100000 in
set_option maxHeartbeats 4000000 in
theorem ct_above_1 (l : Launch) (g : XG)  : Ct l g 1 0 0 yX9_above cX9_above 1 (some .int) [.int 1] [] (xpi (nI (0)) []) := by
  refine Ct.ofX (lv := [some (.int 1)]) (by decide) rfl (Nat.le_of_ble_eq_true rfl) (fun κ => ?_)
  generalize hQ : xQ κ g 0 0 _ = Q
  refine x_iload_n dX9_above_0 rfl ?_
  refine x_tabIn (off := 56) 57 dX9_above_1 (by decide) (by decide) rfl (by decide) ?_
  refine x_iconst 0 dX9_above_57 (by decide) ?_
  rw [← hQ]
  refine x_iret dX9_above_58 rfl (Nat.le_of_ble_eq_true rfl) (Nat.le_of_ble_eq_true rfl) ?_
  exact ⟨rfl, rfl⟩

-- == above_2 ==
set_option maxRecDepth 100000 in
set_option maxHeartbeats 4000000 in
theorem ct_above_2 (l : Launch) (g : XG)  : Ct l g 1 0 0 yX9_above cX9_above 1 (some .int) [.int 2] [] (xpi (nI (0)) []) := by
  refine Ct.ofX (lv := [some (.int 2)]) (by decide) rfl (Nat.le_of_ble_eq_true rfl) (fun κ => ?_)
  generalize hQ : xQ κ g 0 0 _ = Q
  refine x_iload_n dX9_above_0 rfl ?_
  refine x_tabIn (off := 56) 57 dX9_above_1 (by decide) (by decide) rfl (by decide) ?_
  refine x_iconst 0 dX9_above_57 (by decide) ?_
  rw [← hQ]
  refine x_iret dX9_above_58 rfl (Nat.le_of_ble_eq_true rfl) (Nat.le_of_ble_eq_true rfl) ?_
  exact ⟨rfl, rfl⟩

-- == above_3 ==
set_option maxRecDepth 100000 in
set_option maxHeartbeats 4000000 in
theorem ct_above_3 (l : Launch) (g : XG)  : Ct l g 1 0 0 yX9_above cX9_above 1 (some .int) [.int 3] [] (xpi (nI (0)) []) := by
  refine Ct.ofX (lv := [some (.int 3)]) (by decide) rfl (Nat.le_of_ble_eq_true rfl) (fun κ => ?_)
  generalize hQ : xQ κ g 0 0 _ = Q
  refine x_iload_n dX9_above_0 rfl ?_
  refine x_tabIn (off := 56) 57 dX9_above_1 (by decide) (by decide) rfl (by decide) ?_
  refine x_iconst 0 dX9_above_57 (by decide) ?_
  rw [← hQ]
  refine x_iret dX9_above_58 rfl (Nat.le_of_ble_eq_true rfl) (Nat.le_of_ble_eq_true rfl) ?_
  exact ⟨rfl, rfl⟩

-- == above_4 ==
set_option maxRecDepth 100000 in
set_option maxHeartbeats 4000000 in
theorem ct_above_4 (l : Launch) (g : XG)  : Ct l g 1 0 0 yX9_above cX9_above 1 (some .int) [.int 4] [] (xpi (nI (0)) []) := by
  refine Ct.ofX (lv := [some (.int 4)]) (by decide) rfl (Nat.le_of_ble_eq_true rfl) (fun κ => ?_)
  generalize hQ : xQ κ g 0 0 _ = Q
  refine x_iload_n dX9_above_0 rfl ?_
  refine x_tabIn (off := 56) 57 dX9_above_1 (by decide) (by decide) rfl (by decide) ?_
  refine x_iconst 0 dX9_above_57 (by decide) ?_
  rw [← hQ]
  refine x_iret dX9_above_58 rfl (Nat.le_of_ble_eq_true rfl) (Nat.le_of_ble_eq_true rfl) ?_
  exact ⟨rfl, rfl⟩

-- == above_5 ==
set_option maxRecDepth 100000 in
set_option maxHeartbeats 4000000 in
theorem ct_above_5 (l : Launch) (g : XG)  : Ct l g 1 0 0 yX9_above cX9_above 1 (some .int) [.int 5] [] (xpi (nI (1)) []) := by
  refine Ct.ofX (lv := [some (.int 5)]) (by decide) rfl (Nat.le_of_ble_eq_true rfl) (fun κ => ?_)
  generalize hQ : xQ κ g 0 0 _ = Q
  refine x_iload_n dX9_above_0 rfl ?_
  refine x_tabIn (off := 49) 50 dX9_above_1 (by decide) (by decide) rfl (by decide) ?_
  refine x_iconst 1 dX9_above_50 (by decide) ?_
  rw [← hQ]
  refine x_iret dX9_above_51 rfl (Nat.le_of_ble_eq_true rfl) (Nat.le_of_ble_eq_true rfl) ?_
  exact ⟨rfl, rfl⟩

-- == above_6 ==
set_option maxRecDepth 100000 in
set_option maxHeartbeats 4000000 in
theorem ct_above_6 (l : Launch) (g : XG)  : Ct l g 1 0 0 yX9_above cX9_above 1 (some .int) [.int 6] [] (xpi (nI (3)) []) := by
  refine Ct.ofX (lv := [some (.int 6)]) (by decide) rfl (Nat.le_of_ble_eq_true rfl) (fun κ => ?_)
  generalize hQ : xQ κ g 0 0 _ = Q
  refine x_iload_n dX9_above_0 rfl ?_
  refine x_tabIn (off := 51) 52 dX9_above_1 (by decide) (by decide) rfl (by decide) ?_
  refine x_iconst 3 dX9_above_52 (by decide) ?_
  rw [← hQ]
  refine x_iret dX9_above_53 rfl (Nat.le_of_ble_eq_true rfl) (Nat.le_of_ble_eq_true rfl) ?_
  exact ⟨rfl, rfl⟩

-- == above_7 ==
set_option maxRecDepth 100000 in
set_option maxHeartbeats 4000000 in
theorem ct_above_7 (l : Launch) (g : XG)  : Ct l g 1 0 0 yX9_above cX9_above 1 (some .int) [.int 7] [] (xpi (nI (6)) []) := by
  refine Ct.ofX (lv := [some (.int 7)]) (by decide) rfl (Nat.le_of_ble_eq_true rfl) (fun κ => ?_)
  generalize hQ : xQ κ g 0 0 _ = Q
  refine x_iload_n dX9_above_0 rfl ?_
  refine x_tabIn (off := 53) 54 dX9_above_1 (by decide) (by decide) rfl (by decide) ?_
  refine x_bipush 6 dX9_above_54 (by decide) ?_
  rw [← hQ]
  refine x_iret dX9_above_56 rfl (Nat.le_of_ble_eq_true rfl) (Nat.le_of_ble_eq_true rfl) ?_
  exact ⟨rfl, rfl⟩

-- == nplace_b1 ==
theorem dX9_place_0 : xd cX9_place 0 (.iload_n 1) 1 1 := ⟨by decide +kernel, rfl⟩
theorem dX9_place_1 : xj cX9_place 1 (.ifCond .lt) 4 20 := ⟨19, by decide +kernel, rfl, by decide⟩
theorem dX9_place_4 : xd cX9_place 4 (.iload_n 1) 1 5 := ⟨by decide +kernel, rfl⟩
theorem dX9_place_5 : xd cX9_place 5 (.sipush 4095) 3 8 := ⟨by decide +kernel, rfl⟩
theorem dX9_place_8 : xj cX9_place 8 (.if_icmp .gt) 11 20 := ⟨12, by decide +kernel, rfl, by decide⟩
theorem dX9_place_11 : xd cX9_place 11 (.aload_n 0) 1 12 := ⟨by decide +kernel, rfl⟩
theorem dX9_place_12 : xd cX9_place 12 (.getfield 22) 3 15 := ⟨by decide +kernel, rfl⟩
theorem dX9_place_15 : xd cX9_place 15 (.iload_n 1) 1 16 := ⟨by decide +kernel, rfl⟩
theorem dX9_place_16 : xd cX9_place 16 .iaload 1 17 := ⟨by decide +kernel, rfl⟩
theorem dX9_place_17 : xj cX9_place 17 (.ifCond .ge) 20 29 := ⟨12, by decide +kernel, rfl, by decide⟩
theorem dX9_place_20 : xd cX9_place 20 (.aload_n 0) 1 21 := ⟨by decide +kernel, rfl⟩
theorem dX9_place_21 : xd cX9_place 21 (.ldc 87) 2 23 := ⟨by decide +kernel, rfl⟩
theorem dX9_place_23 : xd cX9_place 23 (.invokevirtual 88) 3 26 := ⟨by decide +kernel, rfl⟩
theorem dX9_place_26 : xj cX9_place 26 .goto 29 35 := ⟨9, by decide +kernel, rfl, by decide⟩
theorem dX9_place_29 : xd cX9_place 29 (.aload_n 0) 1 30 := ⟨by decide +kernel, rfl⟩
theorem dX9_place_30 : xd cX9_place 30 (.getfield 22) 3 33 := ⟨by decide +kernel, rfl⟩
theorem dX9_place_33 : xd cX9_place 33 (.iload_n 1) 1 34 := ⟨by decide +kernel, rfl⟩
theorem dX9_place_34 : xd cX9_place 34 .iaload 1 35 := ⟨by decide +kernel, rfl⟩
theorem dX9_place_35 : xd cX9_place 35 .ireturn 1 36 := ⟨by decide +kernel, rfl⟩

set_option maxRecDepth 100000 in
set_option maxHeartbeats 4000000 in
theorem ct_nplace_b1 (l : Launch) (g : XG) (aN aNs aNk aNf aNr aNp aNb aNa aNt aNbo aNsz aNnu aNl aNal aNlo aNw aNtr aNis aNbg aNow nts nta nop npr nac : Nat) (nkp nbd ntp nnw nsn nwn : Int32) (fi : Nat → Nat) (x : Int32) (hx : x < 0) : Ct l g 30 0 0 yX9_place cX9_place 2 (some .int) [.ref aN, .int x] [(aN, .inr (9, [.ref aNs, .ref aNk, .int nkp, .ref aNf, .ref aNr, .ref aNp, .ref aNb, .ref aNa, .ref aNt, .int (nI nts), .ref aNbo, .ref aNsz, .ref aNnu, .int (nI nta), .int (nI nop), .int nbd, .int ntp, .int (nI npr), .int nnw, .int nsn, .int nwn, .ref aNl, .ref aNal, .ref aNlo, .int (nI nac), .ref aNw, .ref aNtr, .ref aNis, .ref aNbg, .ref aNow])), (aNf, .inl (g.2.1 0, 8, .inl (nIf (fnF fi)))), (aNp, .inl (g.2.1 0, 4096, .inl plI))] (xpi (fndI 0) [(aN, .inr (9, [.ref aNs, .ref aNk, .int nkp, .ref aNf, .ref aNr, .ref aNp, .ref aNb, .ref aNa, .ref aNt, .int (nI nts), .ref aNbo, .ref aNsz, .ref aNnu, .int (nI nta), .int (nI nop), .int nbd, .int ntp, .int (nI npr), .int nnw, .int nsn, .int nwn, .ref aNl, .ref aNal, .ref aNlo, .int (nI nac), .ref aNw, .ref aNtr, .ref aNis, .ref aNbg, .ref aNow])), (aNf, .inl (g.2.1 0, 8, .inl (nIf (fnF (updN fi 0 (fi 0 + 1)))))), (aNp, .inl (g.2.1 0, 4096, .inl plI))]) := by
  refine Ct.ofX (lv := [some (.ref aN), some (.int x)]) (by decide) rfl (Nat.le_of_ble_eq_true rfl) (fun κ => ?_)
  generalize hQ : xQ κ g 0 0 _ = Q
  refine x_iload_n dX9_place_0 rfl ?_
  refine x_if_lt dX9_place_1 (fun c1 => ?_) (fun c1 => ?_)
  · have c1 : x < 0 := c1
    refine x_aload_n dX9_place_20 rfl ?_
    refine x_ldc dX9_place_21 k_X9_87 ?_
    refine x_cVi (ws' := [(aN, .inr (9, [.ref aNs, .ref aNk, .int nkp, .ref aNf, .ref aNr, .ref aNp, .ref aNb, .ref aNa, .ref aNt, .int (nI nts), .ref aNbo, .ref aNsz, .ref aNnu, .int (nI nta), .int (nI nop), .int nbd, .int ntp, .int (nI npr), .int nnw, .int nsn, .int nwn, .ref aNl, .ref aNal, .ref aNlo, .int (nI nac), .ref aNw, .ref aNtr, .ref aNis, .ref aNbg, .ref aNow])), (aNf, .inl (g.2.1 0, 8, .inl (nIf (fnF (updN fi 0 (fi 0 + 1)))))), (aNp, .inl (g.2.1 0, 4096, .inl plI))]) dX9_place_23 ml_X9_88 mX9_finds (ct_finds_0 κ.2.1 g aN aNs aNk aNf aNr aNp aNb aNa aNt aNbo aNsz aNnu aNl aNal aNlo aNw aNtr aNis aNbg aNow nts nta nop npr nac nkp nbd ntp nnw nsn nwn fi) [0, 1] rfl rfl 0 rfl rfl rfl (Nat.le_of_ble_eq_true rfl) (by decide) (Nat.le_refl _) (Nat.le_refl _) (rfl : [aN, aNf] = [aN, aNf]) rfl ?_
    refine x_goto dX9_place_26 ?_
    rw [← hQ]
    refine x_iret dX9_place_35 rfl (Nat.le_of_ble_eq_true rfl) (Nat.le_of_ble_eq_true rfl) ?_
    exact ⟨rfl, rfl⟩
  · have c1 : ¬ (x < 0) := c1
    exact absurd hx c1

-- == nplace_b2 ==
set_option maxRecDepth 100000 in
set_option maxHeartbeats 4000000 in
theorem ct_nplace_b2 (l : Launch) (g : XG) (aN aNs aNk aNf aNr aNp aNb aNa aNt aNbo aNsz aNnu aNl aNal aNlo aNw aNtr aNis aNbg aNow nts nta nop npr nac : Nat) (nkp nbd ntp nnw nsn nwn : Int32) (fi : Nat → Nat) (x : Int32) (hx : ¬ x < 0) (hx2 : 4095 < x) : Ct l g 30 0 0 yX9_place cX9_place 2 (some .int) [.ref aN, .int x] [(aN, .inr (9, [.ref aNs, .ref aNk, .int nkp, .ref aNf, .ref aNr, .ref aNp, .ref aNb, .ref aNa, .ref aNt, .int (nI nts), .ref aNbo, .ref aNsz, .ref aNnu, .int (nI nta), .int (nI nop), .int nbd, .int ntp, .int (nI npr), .int nnw, .int nsn, .int nwn, .ref aNl, .ref aNal, .ref aNlo, .int (nI nac), .ref aNw, .ref aNtr, .ref aNis, .ref aNbg, .ref aNow])), (aNf, .inl (g.2.1 0, 8, .inl (nIf (fnF fi)))), (aNp, .inl (g.2.1 0, 4096, .inl plI))] (xpi (fndI 0) [(aN, .inr (9, [.ref aNs, .ref aNk, .int nkp, .ref aNf, .ref aNr, .ref aNp, .ref aNb, .ref aNa, .ref aNt, .int (nI nts), .ref aNbo, .ref aNsz, .ref aNnu, .int (nI nta), .int (nI nop), .int nbd, .int ntp, .int (nI npr), .int nnw, .int nsn, .int nwn, .ref aNl, .ref aNal, .ref aNlo, .int (nI nac), .ref aNw, .ref aNtr, .ref aNis, .ref aNbg, .ref aNow])), (aNf, .inl (g.2.1 0, 8, .inl (nIf (fnF (updN fi 0 (fi 0 + 1)))))), (aNp, .inl (g.2.1 0, 4096, .inl plI))]) := by
  refine Ct.ofX (lv := [some (.ref aN), some (.int x)]) (by decide) rfl (Nat.le_of_ble_eq_true rfl) (fun κ => ?_)
  generalize hQ : xQ κ g 0 0 _ = Q
  refine x_iload_n dX9_place_0 rfl ?_
  refine x_if_lt dX9_place_1 (fun c1 => ?_) (fun c1 => ?_)
  · have c1 : x < 0 := c1
    exact absurd c1 hx
  · have c1 : ¬ (x < 0) := c1
    refine x_iload_n dX9_place_4 rfl ?_
    refine x_sipush 4095 dX9_place_5 (by decide) ?_
    refine x_icmp_gt dX9_place_8 (fun c8 => ?_) (fun c8 => ?_)
    · have c8 : 4095 < x := c8
      refine x_aload_n dX9_place_20 rfl ?_
      refine x_ldc dX9_place_21 k_X9_87 ?_
      refine x_cVi (ws' := [(aN, .inr (9, [.ref aNs, .ref aNk, .int nkp, .ref aNf, .ref aNr, .ref aNp, .ref aNb, .ref aNa, .ref aNt, .int (nI nts), .ref aNbo, .ref aNsz, .ref aNnu, .int (nI nta), .int (nI nop), .int nbd, .int ntp, .int (nI npr), .int nnw, .int nsn, .int nwn, .ref aNl, .ref aNal, .ref aNlo, .int (nI nac), .ref aNw, .ref aNtr, .ref aNis, .ref aNbg, .ref aNow])), (aNf, .inl (g.2.1 0, 8, .inl (nIf (fnF (updN fi 0 (fi 0 + 1)))))), (aNp, .inl (g.2.1 0, 4096, .inl plI))]) dX9_place_23 ml_X9_88 mX9_finds (ct_finds_0 κ.2.1 g aN aNs aNk aNf aNr aNp aNb aNa aNt aNbo aNsz aNnu aNl aNal aNlo aNw aNtr aNis aNbg aNow nts nta nop npr nac nkp nbd ntp nnw nsn nwn fi) [0, 1] rfl rfl 0 rfl rfl rfl (Nat.le_of_ble_eq_true rfl) (by decide) (Nat.le_refl _) (Nat.le_refl _) (rfl : [aN, aNf] = [aN, aNf]) rfl ?_
      refine x_goto dX9_place_26 ?_
      rw [← hQ]
      refine x_iret dX9_place_35 rfl (Nat.le_of_ble_eq_true rfl) (Nat.le_of_ble_eq_true rfl) ?_
      exact ⟨rfl, rfl⟩
    · have c8 : ¬ (4095 < x) := c8
      exact absurd hx2 c8

-- == nplace_b3 ==
set_option maxRecDepth 100000 in
set_option maxHeartbeats 4000000 in
theorem ct_nplace_b3 (l : Launch) (g : XG) (aN aNs aNk aNf aNr aNp aNb aNa aNt aNbo aNsz aNnu aNl aNal aNlo aNw aNtr aNis aNbg aNow nts nta nop npr nac : Nat) (nkp nbd ntp nnw nsn nwn : Int32) (fi : Nat → Nat) (r : Nat) (hr : r < 4096) (hp : popN r ≠ 4) : Ct l g 30 0 0 yX9_place cX9_place 2 (some .int) [.ref aN, .int (nI r)] [(aN, .inr (9, [.ref aNs, .ref aNk, .int nkp, .ref aNf, .ref aNr, .ref aNp, .ref aNb, .ref aNa, .ref aNt, .int (nI nts), .ref aNbo, .ref aNsz, .ref aNnu, .int (nI nta), .int (nI nop), .int nbd, .int ntp, .int (nI npr), .int nnw, .int nsn, .int nwn, .ref aNl, .ref aNal, .ref aNlo, .int (nI nac), .ref aNw, .ref aNtr, .ref aNis, .ref aNbg, .ref aNow])), (aNf, .inl (g.2.1 0, 8, .inl (nIf (fnF fi)))), (aNp, .inl (g.2.1 0, 4096, .inl plI))] (xpi (fndI 0) [(aN, .inr (9, [.ref aNs, .ref aNk, .int nkp, .ref aNf, .ref aNr, .ref aNp, .ref aNb, .ref aNa, .ref aNt, .int (nI nts), .ref aNbo, .ref aNsz, .ref aNnu, .int (nI nta), .int (nI nop), .int nbd, .int ntp, .int (nI npr), .int nnw, .int nsn, .int nwn, .ref aNl, .ref aNal, .ref aNlo, .int (nI nac), .ref aNw, .ref aNtr, .ref aNis, .ref aNbg, .ref aNow])), (aNf, .inl (g.2.1 0, 8, .inl (nIf (fnF (updN fi 0 (fi 0 + 1)))))), (aNp, .inl (g.2.1 0, 4096, .inl plI))]) := by
  refine Ct.ofX (lv := [some (.ref aN), some (.int (nI r))]) (by decide) rfl (Nat.le_of_ble_eq_true rfl) (fun κ => ?_)
  generalize hQ : xQ κ g 0 0 _ = Q
  refine x_iload_n dX9_place_0 rfl ?_
  refine x_if_lt dX9_place_1 (fun c1 => ?_) (fun c1 => ?_)
  · have c1 : (nI r) < 0 := c1
    have c1n := (nI_ltI (a := r) (b := 0) (by omega) (by omega)).mp c1
    exact absurd c1n (by omega)
  · have c1 : ¬ ((nI r) < 0) := c1
    have c1n := mt (nI_ltI (a := r) (b := 0) (by omega) (by omega)).mpr c1
    refine x_iload_n dX9_place_4 rfl ?_
    refine x_sipush 4095 dX9_place_5 (by decide) ?_
    refine x_icmp_gt dX9_place_8 (fun c8 => ?_) (fun c8 => ?_)
    · have c8 : 4095 < (nI r) := c8
      have c8n := (nI_ltI (a := 4095) (b := r) (by omega) (by omega)).mp c8
      exact absurd c8n (by omega)
    · have c8 : ¬ (4095 < (nI r)) := c8
      have c8n := mt (nI_ltI (a := 4095) (b := r) (by omega) (by omega)).mpr c8
      refine x_aload_n dX9_place_11 rfl ?_
      refine x_get dX9_place_12 0 5 inX9 fl_X9_22 rfl rfl (by decide) rfl ?_
      refine x_iload_n dX9_place_15 rfl ?_
      refine x_iald dX9_place_16 2 r rfl (rfl) (by omega) (by decide) ?_
      refine x_rei ((-1)) (if_neg hp) ?_
      refine x_if_ge dX9_place_17 (fun c17 => ?_) (fun c17 => ?_)
      · exact absurd c17 (by decide)
      refine x_aload_n dX9_place_20 rfl ?_
      refine x_ldc dX9_place_21 k_X9_87 ?_
      refine x_cVi (ws' := [(aN, .inr (9, [.ref aNs, .ref aNk, .int nkp, .ref aNf, .ref aNr, .ref aNp, .ref aNb, .ref aNa, .ref aNt, .int (nI nts), .ref aNbo, .ref aNsz, .ref aNnu, .int (nI nta), .int (nI nop), .int nbd, .int ntp, .int (nI npr), .int nnw, .int nsn, .int nwn, .ref aNl, .ref aNal, .ref aNlo, .int (nI nac), .ref aNw, .ref aNtr, .ref aNis, .ref aNbg, .ref aNow])), (aNf, .inl (g.2.1 0, 8, .inl (nIf (fnF (updN fi 0 (fi 0 + 1)))))), (aNp, .inl (g.2.1 0, 4096, .inl plI))]) dX9_place_23 ml_X9_88 mX9_finds (ct_finds_0 κ.2.1 g aN aNs aNk aNf aNr aNp aNb aNa aNt aNbo aNsz aNnu aNl aNal aNlo aNw aNtr aNis aNbg aNow nts nta nop npr nac nkp nbd ntp nnw nsn nwn fi) [0, 1] rfl rfl 0 rfl rfl rfl (Nat.le_of_ble_eq_true rfl) (by decide) (Nat.le_refl _) (Nat.le_refl _) (rfl : [aN, aNf] = [aN, aNf]) rfl ?_
      refine x_goto dX9_place_26 ?_
      rw [← hQ]
      refine x_iret dX9_place_35 rfl (Nat.le_of_ble_eq_true rfl) (Nat.le_of_ble_eq_true rfl) ?_
      exact ⟨rfl, rfl⟩

-- == nplace_b ==
theorem ct_nplace_b (l : Launch) (g : XG) (aN aNs aNk aNf aNr aNp aNb aNa aNt aNbo aNsz aNnu aNl aNal aNlo aNw aNtr aNis aNbg aNow nts nta nop npr nac : Nat) (nkp nbd ntp nnw nsn nwn : Int32) (fi : Nat → Nat) (x : Int32) (hb : isRowI x.toInt64 = 0) : Ct l g 30 0 0 yX9_place cX9_place 2 (some .int) [.ref aN, .int x] [(aN, .inr (9, [.ref aNs, .ref aNk, .int nkp, .ref aNf, .ref aNr, .ref aNp, .ref aNb, .ref aNa, .ref aNt, .int (nI nts), .ref aNbo, .ref aNsz, .ref aNnu, .int (nI nta), .int (nI nop), .int nbd, .int ntp, .int (nI npr), .int nnw, .int nsn, .int nwn, .ref aNl, .ref aNal, .ref aNlo, .int (nI nac), .ref aNw, .ref aNtr, .ref aNis, .ref aNbg, .ref aNow])), (aNf, .inl (g.2.1 0, 8, .inl (nIf (fnF fi)))), (aNp, .inl (g.2.1 0, 4096, .inl plI))] (xpi (fndI 0) [(aN, .inr (9, [.ref aNs, .ref aNk, .int nkp, .ref aNf, .ref aNr, .ref aNp, .ref aNb, .ref aNa, .ref aNt, .int (nI nts), .ref aNbo, .ref aNsz, .ref aNnu, .int (nI nta), .int (nI nop), .int nbd, .int ntp, .int (nI npr), .int nnw, .int nsn, .int nwn, .ref aNl, .ref aNal, .ref aNlo, .int (nI nac), .ref aNw, .ref aNtr, .ref aNis, .ref aNbg, .ref aNow])), (aNf, .inl (g.2.1 0, 8, .inl (nIf (fnF (updN fi 0 (fi 0 + 1)))))), (aNp, .inl (g.2.1 0, 4096, .inl plI))]) := by
  rcases isRow_cases hb with h | h | ⟨r, rfl, hr, hp⟩
  · exact ct_nplace_b1 l g _ _ _ _ _ _ _ _ _ _ _ _ _ _ _ _ _ _ _ _ _ _ _ _ _ _ _ _ _ _ _ _ _ h
  · by_cases c : x < 0
    · exact ct_nplace_b1 l g _ _ _ _ _ _ _ _ _ _ _ _ _ _ _ _ _ _ _ _ _ _ _ _ _ _ _ _ _ _ _ _ _ c
    · exact ct_nplace_b2 l g _ _ _ _ _ _ _ _ _ _ _ _ _ _ _ _ _ _ _ _ _ _ _ _ _ _ _ _ _ _ _ _ _ c h
  · exact ct_nplace_b3 l g _ _ _ _ _ _ _ _ _ _ _ _ _ _ _ _ _ _ _ _ _ _ _ _ _ _ _ _ _ _ _ _ _ hr hp

-- == ntold_b1 ==
theorem dX9_told_0 : xd cX9_told 0 (.iload_n 1) 1 1 := ⟨by decide +kernel, rfl⟩
theorem dX9_told_1 : xj cX9_told 1 (.ifCond .lt) 4 20 := ⟨19, by decide +kernel, rfl, by decide⟩
theorem dX9_told_4 : xd cX9_told 4 (.iload_n 1) 1 5 := ⟨by decide +kernel, rfl⟩
theorem dX9_told_5 : xd cX9_told 5 (.sipush 4095) 3 8 := ⟨by decide +kernel, rfl⟩
theorem dX9_told_8 : xj cX9_told 8 (.if_icmp .gt) 11 20 := ⟨12, by decide +kernel, rfl, by decide⟩
theorem dX9_told_11 : xd cX9_told 11 (.aload_n 0) 1 12 := ⟨by decide +kernel, rfl⟩
theorem dX9_told_12 : xd cX9_told 12 (.getfield 22) 3 15 := ⟨by decide +kernel, rfl⟩
theorem dX9_told_15 : xd cX9_told 15 (.iload_n 1) 1 16 := ⟨by decide +kernel, rfl⟩
theorem dX9_told_16 : xd cX9_told 16 .iaload 1 17 := ⟨by decide +kernel, rfl⟩
theorem dX9_told_17 : xj cX9_told 17 (.ifCond .ge) 20 27 := ⟨10, by decide +kernel, rfl, by decide⟩
theorem dX9_told_20 : xd cX9_told 20 (.aload_n 0) 1 21 := ⟨by decide +kernel, rfl⟩
theorem dX9_told_21 : xd cX9_told 21 (.ldc 87) 2 23 := ⟨by decide +kernel, rfl⟩
theorem dX9_told_23 : xd cX9_told 23 (.invokevirtual 88) 3 26 := ⟨by decide +kernel, rfl⟩
theorem dX9_told_26 : xd cX9_told 26 .ireturn 1 27 := ⟨by decide +kernel, rfl⟩
theorem dX9_told_27 : xd cX9_told 27 (.aload_n 0) 1 28 := ⟨by decide +kernel, rfl⟩
theorem dX9_told_28 : xd cX9_told 28 (.getfield 7) 3 31 := ⟨by decide +kernel, rfl⟩
theorem dX9_told_31 : xd cX9_told 31 (.iconst 1) 1 32 := ⟨by decide +kernel, rfl⟩
theorem dX9_told_32 : xd cX9_told 32 .iaload 1 33 := ⟨by decide +kernel, rfl⟩
theorem dX9_told_33 : xd cX9_told 33 (.bipush 40) 2 35 := ⟨by decide +kernel, rfl⟩
theorem dX9_told_35 : xj cX9_told 35 (.if_icmp .ne) 38 45 := ⟨10, by decide +kernel, rfl, by decide⟩
theorem dX9_told_38 : xd cX9_told 38 (.aload_n 0) 1 39 := ⟨by decide +kernel, rfl⟩
theorem dX9_told_39 : xd cX9_told 39 (.ldc 104) 2 41 := ⟨by decide +kernel, rfl⟩
theorem dX9_told_41 : xd cX9_told 41 (.invokevirtual 88) 3 44 := ⟨by decide +kernel, rfl⟩
theorem dX9_told_44 : xd cX9_told 44 .ireturn 1 45 := ⟨by decide +kernel, rfl⟩
theorem dX9_told_45 : xd cX9_told 45 (.aload_n 0) 1 46 := ⟨by decide +kernel, rfl⟩
theorem dX9_told_46 : xd cX9_told 46 (.iload_n 1) 1 47 := ⟨by decide +kernel, rfl⟩
theorem dX9_told_47 : xd cX9_told 47 (.invokevirtual 219) 3 50 := ⟨by decide +kernel, rfl⟩
theorem dX9_told_50 : xd cX9_told 50 (.aload_n 0) 1 51 := ⟨by decide +kernel, rfl⟩
theorem dX9_told_51 : xd cX9_told 51 (.getfield 7) 3 54 := ⟨by decide +kernel, rfl⟩
theorem dX9_told_54 : xd cX9_told 54 (.bipush 104) 2 56 := ⟨by decide +kernel, rfl⟩
theorem dX9_told_56 : xd cX9_told 56 (.bipush 8) 2 58 := ⟨by decide +kernel, rfl⟩
theorem dX9_told_58 : xd cX9_told 58 (.aload_n 0) 1 59 := ⟨by decide +kernel, rfl⟩
theorem dX9_told_59 : xd cX9_told 59 (.getfield 7) 3 62 := ⟨by decide +kernel, rfl⟩
theorem dX9_told_62 : xd cX9_told 62 (.iconst 1) 1 63 := ⟨by decide +kernel, rfl⟩
theorem dX9_told_63 : xd cX9_told 63 .iaload 1 64 := ⟨by decide +kernel, rfl⟩
theorem dX9_told_64 : xd cX9_told 64 (.iconst 1) 1 65 := ⟨by decide +kernel, rfl⟩
theorem dX9_told_65 : xd cX9_told 65 .isub 1 66 := ⟨by decide +kernel, rfl⟩
theorem dX9_told_66 : xd cX9_told 66 .imul 1 67 := ⟨by decide +kernel, rfl⟩
theorem dX9_told_67 : xd cX9_told 67 .iadd 1 68 := ⟨by decide +kernel, rfl⟩
theorem dX9_told_68 : xd cX9_told 68 (.iconst 1) 1 69 := ⟨by decide +kernel, rfl⟩
theorem dX9_told_69 : xd cX9_told 69 .iadd 1 70 := ⟨by decide +kernel, rfl⟩
theorem dX9_told_70 : xd cX9_told 70 .iaload 1 71 := ⟨by decide +kernel, rfl⟩
theorem dX9_told_71 : xd cX9_told 71 .ireturn 1 72 := ⟨by decide +kernel, rfl⟩

set_option maxRecDepth 100000 in
set_option maxHeartbeats 4000000 in
theorem ct_ntold_b1 (l : Launch) (g : XG) (aN aNs aNk aNf aNr aNp aNb aNa aNt aNbo aNsz aNnu aNl aNal aNlo aNw aNtr aNis aNbg aNow nts nta nop npr nac : Nat) (nkp nbd ntp nnw nsn nwn : Int32) (fi : Nat → Nat) (gr wk lk sz br : Nat) (z : Int32) (ru ki ma bb hd : Nat → Nat) (ce : Nat → Int32) (x : Int32) (hx : x < 0) : Ct l g 30 0 0 yX9_told cX9_told 2 (some .int) [.ref aN, .int x] [(aN, .inr (9, [.ref aNs, .ref aNk, .int nkp, .ref aNf, .ref aNr, .ref aNp, .ref aNb, .ref aNa, .ref aNt, .int (nI nts), .ref aNbo, .ref aNsz, .ref aNnu, .int (nI nta), .int (nI nop), .int nbd, .int ntp, .int (nI npr), .int nnw, .int nsn, .int nwn, .ref aNl, .ref aNal, .ref aNlo, .int (nI nac), .ref aNw, .ref aNtr, .ref aNis, .ref aNbg, .ref aNow])), (aNf, .inl (g.2.1 0, 8, .inl (nIf (fnF fi)))), (aNp, .inl (g.2.1 0, 4096, .inl plI)), (aNs, .inl (g.2.1 0, 919, .inl (msF gr wk z lk sz br ru ki ma bb ce hd)))] (xpi (fndI 0) [(aN, .inr (9, [.ref aNs, .ref aNk, .int nkp, .ref aNf, .ref aNr, .ref aNp, .ref aNb, .ref aNa, .ref aNt, .int (nI nts), .ref aNbo, .ref aNsz, .ref aNnu, .int (nI nta), .int (nI nop), .int nbd, .int ntp, .int (nI npr), .int nnw, .int nsn, .int nwn, .ref aNl, .ref aNal, .ref aNlo, .int (nI nac), .ref aNw, .ref aNtr, .ref aNis, .ref aNbg, .ref aNow])), (aNf, .inl (g.2.1 0, 8, .inl (nIf (fnF (updN fi 0 (fi 0 + 1)))))), (aNp, .inl (g.2.1 0, 4096, .inl plI)), (aNs, .inl (g.2.1 0, 919, .inl (msF gr wk z lk sz br ru ki ma bb ce hd)))]) := by
  refine Ct.ofX (lv := [some (.ref aN), some (.int x)]) (by decide) rfl (Nat.le_of_ble_eq_true rfl) (fun κ => ?_)
  generalize hQ : xQ κ g 0 0 _ = Q
  refine x_iload_n dX9_told_0 rfl ?_
  refine x_if_lt dX9_told_1 (fun c1 => ?_) (fun c1 => ?_)
  · have c1 : x < 0 := c1
    refine x_aload_n dX9_told_20 rfl ?_
    refine x_ldc dX9_told_21 k_X9_87 ?_
    refine x_cVi (ws' := [(aN, .inr (9, [.ref aNs, .ref aNk, .int nkp, .ref aNf, .ref aNr, .ref aNp, .ref aNb, .ref aNa, .ref aNt, .int (nI nts), .ref aNbo, .ref aNsz, .ref aNnu, .int (nI nta), .int (nI nop), .int nbd, .int ntp, .int (nI npr), .int nnw, .int nsn, .int nwn, .ref aNl, .ref aNal, .ref aNlo, .int (nI nac), .ref aNw, .ref aNtr, .ref aNis, .ref aNbg, .ref aNow])), (aNf, .inl (g.2.1 0, 8, .inl (nIf (fnF (updN fi 0 (fi 0 + 1)))))), (aNp, .inl (g.2.1 0, 4096, .inl plI)), (aNs, .inl (g.2.1 0, 919, .inl (msF gr wk z lk sz br ru ki ma bb ce hd)))]) dX9_told_23 ml_X9_88 mX9_finds (ct_finds_0 κ.2.1 g aN aNs aNk aNf aNr aNp aNb aNa aNt aNbo aNsz aNnu aNl aNal aNlo aNw aNtr aNis aNbg aNow nts nta nop npr nac nkp nbd ntp nnw nsn nwn fi) [0, 1] rfl rfl 0 rfl rfl rfl (Nat.le_of_ble_eq_true rfl) (by decide) (Nat.le_refl _) (Nat.le_refl _) (rfl : [aN, aNf] = [aN, aNf]) rfl ?_
    rw [← hQ]
    refine x_iret dX9_told_26 rfl (Nat.le_of_ble_eq_true rfl) (Nat.le_of_ble_eq_true rfl) ?_
    exact ⟨rfl, rfl⟩
  · have c1 : ¬ (x < 0) := c1
    exact absurd hx c1

-- == ntold_b2 ==
set_option maxRecDepth 100000 in
set_option maxHeartbeats 4000000 in
theorem ct_ntold_b2 (l : Launch) (g : XG) (aN aNs aNk aNf aNr aNp aNb aNa aNt aNbo aNsz aNnu aNl aNal aNlo aNw aNtr aNis aNbg aNow nts nta nop npr nac : Nat) (nkp nbd ntp nnw nsn nwn : Int32) (fi : Nat → Nat) (gr wk lk sz br : Nat) (z : Int32) (ru ki ma bb hd : Nat → Nat) (ce : Nat → Int32) (x : Int32) (hx : ¬ x < 0) (hx2 : 4095 < x) : Ct l g 30 0 0 yX9_told cX9_told 2 (some .int) [.ref aN, .int x] [(aN, .inr (9, [.ref aNs, .ref aNk, .int nkp, .ref aNf, .ref aNr, .ref aNp, .ref aNb, .ref aNa, .ref aNt, .int (nI nts), .ref aNbo, .ref aNsz, .ref aNnu, .int (nI nta), .int (nI nop), .int nbd, .int ntp, .int (nI npr), .int nnw, .int nsn, .int nwn, .ref aNl, .ref aNal, .ref aNlo, .int (nI nac), .ref aNw, .ref aNtr, .ref aNis, .ref aNbg, .ref aNow])), (aNf, .inl (g.2.1 0, 8, .inl (nIf (fnF fi)))), (aNp, .inl (g.2.1 0, 4096, .inl plI)), (aNs, .inl (g.2.1 0, 919, .inl (msF gr wk z lk sz br ru ki ma bb ce hd)))] (xpi (fndI 0) [(aN, .inr (9, [.ref aNs, .ref aNk, .int nkp, .ref aNf, .ref aNr, .ref aNp, .ref aNb, .ref aNa, .ref aNt, .int (nI nts), .ref aNbo, .ref aNsz, .ref aNnu, .int (nI nta), .int (nI nop), .int nbd, .int ntp, .int (nI npr), .int nnw, .int nsn, .int nwn, .ref aNl, .ref aNal, .ref aNlo, .int (nI nac), .ref aNw, .ref aNtr, .ref aNis, .ref aNbg, .ref aNow])), (aNf, .inl (g.2.1 0, 8, .inl (nIf (fnF (updN fi 0 (fi 0 + 1)))))), (aNp, .inl (g.2.1 0, 4096, .inl plI)), (aNs, .inl (g.2.1 0, 919, .inl (msF gr wk z lk sz br ru ki ma bb ce hd)))]) := by
  refine Ct.ofX (lv := [some (.ref aN), some (.int x)]) (by decide) rfl (Nat.le_of_ble_eq_true rfl) (fun κ => ?_)
  generalize hQ : xQ κ g 0 0 _ = Q
  refine x_iload_n dX9_told_0 rfl ?_
  refine x_if_lt dX9_told_1 (fun c1 => ?_) (fun c1 => ?_)
  · have c1 : x < 0 := c1
    exact absurd c1 hx
  · have c1 : ¬ (x < 0) := c1
    refine x_iload_n dX9_told_4 rfl ?_
    refine x_sipush 4095 dX9_told_5 (by decide) ?_
    refine x_icmp_gt dX9_told_8 (fun c8 => ?_) (fun c8 => ?_)
    · have c8 : 4095 < x := c8
      refine x_aload_n dX9_told_20 rfl ?_
      refine x_ldc dX9_told_21 k_X9_87 ?_
      refine x_cVi (ws' := [(aN, .inr (9, [.ref aNs, .ref aNk, .int nkp, .ref aNf, .ref aNr, .ref aNp, .ref aNb, .ref aNa, .ref aNt, .int (nI nts), .ref aNbo, .ref aNsz, .ref aNnu, .int (nI nta), .int (nI nop), .int nbd, .int ntp, .int (nI npr), .int nnw, .int nsn, .int nwn, .ref aNl, .ref aNal, .ref aNlo, .int (nI nac), .ref aNw, .ref aNtr, .ref aNis, .ref aNbg, .ref aNow])), (aNf, .inl (g.2.1 0, 8, .inl (nIf (fnF (updN fi 0 (fi 0 + 1)))))), (aNp, .inl (g.2.1 0, 4096, .inl plI)), (aNs, .inl (g.2.1 0, 919, .inl (msF gr wk z lk sz br ru ki ma bb ce hd)))]) dX9_told_23 ml_X9_88 mX9_finds (ct_finds_0 κ.2.1 g aN aNs aNk aNf aNr aNp aNb aNa aNt aNbo aNsz aNnu aNl aNal aNlo aNw aNtr aNis aNbg aNow nts nta nop npr nac nkp nbd ntp nnw nsn nwn fi) [0, 1] rfl rfl 0 rfl rfl rfl (Nat.le_of_ble_eq_true rfl) (by decide) (Nat.le_refl _) (Nat.le_refl _) (rfl : [aN, aNf] = [aN, aNf]) rfl ?_
      rw [← hQ]
      refine x_iret dX9_told_26 rfl (Nat.le_of_ble_eq_true rfl) (Nat.le_of_ble_eq_true rfl) ?_
      exact ⟨rfl, rfl⟩
    · have c8 : ¬ (4095 < x) := c8
      exact absurd hx2 c8

-- == ntold_b3 ==
set_option maxRecDepth 100000 in
set_option maxHeartbeats 4000000 in
theorem ct_ntold_b3 (l : Launch) (g : XG) (aN aNs aNk aNf aNr aNp aNb aNa aNt aNbo aNsz aNnu aNl aNal aNlo aNw aNtr aNis aNbg aNow nts nta nop npr nac : Nat) (nkp nbd ntp nnw nsn nwn : Int32) (fi : Nat → Nat) (gr wk lk sz br : Nat) (z : Int32) (ru ki ma bb hd : Nat → Nat) (ce : Nat → Int32) (r : Nat) (hr : r < 4096) (hp : popN r ≠ 4) : Ct l g 30 0 0 yX9_told cX9_told 2 (some .int) [.ref aN, .int (nI r)] [(aN, .inr (9, [.ref aNs, .ref aNk, .int nkp, .ref aNf, .ref aNr, .ref aNp, .ref aNb, .ref aNa, .ref aNt, .int (nI nts), .ref aNbo, .ref aNsz, .ref aNnu, .int (nI nta), .int (nI nop), .int nbd, .int ntp, .int (nI npr), .int nnw, .int nsn, .int nwn, .ref aNl, .ref aNal, .ref aNlo, .int (nI nac), .ref aNw, .ref aNtr, .ref aNis, .ref aNbg, .ref aNow])), (aNf, .inl (g.2.1 0, 8, .inl (nIf (fnF fi)))), (aNp, .inl (g.2.1 0, 4096, .inl plI)), (aNs, .inl (g.2.1 0, 919, .inl (msF gr wk z lk sz br ru ki ma bb ce hd)))] (xpi (fndI 0) [(aN, .inr (9, [.ref aNs, .ref aNk, .int nkp, .ref aNf, .ref aNr, .ref aNp, .ref aNb, .ref aNa, .ref aNt, .int (nI nts), .ref aNbo, .ref aNsz, .ref aNnu, .int (nI nta), .int (nI nop), .int nbd, .int ntp, .int (nI npr), .int nnw, .int nsn, .int nwn, .ref aNl, .ref aNal, .ref aNlo, .int (nI nac), .ref aNw, .ref aNtr, .ref aNis, .ref aNbg, .ref aNow])), (aNf, .inl (g.2.1 0, 8, .inl (nIf (fnF (updN fi 0 (fi 0 + 1)))))), (aNp, .inl (g.2.1 0, 4096, .inl plI)), (aNs, .inl (g.2.1 0, 919, .inl (msF gr wk z lk sz br ru ki ma bb ce hd)))]) := by
  refine Ct.ofX (lv := [some (.ref aN), some (.int (nI r))]) (by decide) rfl (Nat.le_of_ble_eq_true rfl) (fun κ => ?_)
  generalize hQ : xQ κ g 0 0 _ = Q
  refine x_iload_n dX9_told_0 rfl ?_
  refine x_if_lt dX9_told_1 (fun c1 => ?_) (fun c1 => ?_)
  · have c1 : (nI r) < 0 := c1
    have c1n := (nI_ltI (a := r) (b := 0) (by omega) (by omega)).mp c1
    exact absurd c1n (by omega)
  · have c1 : ¬ ((nI r) < 0) := c1
    have c1n := mt (nI_ltI (a := r) (b := 0) (by omega) (by omega)).mpr c1
    refine x_iload_n dX9_told_4 rfl ?_
    refine x_sipush 4095 dX9_told_5 (by decide) ?_
    refine x_icmp_gt dX9_told_8 (fun c8 => ?_) (fun c8 => ?_)
    · have c8 : 4095 < (nI r) := c8
      have c8n := (nI_ltI (a := 4095) (b := r) (by omega) (by omega)).mp c8
      exact absurd c8n (by omega)
    · have c8 : ¬ (4095 < (nI r)) := c8
      have c8n := mt (nI_ltI (a := 4095) (b := r) (by omega) (by omega)).mpr c8
      refine x_aload_n dX9_told_11 rfl ?_
      refine x_get dX9_told_12 0 5 inX9 fl_X9_22 rfl rfl (by decide) rfl ?_
      refine x_iload_n dX9_told_15 rfl ?_
      refine x_iald dX9_told_16 2 r rfl (rfl) (by omega) (by decide) ?_
      refine x_rei ((-1)) (if_neg hp) ?_
      refine x_if_ge dX9_told_17 (fun c17 => ?_) (fun c17 => ?_)
      · exact absurd c17 (by decide)
      refine x_aload_n dX9_told_20 rfl ?_
      refine x_ldc dX9_told_21 k_X9_87 ?_
      refine x_cVi (ws' := [(aN, .inr (9, [.ref aNs, .ref aNk, .int nkp, .ref aNf, .ref aNr, .ref aNp, .ref aNb, .ref aNa, .ref aNt, .int (nI nts), .ref aNbo, .ref aNsz, .ref aNnu, .int (nI nta), .int (nI nop), .int nbd, .int ntp, .int (nI npr), .int nnw, .int nsn, .int nwn, .ref aNl, .ref aNal, .ref aNlo, .int (nI nac), .ref aNw, .ref aNtr, .ref aNis, .ref aNbg, .ref aNow])), (aNf, .inl (g.2.1 0, 8, .inl (nIf (fnF (updN fi 0 (fi 0 + 1)))))), (aNp, .inl (g.2.1 0, 4096, .inl plI)), (aNs, .inl (g.2.1 0, 919, .inl (msF gr wk z lk sz br ru ki ma bb ce hd)))]) dX9_told_23 ml_X9_88 mX9_finds (ct_finds_0 κ.2.1 g aN aNs aNk aNf aNr aNp aNb aNa aNt aNbo aNsz aNnu aNl aNal aNlo aNw aNtr aNis aNbg aNow nts nta nop npr nac nkp nbd ntp nnw nsn nwn fi) [0, 1] rfl rfl 0 rfl rfl rfl (Nat.le_of_ble_eq_true rfl) (by decide) (Nat.le_refl _) (Nat.le_refl _) (rfl : [aN, aNf] = [aN, aNf]) rfl ?_
      rw [← hQ]
      refine x_iret dX9_told_26 rfl (Nat.le_of_ble_eq_true rfl) (Nat.le_of_ble_eq_true rfl) ?_
      exact ⟨rfl, rfl⟩

-- == ntold_b ==
theorem ct_ntold_b (l : Launch) (g : XG) (aN aNs aNk aNf aNr aNp aNb aNa aNt aNbo aNsz aNnu aNl aNal aNlo aNw aNtr aNis aNbg aNow nts nta nop npr nac : Nat) (nkp nbd ntp nnw nsn nwn : Int32) (fi : Nat → Nat) (gr wk lk sz br : Nat) (z : Int32) (ru ki ma bb hd : Nat → Nat) (ce : Nat → Int32) (x : Int32) (hb : isRowI x.toInt64 = 0) : Ct l g 30 0 0 yX9_told cX9_told 2 (some .int) [.ref aN, .int x] [(aN, .inr (9, [.ref aNs, .ref aNk, .int nkp, .ref aNf, .ref aNr, .ref aNp, .ref aNb, .ref aNa, .ref aNt, .int (nI nts), .ref aNbo, .ref aNsz, .ref aNnu, .int (nI nta), .int (nI nop), .int nbd, .int ntp, .int (nI npr), .int nnw, .int nsn, .int nwn, .ref aNl, .ref aNal, .ref aNlo, .int (nI nac), .ref aNw, .ref aNtr, .ref aNis, .ref aNbg, .ref aNow])), (aNf, .inl (g.2.1 0, 8, .inl (nIf (fnF fi)))), (aNp, .inl (g.2.1 0, 4096, .inl plI)), (aNs, .inl (g.2.1 0, 919, .inl (msF gr wk z lk sz br ru ki ma bb ce hd)))] (xpi (fndI 0) [(aN, .inr (9, [.ref aNs, .ref aNk, .int nkp, .ref aNf, .ref aNr, .ref aNp, .ref aNb, .ref aNa, .ref aNt, .int (nI nts), .ref aNbo, .ref aNsz, .ref aNnu, .int (nI nta), .int (nI nop), .int nbd, .int ntp, .int (nI npr), .int nnw, .int nsn, .int nwn, .ref aNl, .ref aNal, .ref aNlo, .int (nI nac), .ref aNw, .ref aNtr, .ref aNis, .ref aNbg, .ref aNow])), (aNf, .inl (g.2.1 0, 8, .inl (nIf (fnF (updN fi 0 (fi 0 + 1)))))), (aNp, .inl (g.2.1 0, 4096, .inl plI)), (aNs, .inl (g.2.1 0, 919, .inl (msF gr wk z lk sz br ru ki ma bb ce hd)))]) := by
  rcases isRow_cases hb with h | h | ⟨r, rfl, hr, hp⟩
  · exact ct_ntold_b1 l g _ _ _ _ _ _ _ _ _ _ _ _ _ _ _ _ _ _ _ _ _ _ _ _ _ _ _ _ _ _ _ _ _ _ _ _ _ _ _ _ _ _ _ _ _ h
  · by_cases c : x < 0
    · exact ct_ntold_b1 l g _ _ _ _ _ _ _ _ _ _ _ _ _ _ _ _ _ _ _ _ _ _ _ _ _ _ _ _ _ _ _ _ _ _ _ _ _ _ _ _ _ _ _ _ _ c
    · exact ct_ntold_b2 l g _ _ _ _ _ _ _ _ _ _ _ _ _ _ _ _ _ _ _ _ _ _ _ _ _ _ _ _ _ _ _ _ _ _ _ _ _ _ _ _ _ _ _ _ _ c h
  · exact ct_ntold_b3 l g _ _ _ _ _ _ _ _ _ _ _ _ _ _ _ _ _ _ _ _ _ _ _ _ _ _ _ _ _ _ _ _ _ _ _ _ _ _ _ _ _ _ _ _ _ hr hp

-- == nplace_o ==
set_option maxRecDepth 100000 in
set_option maxHeartbeats 4000000 in
theorem ct_nplace_o (l : Launch) (g : XG) (aN aNs aNk aNf aNr aNp aNb aNa aNt aNbo aNsz aNnu aNl aNal aNlo aNw aNtr aNis aNbg aNow nts nta nop npr nac : Nat) (nkp nbd ntp nnw nsn nwn : Int32) (fi : Nat → Nat) (r : Nat) (hr : r < 4096) (hp : popN r = 4) : Ct l g 30 0 0 yX9_place cX9_place 2 (some .int) [.ref aN, .int (nI r)] [(aN, .inr (9, [.ref aNs, .ref aNk, .int nkp, .ref aNf, .ref aNr, .ref aNp, .ref aNb, .ref aNa, .ref aNt, .int (nI nts), .ref aNbo, .ref aNsz, .ref aNnu, .int (nI nta), .int (nI nop), .int nbd, .int ntp, .int (nI npr), .int nnw, .int nsn, .int nwn, .ref aNl, .ref aNal, .ref aNlo, .int (nI nac), .ref aNw, .ref aNtr, .ref aNis, .ref aNbg, .ref aNow])), (aNf, .inl (g.2.1 0, 8, .inl (nIf (fnF fi)))), (aNp, .inl (g.2.1 0, 4096, .inl plI))] (xpi (nI (plB r 12)) [(aN, .inr (9, [.ref aNs, .ref aNk, .int nkp, .ref aNf, .ref aNr, .ref aNp, .ref aNb, .ref aNa, .ref aNt, .int (nI nts), .ref aNbo, .ref aNsz, .ref aNnu, .int (nI nta), .int (nI nop), .int nbd, .int ntp, .int (nI npr), .int nnw, .int nsn, .int nwn, .ref aNl, .ref aNal, .ref aNlo, .int (nI nac), .ref aNw, .ref aNtr, .ref aNis, .ref aNbg, .ref aNow])), (aNf, .inl (g.2.1 0, 8, .inl (nIf (fnF fi)))), (aNp, .inl (g.2.1 0, 4096, .inl plI))]) := by
  refine Ct.ofX (lv := [some (.ref aN), some (.int (nI r))]) (by decide) rfl (Nat.le_of_ble_eq_true rfl) (fun κ => ?_)
  generalize hQ : xQ κ g 0 0 _ = Q
  have hpl := (plB_row hr hp).1
  refine x_iload_n dX9_place_0 rfl ?_
  refine x_if_lt dX9_place_1 (fun c1 => ?_) (fun c1 => ?_)
  · have c1 : (nI r) < 0 := c1
    have c1n := (nI_ltI (a := r) (b := 0) (by omega) (by omega)).mp c1
    exact absurd c1n (by omega)
  · have c1 : ¬ ((nI r) < 0) := c1
    have c1n := mt (nI_ltI (a := r) (b := 0) (by omega) (by omega)).mpr c1
    refine x_iload_n dX9_place_4 rfl ?_
    refine x_sipush 4095 dX9_place_5 (by decide) ?_
    refine x_icmp_gt dX9_place_8 (fun c8 => ?_) (fun c8 => ?_)
    · have c8 : 4095 < (nI r) := c8
      have c8n := (nI_ltI (a := 4095) (b := r) (by omega) (by omega)).mp c8
      exact absurd c8n (by omega)
    · have c8 : ¬ (4095 < (nI r)) := c8
      have c8n := mt (nI_ltI (a := 4095) (b := r) (by omega) (by omega)).mpr c8
      refine x_aload_n dX9_place_11 rfl ?_
      refine x_get dX9_place_12 0 5 inX9 fl_X9_22 rfl rfl (by decide) rfl ?_
      refine x_iload_n dX9_place_15 rfl ?_
      refine x_iald dX9_place_16 2 r rfl (rfl) (by omega) (by decide) ?_
      refine x_rei (nI (plB r 12)) (if_pos hp) ?_
      refine x_if_ge dX9_place_17 (fun c17 => ?_) (fun c17 => ?_)
      · have c17 : 0 ≤ (nI (plB r 12)) := c17
        have c17n := (nI_leI (a := 0) (b := (plB r 12)) (by omega) (by omega)).mp c17
        refine x_aload_n dX9_place_29 rfl ?_
        refine x_get dX9_place_30 0 5 inX9 fl_X9_22 rfl rfl (by decide) rfl ?_
        refine x_iload_n dX9_place_33 rfl ?_
        refine x_iald dX9_place_34 2 r rfl (rfl) (by omega) (by decide) ?_
        refine x_rei (nI (plB r 12)) (if_pos hp) ?_
        rw [← hQ]
        refine x_iret dX9_place_35 rfl (Nat.le_of_ble_eq_true rfl) (Nat.le_of_ble_eq_true rfl) ?_
        exact ⟨rfl, rfl⟩
      · have c17 : ¬ (0 ≤ (nI (plB r 12))) := c17
        have c17n := mt (nI_leI (a := 0) (b := (plB r 12)) (by omega) (by omega)).mpr c17
        exact absurd c17n (by omega)

-- == nrow_b ==
theorem dX9_row_0 : xd cX9_row 0 (.iload_n 1) 1 1 := ⟨by decide +kernel, rfl⟩
theorem dX9_row_1 : xd cX9_row 1 (.invokestatic 92) 3 4 := ⟨by decide +kernel, rfl⟩
theorem dX9_row_4 : xj cX9_row 4 (.ifCond .eq) 7 16 := ⟨12, by decide +kernel, rfl, by decide⟩
theorem dX9_row_7 : xd cX9_row 7 (.aload_n 0) 1 8 := ⟨by decide +kernel, rfl⟩
theorem dX9_row_8 : xd cX9_row 8 (.getfield 19) 3 11 := ⟨by decide +kernel, rfl⟩
theorem dX9_row_11 : xd cX9_row 11 (.iload_n 1) 1 12 := ⟨by decide +kernel, rfl⟩
theorem dX9_row_12 : xd cX9_row 12 .iaload 1 13 := ⟨by decide +kernel, rfl⟩
theorem dX9_row_13 : xj cX9_row 13 .goto 16 22 := ⟨9, by decide +kernel, rfl, by decide⟩
theorem dX9_row_16 : xd cX9_row 16 (.aload_n 0) 1 17 := ⟨by decide +kernel, rfl⟩
theorem dX9_row_17 : xd cX9_row 17 (.ldc 87) 2 19 := ⟨by decide +kernel, rfl⟩
theorem dX9_row_19 : xd cX9_row 19 (.invokevirtual 88) 3 22 := ⟨by decide +kernel, rfl⟩
theorem dX9_row_22 : xd cX9_row 22 .ireturn 1 23 := ⟨by decide +kernel, rfl⟩

set_option maxRecDepth 100000 in
set_option maxHeartbeats 4000000 in
theorem ct_nrow_b (l : Launch) (g : XG) (aN aNs aNk aNf aNr aNp aNb aNa aNt aNbo aNsz aNnu aNl aNal aNlo aNw aNtr aNis aNbg aNow nts nta nop npr nac : Nat) (nkp nbd ntp nnw nsn nwn : Int32) (fi : Nat → Nat) (pl : Int32) (hb : wI pl 0 494 = 0) : Ct l g 30 0 0 yX9_row cX9_row 2 (some .int) [.ref aN, .int pl] [(aN, .inr (9, [.ref aNs, .ref aNk, .int nkp, .ref aNf, .ref aNr, .ref aNp, .ref aNb, .ref aNa, .ref aNt, .int (nI nts), .ref aNbo, .ref aNsz, .ref aNnu, .int (nI nta), .int (nI nop), .int nbd, .int ntp, .int (nI npr), .int nnw, .int nsn, .int nwn, .ref aNl, .ref aNal, .ref aNlo, .int (nI nac), .ref aNw, .ref aNtr, .ref aNis, .ref aNbg, .ref aNow])), (aNf, .inl (g.2.1 0, 8, .inl (nIf (fnF fi))))] (xpi (fndI 0) [(aN, .inr (9, [.ref aNs, .ref aNk, .int nkp, .ref aNf, .ref aNr, .ref aNp, .ref aNb, .ref aNa, .ref aNt, .int (nI nts), .ref aNbo, .ref aNsz, .ref aNnu, .int (nI nta), .int (nI nop), .int nbd, .int ntp, .int (nI npr), .int nnw, .int nsn, .int nwn, .ref aNl, .ref aNal, .ref aNlo, .int (nI nac), .ref aNw, .ref aNtr, .ref aNis, .ref aNbg, .ref aNow])), (aNf, .inl (g.2.1 0, 8, .inl (nIf (fnF (updN fi 0 (fi 0 + 1))))))]) := by
  refine Ct.ofX (lv := [some (.ref aN), some (.int pl)]) (by decide) rfl (Nat.le_of_ble_eq_true rfl) (fun κ => ?_)
  generalize hQ : xQ κ g 0 0 _ = Q
  refine x_iload_n dX9_row_0 rfl ?_
  refine x_cSi dX9_row_1 ml_X9_92 mX9_isPlace (ct_X9_isPlace κ.2.1 g pl) rfl (Nat.le_of_ble_eq_true rfl) (by decide) (Nat.le_refl _) (Nat.le_refl _) ?_
  refine x_if_eq dX9_row_4 (fun c4 => ?_) (fun c4 => ?_)
  · have c4 : (wI pl 0 494) = 0 := c4
    refine x_aload_n dX9_row_16 rfl ?_
    refine x_ldc dX9_row_17 k_X9_87 ?_
    refine x_cVi (ws' := [(aN, .inr (9, [.ref aNs, .ref aNk, .int nkp, .ref aNf, .ref aNr, .ref aNp, .ref aNb, .ref aNa, .ref aNt, .int (nI nts), .ref aNbo, .ref aNsz, .ref aNnu, .int (nI nta), .int (nI nop), .int nbd, .int ntp, .int (nI npr), .int nnw, .int nsn, .int nwn, .ref aNl, .ref aNal, .ref aNlo, .int (nI nac), .ref aNw, .ref aNtr, .ref aNis, .ref aNbg, .ref aNow])), (aNf, .inl (g.2.1 0, 8, .inl (nIf (fnF (updN fi 0 (fi 0 + 1))))))]) dX9_row_19 ml_X9_88 mX9_finds (ct_finds_0 κ.2.1 g aN aNs aNk aNf aNr aNp aNb aNa aNt aNbo aNsz aNnu aNl aNal aNlo aNw aNtr aNis aNbg aNow nts nta nop npr nac nkp nbd ntp nnw nsn nwn fi) [0, 1] rfl rfl 0 rfl rfl rfl (Nat.le_of_ble_eq_true rfl) (by decide) (Nat.le_refl _) (Nat.le_refl _) (rfl : [aN, aNf] = [aN, aNf]) rfl ?_
    rw [← hQ]
    refine x_iret dX9_row_22 rfl (Nat.le_of_ble_eq_true rfl) (Nat.le_of_ble_eq_true rfl) ?_
    exact ⟨rfl, rfl⟩
  · have c4 : ¬ ((wI pl 0 494) = 0) := c4
    exact absurd hb c4

-- == nrow_o ==
set_option maxRecDepth 100000 in
set_option maxHeartbeats 4000000 in
theorem ct_nrow_o (l : Launch) (g : XG) (aN aNs aNk aNf aNr aNp aNb aNa aNt aNbo aNsz aNnu aNl aNal aNlo aNw aNtr aNis aNbg aNow nts nta nop npr nac : Nat) (nkp nbd ntp nnw nsn nwn : Int32) (fi : Nat → Nat) (p : Nat) (hp : p < 495) : Ct l g 30 0 0 yX9_row cX9_row 2 (some .int) [.ref aN, .int (nI p)] [(aN, .inr (9, [.ref aNs, .ref aNk, .int nkp, .ref aNf, .ref aNr, .ref aNp, .ref aNb, .ref aNa, .ref aNt, .int (nI nts), .ref aNbo, .ref aNsz, .ref aNnu, .int (nI nta), .int (nI nop), .int nbd, .int ntp, .int (nI npr), .int nnw, .int nsn, .int nwn, .ref aNl, .ref aNal, .ref aNlo, .int (nI nac), .ref aNw, .ref aNtr, .ref aNis, .ref aNbg, .ref aNow])), (aNf, .inl (g.2.1 0, 8, .inl (nIf (fnF fi)))), (aNr, .inl (g.2.1 0, 495, .inl (nIf rowB)))] (xpi (nI (rowB p)) [(aN, .inr (9, [.ref aNs, .ref aNk, .int nkp, .ref aNf, .ref aNr, .ref aNp, .ref aNb, .ref aNa, .ref aNt, .int (nI nts), .ref aNbo, .ref aNsz, .ref aNnu, .int (nI nta), .int (nI nop), .int nbd, .int ntp, .int (nI npr), .int nnw, .int nsn, .int nwn, .ref aNl, .ref aNal, .ref aNlo, .int (nI nac), .ref aNw, .ref aNtr, .ref aNis, .ref aNbg, .ref aNow])), (aNf, .inl (g.2.1 0, 8, .inl (nIf (fnF fi)))), (aNr, .inl (g.2.1 0, 495, .inl (nIf rowB)))]) := by
  refine Ct.ofX (lv := [some (.ref aN), some (.int (nI p))]) (by decide) rfl (Nat.le_of_ble_eq_true rfl) (fun κ => ?_)
  generalize hQ : xQ κ g 0 0 _ = Q
  refine x_iload_n dX9_row_0 rfl ?_
  refine x_cSi dX9_row_1 ml_X9_92 mX9_isPlace (ct_nPlace_n κ.2.1 g p (hp)) rfl (Nat.le_of_ble_eq_true rfl) (by decide) (Nat.le_refl _) (Nat.le_refl _) ?_
  refine x_if_eq dX9_row_4 (fun c4 => ?_) (fun c4 => ?_)
  · exact absurd c4 (by decide)
  refine x_aload_n dX9_row_7 rfl ?_
  refine x_get dX9_row_8 0 4 inX9 fl_X9_19 rfl rfl (by decide) rfl ?_
  refine x_iload_n dX9_row_11 rfl ?_
  refine x_iald dX9_row_12 2 p rfl (rfl) (by omega) (by decide) ?_
  refine x_goto dX9_row_13 ?_
  rw [← hQ]
  refine x_iret dX9_row_22 rfl (Nat.le_of_ble_eq_true rfl) (Nat.le_of_ble_eq_true rfl) ?_
  exact ⟨rfl, rfl⟩

-- == npeople_b ==
theorem dX9_people_0 : xd cX9_people 0 (.iload_n 1) 1 1 := ⟨by decide +kernel, rfl⟩
theorem dX9_people_1 : xd cX9_people 1 .i2l 1 2 := ⟨by decide +kernel, rfl⟩
theorem dX9_people_2 : xd cX9_people 2 (.lconst 0) 1 3 := ⟨by decide +kernel, rfl⟩
theorem dX9_people_3 : xd cX9_people 3 (.ldc2_w 96) 3 6 := ⟨by decide +kernel, rfl⟩
theorem dX9_people_6 : xd cX9_people 6 (.invokestatic 98) 3 9 := ⟨by decide +kernel, rfl⟩
theorem dX9_people_9 : xj cX9_people 9 (.ifCond .eq) 12 24 := ⟨15, by decide +kernel, rfl, by decide⟩
theorem dX9_people_12 : xd cX9_people 12 (.iload_n 2) 1 13 := ⟨by decide +kernel, rfl⟩
theorem dX9_people_13 : xd cX9_people 13 .i2l 1 14 := ⟨by decide +kernel, rfl⟩
theorem dX9_people_14 : xd cX9_people 14 (.lconst 0) 1 15 := ⟨by decide +kernel, rfl⟩
theorem dX9_people_15 : xd cX9_people 15 (.ldc2_w 102) 3 18 := ⟨by decide +kernel, rfl⟩
theorem dX9_people_18 : xd cX9_people 18 (.invokestatic 98) 3 21 := ⟨by decide +kernel, rfl⟩
theorem dX9_people_21 : xj cX9_people 21 (.ifCond .ne) 24 31 := ⟨10, by decide +kernel, rfl, by decide⟩
theorem dX9_people_24 : xd cX9_people 24 (.aload_n 0) 1 25 := ⟨by decide +kernel, rfl⟩
theorem dX9_people_25 : xd cX9_people 25 (.ldc 87) 2 27 := ⟨by decide +kernel, rfl⟩
theorem dX9_people_27 : xd cX9_people 27 (.invokevirtual 88) 3 30 := ⟨by decide +kernel, rfl⟩
theorem dX9_people_30 : xd cX9_people 30 .ireturn 1 31 := ⟨by decide +kernel, rfl⟩
theorem dX9_people_31 : xd cX9_people 31 (.aload_n 0) 1 32 := ⟨by decide +kernel, rfl⟩
theorem dX9_people_32 : xd cX9_people 32 (.getfield 7) 3 35 := ⟨by decide +kernel, rfl⟩
theorem dX9_people_35 : xd cX9_people 35 (.iconst 0) 1 36 := ⟨by decide +kernel, rfl⟩
theorem dX9_people_36 : xd cX9_people 36 .iaload 1 37 := ⟨by decide +kernel, rfl⟩
theorem dX9_people_37 : xd cX9_people 37 (.bipush 12) 2 39 := ⟨by decide +kernel, rfl⟩
theorem dX9_people_39 : xj cX9_people 39 (.if_icmp .ne) 42 49 := ⟨10, by decide +kernel, rfl, by decide⟩
theorem dX9_people_42 : xd cX9_people 42 (.aload_n 0) 1 43 := ⟨by decide +kernel, rfl⟩
theorem dX9_people_43 : xd cX9_people 43 (.ldc 104) 2 45 := ⟨by decide +kernel, rfl⟩
theorem dX9_people_45 : xd cX9_people 45 (.invokevirtual 88) 3 48 := ⟨by decide +kernel, rfl⟩
theorem dX9_people_48 : xd cX9_people 48 .ireturn 1 49 := ⟨by decide +kernel, rfl⟩
theorem dX9_people_49 : xd cX9_people 49 (.aload_n 0) 1 50 := ⟨by decide +kernel, rfl⟩
theorem dX9_people_50 : xd cX9_people 50 (.getfield 7) 3 53 := ⟨by decide +kernel, rfl⟩
theorem dX9_people_53 : xd cX9_people 53 (.bipush 20) 2 55 := ⟨by decide +kernel, rfl⟩
theorem dX9_people_55 : xd cX9_people 55 (.aload_n 0) 1 56 := ⟨by decide +kernel, rfl⟩
theorem dX9_people_56 : xd cX9_people 56 (.getfield 7) 3 59 := ⟨by decide +kernel, rfl⟩
theorem dX9_people_59 : xd cX9_people 59 (.iconst 0) 1 60 := ⟨by decide +kernel, rfl⟩
theorem dX9_people_60 : xd cX9_people 60 .iaload 1 61 := ⟨by decide +kernel, rfl⟩
theorem dX9_people_61 : xd cX9_people 61 .iadd 1 62 := ⟨by decide +kernel, rfl⟩
theorem dX9_people_62 : xd cX9_people 62 (.iload_n 1) 1 63 := ⟨by decide +kernel, rfl⟩
theorem dX9_people_63 : xd cX9_people 63 .iastore 1 64 := ⟨by decide +kernel, rfl⟩
theorem dX9_people_64 : xd cX9_people 64 (.aload_n 0) 1 65 := ⟨by decide +kernel, rfl⟩
theorem dX9_people_65 : xd cX9_people 65 (.getfield 7) 3 68 := ⟨by decide +kernel, rfl⟩
theorem dX9_people_68 : xd cX9_people 68 (.bipush 32) 2 70 := ⟨by decide +kernel, rfl⟩
theorem dX9_people_70 : xd cX9_people 70 (.aload_n 0) 1 71 := ⟨by decide +kernel, rfl⟩
theorem dX9_people_71 : xd cX9_people 71 (.getfield 7) 3 74 := ⟨by decide +kernel, rfl⟩
theorem dX9_people_74 : xd cX9_people 74 (.iconst 0) 1 75 := ⟨by decide +kernel, rfl⟩
theorem dX9_people_75 : xd cX9_people 75 .iaload 1 76 := ⟨by decide +kernel, rfl⟩
theorem dX9_people_76 : xd cX9_people 76 .iadd 1 77 := ⟨by decide +kernel, rfl⟩
theorem dX9_people_77 : xd cX9_people 77 (.iload_n 2) 1 78 := ⟨by decide +kernel, rfl⟩
theorem dX9_people_78 : xd cX9_people 78 .iastore 1 79 := ⟨by decide +kernel, rfl⟩
theorem dX9_people_79 : xd cX9_people 79 (.aload_n 0) 1 80 := ⟨by decide +kernel, rfl⟩
theorem dX9_people_80 : xd cX9_people 80 (.getfield 7) 3 83 := ⟨by decide +kernel, rfl⟩
theorem dX9_people_83 : xd cX9_people 83 (.iconst 0) 1 84 := ⟨by decide +kernel, rfl⟩
theorem dX9_people_84 : xd cX9_people 84 .dup2 1 85 := ⟨by decide +kernel, rfl⟩
theorem dX9_people_85 : xd cX9_people 85 .iaload 1 86 := ⟨by decide +kernel, rfl⟩
theorem dX9_people_86 : xd cX9_people 86 (.iconst 1) 1 87 := ⟨by decide +kernel, rfl⟩
theorem dX9_people_87 : xd cX9_people 87 .iadd 1 88 := ⟨by decide +kernel, rfl⟩
theorem dX9_people_88 : xd cX9_people 88 .iastore 1 89 := ⟨by decide +kernel, rfl⟩
theorem dX9_people_89 : xd cX9_people 89 (.aload_n 0) 1 90 := ⟨by decide +kernel, rfl⟩
theorem dX9_people_90 : xd cX9_people 90 (.iconst 1) 1 91 := ⟨by decide +kernel, rfl⟩
theorem dX9_people_91 : xd cX9_people 91 (.putfield 44) 3 94 := ⟨by decide +kernel, rfl⟩
theorem dX9_people_94 : xd cX9_people 94 (.aload_n 0) 1 95 := ⟨by decide +kernel, rfl⟩
theorem dX9_people_95 : xd cX9_people 95 (.getfield 7) 3 98 := ⟨by decide +kernel, rfl⟩
theorem dX9_people_98 : xd cX9_people 98 (.iconst 0) 1 99 := ⟨by decide +kernel, rfl⟩
theorem dX9_people_99 : xd cX9_people 99 .iaload 1 100 := ⟨by decide +kernel, rfl⟩
theorem dX9_people_100 : xd cX9_people 100 (.iconst 1) 1 101 := ⟨by decide +kernel, rfl⟩
theorem dX9_people_101 : xd cX9_people 101 .isub 1 102 := ⟨by decide +kernel, rfl⟩
theorem dX9_people_102 : xd cX9_people 102 .ireturn 1 103 := ⟨by decide +kernel, rfl⟩

set_option maxRecDepth 100000 in
set_option maxHeartbeats 4000000 in
theorem ct_npeople_b (l : Launch) (g : XG) (aN aNs aNk aNf aNr aNp aNb aNa aNt aNbo aNsz aNnu aNl aNal aNlo aNw aNtr aNis aNbg aNow nts nta nop npr nac : Nat) (nkp nbd ntp nnw nsn nwn : Int32) (fi : Nat → Nat) (kd mn : Int32) (hb : wI kd 0 7 = 0 ∨ wI mn 0 99999 = 0) : Ct l g 30 0 0 yX9_people cX9_people 3 (some .int) [.ref aN, .int kd, .int mn] [(aN, .inr (9, [.ref aNs, .ref aNk, .int nkp, .ref aNf, .ref aNr, .ref aNp, .ref aNb, .ref aNa, .ref aNt, .int (nI nts), .ref aNbo, .ref aNsz, .ref aNnu, .int (nI nta), .int (nI nop), .int nbd, .int ntp, .int (nI npr), .int nnw, .int nsn, .int nwn, .ref aNl, .ref aNal, .ref aNlo, .int (nI nac), .ref aNw, .ref aNtr, .ref aNis, .ref aNbg, .ref aNow])), (aNf, .inl (g.2.1 0, 8, .inl (nIf (fnF fi))))] (xpi (fndI 0) [(aN, .inr (9, [.ref aNs, .ref aNk, .int nkp, .ref aNf, .ref aNr, .ref aNp, .ref aNb, .ref aNa, .ref aNt, .int (nI nts), .ref aNbo, .ref aNsz, .ref aNnu, .int (nI nta), .int (nI nop), .int nbd, .int ntp, .int (nI npr), .int nnw, .int nsn, .int nwn, .ref aNl, .ref aNal, .ref aNlo, .int (nI nac), .ref aNw, .ref aNtr, .ref aNis, .ref aNbg, .ref aNow])), (aNf, .inl (g.2.1 0, 8, .inl (nIf (fnF (updN fi 0 (fi 0 + 1))))))]) := by
  refine Ct.ofX (lv := [some (.ref aN), some (.int kd), some (.int mn)]) (by decide) rfl (Nat.le_of_ble_eq_true rfl) (fun κ => ?_)
  generalize hQ : xQ κ g 0 0 _ = Q
  refine x_iload_n dX9_people_0 rfl ?_
  refine x_i2l dX9_people_1 ?_
  refine x_lconst 0 dX9_people_2 (by decide) ?_
  refine x_ldc2 dX9_people_3 kl_X9_96 ?_
  refine x_cSi dX9_people_6 ml_X9_98 mX9_isIn (ct_X9_isIn κ.2.1 g kd.toInt64 0 7) rfl (Nat.le_of_ble_eq_true rfl) (by decide) (Nat.le_refl _) (Nat.le_refl _) ?_
  refine x_rei (wI kd 0 7) (inL_w kd 0 7 (by first | rfl | decide) (by first | rfl | decide)) ?_
  refine x_if_eq dX9_people_9 (fun c9 => ?_) (fun c9 => ?_)
  · have c9 : (wI kd 0 7) = 0 := c9
    refine x_aload_n dX9_people_24 rfl ?_
    refine x_ldc dX9_people_25 k_X9_87 ?_
    refine x_cVi (ws' := [(aN, .inr (9, [.ref aNs, .ref aNk, .int nkp, .ref aNf, .ref aNr, .ref aNp, .ref aNb, .ref aNa, .ref aNt, .int (nI nts), .ref aNbo, .ref aNsz, .ref aNnu, .int (nI nta), .int (nI nop), .int nbd, .int ntp, .int (nI npr), .int nnw, .int nsn, .int nwn, .ref aNl, .ref aNal, .ref aNlo, .int (nI nac), .ref aNw, .ref aNtr, .ref aNis, .ref aNbg, .ref aNow])), (aNf, .inl (g.2.1 0, 8, .inl (nIf (fnF (updN fi 0 (fi 0 + 1))))))]) dX9_people_27 ml_X9_88 mX9_finds (ct_finds_0 κ.2.1 g aN aNs aNk aNf aNr aNp aNb aNa aNt aNbo aNsz aNnu aNl aNal aNlo aNw aNtr aNis aNbg aNow nts nta nop npr nac nkp nbd ntp nnw nsn nwn fi) [0, 1] rfl rfl 0 rfl rfl rfl (Nat.le_of_ble_eq_true rfl) (by decide) (Nat.le_refl _) (Nat.le_refl _) (rfl : [aN, aNf] = [aN, aNf]) rfl ?_
    rw [← hQ]
    refine x_iret dX9_people_30 rfl (Nat.le_of_ble_eq_true rfl) (Nat.le_of_ble_eq_true rfl) ?_
    exact ⟨rfl, rfl⟩
  · have c9 : ¬ ((wI kd 0 7) = 0) := c9
    refine x_iload_n dX9_people_12 rfl ?_
    refine x_i2l dX9_people_13 ?_
    refine x_lconst 0 dX9_people_14 (by decide) ?_
    refine x_ldc2 dX9_people_15 kl_X9_102 ?_
    refine x_cSi dX9_people_18 ml_X9_98 mX9_isIn (ct_X9_isIn κ.2.1 g mn.toInt64 0 99999) rfl (Nat.le_of_ble_eq_true rfl) (by decide) (Nat.le_refl _) (Nat.le_refl _) ?_
    refine x_rei (wI mn 0 99999) (inL_w mn 0 99999 (by first | rfl | decide) (by first | rfl | decide)) ?_
    refine x_if_ne dX9_people_21 (fun c21 => ?_) (fun c21 => ?_)
    · have c21 : ¬ ((wI mn 0 99999) = 0) := c21
      exact absurd (hb.resolve_left c9) c21
    · have c21 : (wI mn 0 99999) = 0 := c21
      refine x_aload_n dX9_people_24 rfl ?_
      refine x_ldc dX9_people_25 k_X9_87 ?_
      refine x_cVi (ws' := [(aN, .inr (9, [.ref aNs, .ref aNk, .int nkp, .ref aNf, .ref aNr, .ref aNp, .ref aNb, .ref aNa, .ref aNt, .int (nI nts), .ref aNbo, .ref aNsz, .ref aNnu, .int (nI nta), .int (nI nop), .int nbd, .int ntp, .int (nI npr), .int nnw, .int nsn, .int nwn, .ref aNl, .ref aNal, .ref aNlo, .int (nI nac), .ref aNw, .ref aNtr, .ref aNis, .ref aNbg, .ref aNow])), (aNf, .inl (g.2.1 0, 8, .inl (nIf (fnF (updN fi 0 (fi 0 + 1))))))]) dX9_people_27 ml_X9_88 mX9_finds (ct_finds_0 κ.2.1 g aN aNs aNk aNf aNr aNp aNb aNa aNt aNbo aNsz aNnu aNl aNal aNlo aNw aNtr aNis aNbg aNow nts nta nop npr nac nkp nbd ntp nnw nsn nwn fi) [0, 1] rfl rfl 0 rfl rfl rfl (Nat.le_of_ble_eq_true rfl) (by decide) (Nat.le_refl _) (Nat.le_refl _) (rfl : [aN, aNf] = [aN, aNf]) rfl ?_
      rw [← hQ]
      refine x_iret dX9_people_30 rfl (Nat.le_of_ble_eq_true rfl) (Nat.le_of_ble_eq_true rfl) ?_
      exact ⟨rfl, rfl⟩

-- == npeople_f ==
set_option maxRecDepth 100000 in
set_option maxHeartbeats 4000000 in
theorem ct_npeople_f (l : Launch) (g : XG) (aN aNs aNk aNf aNr aNp aNb aNa aNt aNbo aNsz aNnu aNl aNal aNlo aNw aNtr aNis aNbg aNow nts nta nop npr nac : Nat) (nkp nbd ntp nnw nsn nwn : Int32) (fi : Nat → Nat) (kd mn : Nat) (gr wk lk sz br : Nat) (z : Int32) (ru ki ma bb hd : Nat → Nat) (ce : Nat → Int32) (hkd : kd ≤ 7) (hmn : mn ≤ 99999) (hg : gr = 12) : Ct l g 30 0 0 yX9_people cX9_people 3 (some .int) [.ref aN, .int (nI kd), .int (nI mn)] [(aN, .inr (9, [.ref aNs, .ref aNk, .int nkp, .ref aNf, .ref aNr, .ref aNp, .ref aNb, .ref aNa, .ref aNt, .int (nI nts), .ref aNbo, .ref aNsz, .ref aNnu, .int (nI nta), .int (nI nop), .int nbd, .int ntp, .int (nI npr), .int nnw, .int nsn, .int nwn, .ref aNl, .ref aNal, .ref aNlo, .int (nI nac), .ref aNw, .ref aNtr, .ref aNis, .ref aNbg, .ref aNow])), (aNf, .inl (g.2.1 0, 8, .inl (nIf (fnF fi)))), (aNs, .inl (g.2.1 0, 919, .inl (msF gr wk z lk sz br ru ki ma bb ce hd)))] (xpi (fndI 1) [(aN, .inr (9, [.ref aNs, .ref aNk, .int nkp, .ref aNf, .ref aNr, .ref aNp, .ref aNb, .ref aNa, .ref aNt, .int (nI nts), .ref aNbo, .ref aNsz, .ref aNnu, .int (nI nta), .int (nI nop), .int nbd, .int ntp, .int (nI npr), .int nnw, .int nsn, .int nwn, .ref aNl, .ref aNal, .ref aNlo, .int (nI nac), .ref aNw, .ref aNtr, .ref aNis, .ref aNbg, .ref aNow])), (aNf, .inl (g.2.1 0, 8, .inl (nIf (fnF (updN fi 1 (fi 1 + 1)))))), (aNs, .inl (g.2.1 0, 919, .inl (msF gr wk z lk sz br ru ki ma bb ce hd)))]) := by
  refine Ct.ofX (lv := [some (.ref aN), some (.int (nI kd)), some (.int (nI mn))]) (by decide) rfl (Nat.le_of_ble_eq_true rfl) (fun κ => ?_)
  generalize hQ : xQ κ g 0 0 _ = Q
  refine x_iload_n dX9_people_0 rfl ?_
  refine x_i2l dX9_people_1 ?_
  refine x_lconst 0 dX9_people_2 (by decide) ?_
  refine x_ldc2 dX9_people_3 kl_X9_96 ?_
  refine x_cSi dX9_people_6 ml_X9_98 mX9_isIn (ct_X9_isIn κ.2.1 g ((nI kd).toInt64) 0 7) rfl (Nat.le_of_ble_eq_true rfl) (by decide) (Nat.le_refl _) (Nat.le_refl _) ?_
  refine x_rei (wI (nI kd) 0 7) (inL_w (nI kd) 0 7 (by first | rfl | decide) (by first | rfl | decide)) ?_
  refine x_rei 1 (show wI (nI kd) 0 7 = 1 from wI_nat (n := kd) (a := 0) (b := 7) ⟨by omega, by omega, by omega, by omega⟩) ?_
  refine x_if_eq dX9_people_9 (fun c9 => ?_) (fun c9 => ?_)
  · exact absurd c9 (by decide)
  refine x_iload_n dX9_people_12 rfl ?_
  refine x_i2l dX9_people_13 ?_
  refine x_lconst 0 dX9_people_14 (by decide) ?_
  refine x_ldc2 dX9_people_15 kl_X9_102 ?_
  refine x_cSi dX9_people_18 ml_X9_98 mX9_isIn (ct_X9_isIn κ.2.1 g ((nI mn).toInt64) 0 99999) rfl (Nat.le_of_ble_eq_true rfl) (by decide) (Nat.le_refl _) (Nat.le_refl _) ?_
  refine x_rei (wI (nI mn) 0 99999) (inL_w (nI mn) 0 99999 (by first | rfl | decide) (by first | rfl | decide)) ?_
  refine x_rei 1 (show wI (nI mn) 0 99999 = 1 from wI_nat (n := mn) (a := 0) (b := 99999) ⟨by omega, by omega, by omega, by omega⟩) ?_
  refine x_if_ne dX9_people_21 (fun c21 => ?_) (fun c21 => ?_)
  rotate_left
  · exact absurd c21 (by decide)
  refine x_aload_n dX9_people_31 rfl ?_
  refine x_get dX9_people_32 0 0 inX9 fl_X9_7 rfl rfl (by decide) rfl ?_
  refine x_iconst 0 dX9_people_35 (by decide) ?_
  refine x_iald dX9_people_36 2 0 rfl (rfl) (by decide) (by decide) ?_
  refine x_rei (nI gr) (rfl) ?_
  refine x_bipush 12 dX9_people_37 (by decide) ?_
  refine x_icmp_ne dX9_people_39 (fun c39 => ?_) (fun c39 => ?_)
  · have c39 : ¬ ((nI gr) = 12) := c39
    have c39n := mt (nI_eq (a := gr) (b := 12) (by omega) (by omega)).mpr c39
    exact absurd c39n (by omega)
  · have c39 : (nI gr) = 12 := c39
    have c39n := (nI_eq (a := gr) (b := 12) (by omega) (by omega)).mp c39
    refine x_aload_n dX9_people_42 rfl ?_
    refine x_ldc dX9_people_43 k_X9_104 ?_
    refine x_cVi (ws' := [(aN, .inr (9, [.ref aNs, .ref aNk, .int nkp, .ref aNf, .ref aNr, .ref aNp, .ref aNb, .ref aNa, .ref aNt, .int (nI nts), .ref aNbo, .ref aNsz, .ref aNnu, .int (nI nta), .int (nI nop), .int nbd, .int ntp, .int (nI npr), .int nnw, .int nsn, .int nwn, .ref aNl, .ref aNal, .ref aNlo, .int (nI nac), .ref aNw, .ref aNtr, .ref aNis, .ref aNbg, .ref aNow])), (aNf, .inl (g.2.1 0, 8, .inl (nIf (fnF (updN fi 1 (fi 1 + 1)))))), (aNs, .inl (g.2.1 0, 919, .inl (msF gr wk z lk sz br ru ki ma bb ce hd)))]) dX9_people_45 ml_X9_88 mX9_finds (ct_finds_1 κ.2.1 g aN aNs aNk aNf aNr aNp aNb aNa aNt aNbo aNsz aNnu aNl aNal aNlo aNw aNtr aNis aNbg aNow nts nta nop npr nac nkp nbd ntp nnw nsn nwn fi) [0, 1] rfl rfl 0 rfl rfl rfl (Nat.le_of_ble_eq_true rfl) (by decide) (Nat.le_refl _) (Nat.le_refl _) (rfl : [aN, aNf] = [aN, aNf]) rfl ?_
    rw [← hQ]
    refine x_iret dX9_people_48 rfl (Nat.le_of_ble_eq_true rfl) (Nat.le_of_ble_eq_true rfl) ?_
    exact ⟨rfl, rfl⟩

-- == npeople_o ==
set_option maxRecDepth 100000 in
set_option maxHeartbeats 4000000 in
theorem ct_npeople_o (l : Launch) (g : XG) (aN aNs aNk aNf aNr aNp aNb aNa aNt aNbo aNsz aNnu aNl aNal aNlo aNw aNtr aNis aNbg aNow nts nta nop npr nac : Nat) (nkp nbd ntp nnw nsn nwn : Int32) (fi : Nat → Nat) (kd mn : Nat) (gr wk lk sz br : Nat) (z : Int32) (ru ki ma bb hd : Nat → Nat) (ce : Nat → Int32) (hkd : kd ≤ 7) (hmn : mn ≤ 99999) (hg : gr < 12) : Ct l g 30 0 0 yX9_people cX9_people 3 (some .int) [.ref aN, .int (nI kd), .int (nI mn)] [(aN, .inr (9, [.ref aNs, .ref aNk, .int nkp, .ref aNf, .ref aNr, .ref aNp, .ref aNb, .ref aNa, .ref aNt, .int (nI nts), .ref aNbo, .ref aNsz, .ref aNnu, .int (nI nta), .int (nI nop), .int nbd, .int ntp, .int (nI npr), .int nnw, .int nsn, .int nwn, .ref aNl, .ref aNal, .ref aNlo, .int (nI nac), .ref aNw, .ref aNtr, .ref aNis, .ref aNbg, .ref aNow])), (aNf, .inl (g.2.1 0, 8, .inl (nIf (fnF fi)))), (aNs, .inl (g.2.1 0, 919, .inl (msF gr wk z lk sz br ru ki ma bb ce hd)))] (xpi (nI (gr)) [(aN, .inr (9, [.ref aNs, .ref aNk, .int nkp, .ref aNf, .ref aNr, .ref aNp, .ref aNb, .ref aNa, .ref aNt, .int (nI nts), .ref aNbo, .ref aNsz, .ref aNnu, .int (nI nta), .int (nI nop), .int nbd, .int ntp, .int (nI npr), .int 1, .int nsn, .int nwn, .ref aNl, .ref aNal, .ref aNlo, .int (nI nac), .ref aNw, .ref aNtr, .ref aNis, .ref aNbg, .ref aNow])), (aNf, .inl (g.2.1 0, 8, .inl (nIf (fnF fi)))), (aNs, .inl (g.2.1 0, 919, .inl (msF (gr + 1) wk z lk sz br ru (updN ki gr kd) (updN ma gr mn) bb ce hd)))]) := by
  refine Ct.ofX (lv := [some (.ref aN), some (.int (nI kd)), some (.int (nI mn))]) (by decide) rfl (Nat.le_of_ble_eq_true rfl) (fun κ => ?_)
  generalize hQ : xQ κ g 0 0 _ = Q
  refine x_iload_n dX9_people_0 rfl ?_
  refine x_i2l dX9_people_1 ?_
  refine x_lconst 0 dX9_people_2 (by decide) ?_
  refine x_ldc2 dX9_people_3 kl_X9_96 ?_
  refine x_cSi dX9_people_6 ml_X9_98 mX9_isIn (ct_X9_isIn κ.2.1 g ((nI kd).toInt64) 0 7) rfl (Nat.le_of_ble_eq_true rfl) (by decide) (Nat.le_refl _) (Nat.le_refl _) ?_
  refine x_rei (wI (nI kd) 0 7) (inL_w (nI kd) 0 7 (by first | rfl | decide) (by first | rfl | decide)) ?_
  refine x_rei 1 (show wI (nI kd) 0 7 = 1 from wI_nat (n := kd) (a := 0) (b := 7) ⟨by omega, by omega, by omega, by omega⟩) ?_
  refine x_if_eq dX9_people_9 (fun c9 => ?_) (fun c9 => ?_)
  · exact absurd c9 (by decide)
  refine x_iload_n dX9_people_12 rfl ?_
  refine x_i2l dX9_people_13 ?_
  refine x_lconst 0 dX9_people_14 (by decide) ?_
  refine x_ldc2 dX9_people_15 kl_X9_102 ?_
  refine x_cSi dX9_people_18 ml_X9_98 mX9_isIn (ct_X9_isIn κ.2.1 g ((nI mn).toInt64) 0 99999) rfl (Nat.le_of_ble_eq_true rfl) (by decide) (Nat.le_refl _) (Nat.le_refl _) ?_
  refine x_rei (wI (nI mn) 0 99999) (inL_w (nI mn) 0 99999 (by first | rfl | decide) (by first | rfl | decide)) ?_
  refine x_rei 1 (show wI (nI mn) 0 99999 = 1 from wI_nat (n := mn) (a := 0) (b := 99999) ⟨by omega, by omega, by omega, by omega⟩) ?_
  refine x_if_ne dX9_people_21 (fun c21 => ?_) (fun c21 => ?_)
  rotate_left
  · exact absurd c21 (by decide)
  refine x_aload_n dX9_people_31 rfl ?_
  refine x_get dX9_people_32 0 0 inX9 fl_X9_7 rfl rfl (by decide) rfl ?_
  refine x_iconst 0 dX9_people_35 (by decide) ?_
  refine x_iald dX9_people_36 2 0 rfl (rfl) (by decide) (by decide) ?_
  refine x_rei (nI gr) (rfl) ?_
  refine x_bipush 12 dX9_people_37 (by decide) ?_
  refine x_icmp_ne dX9_people_39 (fun c39 => ?_) (fun c39 => ?_)
  · have c39 : ¬ ((nI gr) = 12) := c39
    have c39n := mt (nI_eq (a := gr) (b := 12) (by omega) (by omega)).mpr c39
    refine x_aload_n dX9_people_49 rfl ?_
    refine x_get dX9_people_50 0 0 inX9 fl_X9_7 rfl rfl (by decide) rfl ?_
    refine x_bipush 20 dX9_people_53 (by decide) ?_
    refine x_aload_n dX9_people_55 rfl ?_
    refine x_get dX9_people_56 0 0 inX9 fl_X9_7 rfl rfl (by decide) rfl ?_
    refine x_iconst 0 dX9_people_59 (by decide) ?_
    refine x_iald dX9_people_60 2 0 rfl (rfl) (by decide) (by decide) ?_
    refine x_rei (nI gr) (rfl) ?_
    refine x_iadd dX9_people_61 ?_
    refine x_rei (nI (20 + gr)) (nI_iadd 20 gr) ?_
    refine x_iload_n dX9_people_62 rfl ?_
    refine x_iast (ws' := [(aN, .inr (9, [.ref aNs, .ref aNk, .int nkp, .ref aNf, .ref aNr, .ref aNp, .ref aNb, .ref aNa, .ref aNt, .int (nI nts), .ref aNbo, .ref aNsz, .ref aNnu, .int (nI nta), .int (nI nop), .int nbd, .int ntp, .int (nI npr), .int nnw, .int nsn, .int nwn, .ref aNl, .ref aNal, .ref aNlo, .int (nI nac), .ref aNw, .ref aNtr, .ref aNis, .ref aNbg, .ref aNow])), (aNf, .inl (g.2.1 0, 8, .inl (nIf (fnF fi)))), (aNs, .inl (g.2.1 0, 919, .inl (msF gr wk z lk sz br ru (updN ki gr kd) ma bb ce hd)))]) dX9_people_63 2 (20 + gr) rfl (rfl) (by omega) (by decide) (by rw [mss_ki (x := gr) (by omega) (by omega)]; rfl) ?_
    refine x_aload_n dX9_people_64 rfl ?_
    refine x_get dX9_people_65 0 0 inX9 fl_X9_7 rfl rfl (by decide) rfl ?_
    refine x_bipush 32 dX9_people_68 (by decide) ?_
    refine x_aload_n dX9_people_70 rfl ?_
    refine x_get dX9_people_71 0 0 inX9 fl_X9_7 rfl rfl (by decide) rfl ?_
    refine x_iconst 0 dX9_people_74 (by decide) ?_
    refine x_iald dX9_people_75 2 0 rfl (rfl) (by decide) (by decide) ?_
    refine x_rei (nI gr) (rfl) ?_
    refine x_iadd dX9_people_76 ?_
    refine x_rei (nI (32 + gr)) (nI_iadd 32 gr) ?_
    refine x_iload_n dX9_people_77 rfl ?_
    refine x_iast (ws' := [(aN, .inr (9, [.ref aNs, .ref aNk, .int nkp, .ref aNf, .ref aNr, .ref aNp, .ref aNb, .ref aNa, .ref aNt, .int (nI nts), .ref aNbo, .ref aNsz, .ref aNnu, .int (nI nta), .int (nI nop), .int nbd, .int ntp, .int (nI npr), .int nnw, .int nsn, .int nwn, .ref aNl, .ref aNal, .ref aNlo, .int (nI nac), .ref aNw, .ref aNtr, .ref aNis, .ref aNbg, .ref aNow])), (aNf, .inl (g.2.1 0, 8, .inl (nIf (fnF fi)))), (aNs, .inl (g.2.1 0, 919, .inl (msF gr wk z lk sz br ru (updN ki gr kd) (updN ma gr mn) bb ce hd)))]) dX9_people_78 2 (32 + gr) rfl (rfl) (by omega) (by decide) (by rw [mss_ma (x := gr) (by omega) (by omega)]; rfl) ?_
    refine x_aload_n dX9_people_79 rfl ?_
    refine x_get dX9_people_80 0 0 inX9 fl_X9_7 rfl rfl (by decide) rfl ?_
    refine x_iconst 0 dX9_people_83 (by decide) ?_
    refine x_dup2 dX9_people_84 rfl rfl ?_
    refine x_iald dX9_people_85 2 0 rfl (rfl) (by decide) (by decide) ?_
    refine x_rei (nI gr) (rfl) ?_
    refine x_iconst 1 dX9_people_86 (by decide) ?_
    refine x_iadd dX9_people_87 ?_
    refine x_rei (nI (gr + 1)) (nI_addc gr 1 rfl) ?_
    refine x_iast (ws' := [(aN, .inr (9, [.ref aNs, .ref aNk, .int nkp, .ref aNf, .ref aNr, .ref aNp, .ref aNb, .ref aNa, .ref aNt, .int (nI nts), .ref aNbo, .ref aNsz, .ref aNnu, .int (nI nta), .int (nI nop), .int nbd, .int ntp, .int (nI npr), .int nnw, .int nsn, .int nwn, .ref aNl, .ref aNal, .ref aNlo, .int (nI nac), .ref aNw, .ref aNtr, .ref aNis, .ref aNbg, .ref aNow])), (aNf, .inl (g.2.1 0, 8, .inl (nIf (fnF fi)))), (aNs, .inl (g.2.1 0, 919, .inl (msF (gr + 1) wk z lk sz br ru (updN ki gr kd) (updN ma gr mn) bb ce hd)))]) dX9_people_88 2 0 rfl (rfl) (by decide) (by decide) (by rw [mss_0]; rfl) ?_
    refine x_aload_n dX9_people_89 rfl ?_
    refine x_iconst 1 dX9_people_90 (by decide) ?_
    refine x_put (ws' := [(aN, .inr (9, [.ref aNs, .ref aNk, .int nkp, .ref aNf, .ref aNr, .ref aNp, .ref aNb, .ref aNa, .ref aNt, .int (nI nts), .ref aNbo, .ref aNsz, .ref aNnu, .int (nI nta), .int (nI nop), .int nbd, .int ntp, .int (nI npr), .int 1, .int nsn, .int nwn, .ref aNl, .ref aNal, .ref aNlo, .int (nI nac), .ref aNw, .ref aNtr, .ref aNis, .ref aNbg, .ref aNow])), (aNf, .inl (g.2.1 0, 8, .inl (nIf (fnF fi)))), (aNs, .inl (g.2.1 0, 919, .inl (msF (gr + 1) wk z lk sz br ru (updN ki gr kd) (updN ma gr mn) bb ce hd)))]) dX9_people_91 0 18 inX9 tyX9_ok nmX9 fl_X9_44 rfl rfl (by decide) rfl (rfl) rfl (xlt rfl) rfl ?_
    refine x_aload_n dX9_people_94 rfl ?_
    refine x_get dX9_people_95 0 0 inX9 fl_X9_7 rfl rfl (by decide) rfl ?_
    refine x_iconst 0 dX9_people_98 (by decide) ?_
    refine x_iald dX9_people_99 2 0 rfl (rfl) (by decide) (by decide) ?_
    refine x_rei (nI (gr + 1)) (rfl) ?_
    refine x_iconst 1 dX9_people_100 (by decide) ?_
    refine x_isub dX9_people_101 ?_
    refine x_rei (nI gr) (nI_isub (gr + 1) 1 (by omega)) ?_
    rw [← hQ]
    refine x_iret dX9_people_102 rfl (Nat.le_of_ble_eq_true rfl) (Nat.le_of_ble_eq_true rfl) ?_
    exact ⟨rfl, rfl⟩
  · have c39 : (nI gr) = 12 := c39
    have c39n := (nI_eq (a := gr) (b := 12) (by omega) (by omega)).mp c39
    exact absurd c39n (by omega)

-- == nof_b ==
theorem dX9_of_0 : xd cX9_of 0 (.aload_n 0) 1 1 := ⟨by decide +kernel, rfl⟩
theorem dX9_of_1 : xd cX9_of 1 (.iload_n 1) 1 2 := ⟨by decide +kernel, rfl⟩
theorem dX9_of_2 : xd cX9_of 2 (.invokevirtual 105) 3 5 := ⟨by decide +kernel, rfl⟩
theorem dX9_of_5 : xj cX9_of 5 (.ifCond .eq) 8 18 := ⟨13, by decide +kernel, rfl, by decide⟩
theorem dX9_of_8 : xd cX9_of 8 (.iload_n 2) 1 9 := ⟨by decide +kernel, rfl⟩
theorem dX9_of_9 : xd cX9_of 9 .i2l 1 10 := ⟨by decide +kernel, rfl⟩
theorem dX9_of_10 : xd cX9_of 10 (.lconst 0) 1 11 := ⟨by decide +kernel, rfl⟩
theorem dX9_of_11 : xd cX9_of 11 (.lconst 1) 1 12 := ⟨by decide +kernel, rfl⟩
theorem dX9_of_12 : xd cX9_of 12 (.invokestatic 98) 3 15 := ⟨by decide +kernel, rfl⟩
theorem dX9_of_15 : xj cX9_of 15 (.ifCond .ne) 18 25 := ⟨10, by decide +kernel, rfl, by decide⟩
theorem dX9_of_18 : xd cX9_of 18 (.aload_n 0) 1 19 := ⟨by decide +kernel, rfl⟩
theorem dX9_of_19 : xd cX9_of 19 (.ldc 87) 2 21 := ⟨by decide +kernel, rfl⟩
theorem dX9_of_21 : xd cX9_of 21 (.invokevirtual 88) 3 24 := ⟨by decide +kernel, rfl⟩
theorem dX9_of_24 : xd cX9_of 24 .ireturn 1 25 := ⟨by decide +kernel, rfl⟩
theorem dX9_of_25 : xd cX9_of 25 (.iload_n 2) 1 26 := ⟨by decide +kernel, rfl⟩
theorem dX9_of_26 : xj cX9_of 26 (.ifCond .ne) 29 41 := ⟨15, by decide +kernel, rfl, by decide⟩
theorem dX9_of_29 : xd cX9_of 29 (.aload_n 0) 1 30 := ⟨by decide +kernel, rfl⟩
theorem dX9_of_30 : xd cX9_of 30 (.getfield 7) 3 33 := ⟨by decide +kernel, rfl⟩
theorem dX9_of_33 : xd cX9_of 33 (.bipush 20) 2 35 := ⟨by decide +kernel, rfl⟩
theorem dX9_of_35 : xd cX9_of 35 (.iload_n 1) 1 36 := ⟨by decide +kernel, rfl⟩
theorem dX9_of_36 : xd cX9_of 36 .iadd 1 37 := ⟨by decide +kernel, rfl⟩
theorem dX9_of_37 : xd cX9_of 37 .iaload 1 38 := ⟨by decide +kernel, rfl⟩
theorem dX9_of_38 : xj cX9_of 38 .goto 41 50 := ⟨12, by decide +kernel, rfl, by decide⟩
theorem dX9_of_41 : xd cX9_of 41 (.aload_n 0) 1 42 := ⟨by decide +kernel, rfl⟩
theorem dX9_of_42 : xd cX9_of 42 (.getfield 7) 3 45 := ⟨by decide +kernel, rfl⟩
theorem dX9_of_45 : xd cX9_of 45 (.bipush 32) 2 47 := ⟨by decide +kernel, rfl⟩
theorem dX9_of_47 : xd cX9_of 47 (.iload_n 1) 1 48 := ⟨by decide +kernel, rfl⟩
theorem dX9_of_48 : xd cX9_of 48 .iadd 1 49 := ⟨by decide +kernel, rfl⟩
theorem dX9_of_49 : xd cX9_of 49 .iaload 1 50 := ⟨by decide +kernel, rfl⟩
theorem dX9_of_50 : xd cX9_of 50 .ireturn 1 51 := ⟨by decide +kernel, rfl⟩

set_option maxRecDepth 100000 in
set_option maxHeartbeats 4000000 in
theorem ct_nof_b (l : Launch) (g : XG) (aN aNs aNk aNf aNr aNp aNb aNa aNt aNbo aNsz aNnu aNl aNal aNlo aNw aNtr aNis aNbg aNow nts nta nop npr nac : Nat) (nkp nbd ntp nnw nsn nwn : Int32) (fi : Nat → Nat) (pp wh : Int32) (gr wk lk sz br : Nat) (z : Int32) (ru ki ma bb hd : Nat → Nat) (ce : Nat → Int32) (hgr : gr ≤ 12) (hb : wI pp 0 (nI gr - 1) = 0 ∨ wI wh 0 1 = 0) : Ct l g 30 0 0 yX9_of cX9_of 3 (some .int) [.ref aN, .int pp, .int wh] [(aN, .inr (9, [.ref aNs, .ref aNk, .int nkp, .ref aNf, .ref aNr, .ref aNp, .ref aNb, .ref aNa, .ref aNt, .int (nI nts), .ref aNbo, .ref aNsz, .ref aNnu, .int (nI nta), .int (nI nop), .int nbd, .int ntp, .int (nI npr), .int nnw, .int nsn, .int nwn, .ref aNl, .ref aNal, .ref aNlo, .int (nI nac), .ref aNw, .ref aNtr, .ref aNis, .ref aNbg, .ref aNow])), (aNf, .inl (g.2.1 0, 8, .inl (nIf (fnF fi)))), (aNs, .inl (g.2.1 0, 919, .inl (msF gr wk z lk sz br ru ki ma bb ce hd)))] (xpi (fndI 0) [(aN, .inr (9, [.ref aNs, .ref aNk, .int nkp, .ref aNf, .ref aNr, .ref aNp, .ref aNb, .ref aNa, .ref aNt, .int (nI nts), .ref aNbo, .ref aNsz, .ref aNnu, .int (nI nta), .int (nI nop), .int nbd, .int ntp, .int (nI npr), .int nnw, .int nsn, .int nwn, .ref aNl, .ref aNal, .ref aNlo, .int (nI nac), .ref aNw, .ref aNtr, .ref aNis, .ref aNbg, .ref aNow])), (aNf, .inl (g.2.1 0, 8, .inl (nIf (fnF (updN fi 0 (fi 0 + 1)))))), (aNs, .inl (g.2.1 0, 919, .inl (msF gr wk z lk sz br ru ki ma bb ce hd)))]) := by
  refine Ct.ofX (lv := [some (.ref aN), some (.int pp), some (.int wh)]) (by decide) rfl (Nat.le_of_ble_eq_true rfl) (fun κ => ?_)
  generalize hQ : xQ κ g 0 0 _ = Q
  refine x_aload_n dX9_of_0 rfl ?_
  refine x_iload_n dX9_of_1 rfl ?_
  refine x_cVi0 dX9_of_2 ml_X9_105 mX9_isPeople (ct_X9_isPeople κ.2.1 g aN aNs aNk aNf aNr aNp aNb aNa aNt aNbo aNsz aNnu aNl aNal aNlo aNw aNtr aNis aNbg aNow nts nta nop npr nac nkp nbd ntp nnw nsn nwn gr wk lk sz br z ru ki ma bb hd ce pp (hgr)) [0, 2] rfl rfl 0 rfl rfl rfl (Nat.le_of_ble_eq_true rfl) (by decide) (Nat.le_refl _) (Nat.le_refl _) ?_
  refine x_if_eq dX9_of_5 (fun c5 => ?_) (fun c5 => ?_)
  · have c5 : (wI pp 0 (nI gr - 1)) = 0 := c5
    refine x_aload_n dX9_of_18 rfl ?_
    refine x_ldc dX9_of_19 k_X9_87 ?_
    refine x_cVi (ws' := [(aN, .inr (9, [.ref aNs, .ref aNk, .int nkp, .ref aNf, .ref aNr, .ref aNp, .ref aNb, .ref aNa, .ref aNt, .int (nI nts), .ref aNbo, .ref aNsz, .ref aNnu, .int (nI nta), .int (nI nop), .int nbd, .int ntp, .int (nI npr), .int nnw, .int nsn, .int nwn, .ref aNl, .ref aNal, .ref aNlo, .int (nI nac), .ref aNw, .ref aNtr, .ref aNis, .ref aNbg, .ref aNow])), (aNf, .inl (g.2.1 0, 8, .inl (nIf (fnF (updN fi 0 (fi 0 + 1)))))), (aNs, .inl (g.2.1 0, 919, .inl (msF gr wk z lk sz br ru ki ma bb ce hd)))]) dX9_of_21 ml_X9_88 mX9_finds (ct_finds_0 κ.2.1 g aN aNs aNk aNf aNr aNp aNb aNa aNt aNbo aNsz aNnu aNl aNal aNlo aNw aNtr aNis aNbg aNow nts nta nop npr nac nkp nbd ntp nnw nsn nwn fi) [0, 1] rfl rfl 0 rfl rfl rfl (Nat.le_of_ble_eq_true rfl) (by decide) (Nat.le_refl _) (Nat.le_refl _) (rfl : [aN, aNf] = [aN, aNf]) rfl ?_
    rw [← hQ]
    refine x_iret dX9_of_24 rfl (Nat.le_of_ble_eq_true rfl) (Nat.le_of_ble_eq_true rfl) ?_
    exact ⟨rfl, rfl⟩
  · have c5 : ¬ ((wI pp 0 (nI gr - 1)) = 0) := c5
    refine x_iload_n dX9_of_8 rfl ?_
    refine x_i2l dX9_of_9 ?_
    refine x_lconst 0 dX9_of_10 (by decide) ?_
    refine x_lconst 1 dX9_of_11 (by decide) ?_
    refine x_cSi dX9_of_12 ml_X9_98 mX9_isIn (ct_X9_isIn κ.2.1 g wh.toInt64 0 1) rfl (Nat.le_of_ble_eq_true rfl) (by decide) (Nat.le_refl _) (Nat.le_refl _) ?_
    refine x_rei (wI wh 0 1) (inL_w wh 0 1 (by first | rfl | decide) (by first | rfl | decide)) ?_
    refine x_if_ne dX9_of_15 (fun c15 => ?_) (fun c15 => ?_)
    · have c15 : ¬ ((wI wh 0 1) = 0) := c15
      exact absurd (hb.resolve_left c5) c15
    · have c15 : (wI wh 0 1) = 0 := c15
      refine x_aload_n dX9_of_18 rfl ?_
      refine x_ldc dX9_of_19 k_X9_87 ?_
      refine x_cVi (ws' := [(aN, .inr (9, [.ref aNs, .ref aNk, .int nkp, .ref aNf, .ref aNr, .ref aNp, .ref aNb, .ref aNa, .ref aNt, .int (nI nts), .ref aNbo, .ref aNsz, .ref aNnu, .int (nI nta), .int (nI nop), .int nbd, .int ntp, .int (nI npr), .int nnw, .int nsn, .int nwn, .ref aNl, .ref aNal, .ref aNlo, .int (nI nac), .ref aNw, .ref aNtr, .ref aNis, .ref aNbg, .ref aNow])), (aNf, .inl (g.2.1 0, 8, .inl (nIf (fnF (updN fi 0 (fi 0 + 1)))))), (aNs, .inl (g.2.1 0, 919, .inl (msF gr wk z lk sz br ru ki ma bb ce hd)))]) dX9_of_21 ml_X9_88 mX9_finds (ct_finds_0 κ.2.1 g aN aNs aNk aNf aNr aNp aNb aNa aNt aNbo aNsz aNnu aNl aNal aNlo aNw aNtr aNis aNbg aNow nts nta nop npr nac nkp nbd ntp nnw nsn nwn fi) [0, 1] rfl rfl 0 rfl rfl rfl (Nat.le_of_ble_eq_true rfl) (by decide) (Nat.le_refl _) (Nat.le_refl _) (rfl : [aN, aNf] = [aN, aNf]) rfl ?_
      rw [← hQ]
      refine x_iret dX9_of_24 rfl (Nat.le_of_ble_eq_true rfl) (Nat.le_of_ble_eq_true rfl) ?_
      exact ⟨rfl, rfl⟩

-- == nof_0 ==
set_option maxRecDepth 100000 in
set_option maxHeartbeats 4000000 in
theorem ct_nof_0 (l : Launch) (g : XG) (aN aNs aNk aNf aNr aNp aNb aNa aNt aNbo aNsz aNnu aNl aNal aNlo aNw aNtr aNis aNbg aNow nts nta nop npr nac : Nat) (nkp nbd ntp nnw nsn nwn : Int32) (fi : Nat → Nat) (gr wk lk sz br : Nat) (z : Int32) (ru ki ma bb hd : Nat → Nat) (ce : Nat → Int32) (q : Nat) (hq : q < gr ∧ gr ≤ 12) : Ct l g 30 0 0 yX9_of cX9_of 3 (some .int) [.ref aN, .int (nI q), .int 0] [(aN, .inr (9, [.ref aNs, .ref aNk, .int nkp, .ref aNf, .ref aNr, .ref aNp, .ref aNb, .ref aNa, .ref aNt, .int (nI nts), .ref aNbo, .ref aNsz, .ref aNnu, .int (nI nta), .int (nI nop), .int nbd, .int ntp, .int (nI npr), .int nnw, .int nsn, .int nwn, .ref aNl, .ref aNal, .ref aNlo, .int (nI nac), .ref aNw, .ref aNtr, .ref aNis, .ref aNbg, .ref aNow])), (aNf, .inl (g.2.1 0, 8, .inl (nIf (fnF fi)))), (aNs, .inl (g.2.1 0, 919, .inl (msF gr wk z lk sz br ru ki ma bb ce hd)))] (xpi (nI (ki q)) [(aN, .inr (9, [.ref aNs, .ref aNk, .int nkp, .ref aNf, .ref aNr, .ref aNp, .ref aNb, .ref aNa, .ref aNt, .int (nI nts), .ref aNbo, .ref aNsz, .ref aNnu, .int (nI nta), .int (nI nop), .int nbd, .int ntp, .int (nI npr), .int nnw, .int nsn, .int nwn, .ref aNl, .ref aNal, .ref aNlo, .int (nI nac), .ref aNw, .ref aNtr, .ref aNis, .ref aNbg, .ref aNow])), (aNf, .inl (g.2.1 0, 8, .inl (nIf (fnF fi)))), (aNs, .inl (g.2.1 0, 919, .inl (msF gr wk z lk sz br ru ki ma bb ce hd)))]) := by
  refine Ct.ofX (lv := [some (.ref aN), some (.int (nI q)), some (.int 0)]) (by decide) rfl (Nat.le_of_ble_eq_true rfl) (fun κ => ?_)
  generalize hQ : xQ κ g 0 0 _ = Q
  refine x_aload_n dX9_of_0 rfl ?_
  refine x_iload_n dX9_of_1 rfl ?_
  refine x_cVi0 dX9_of_2 ml_X9_105 mX9_isPeople (ct_nPeople_n κ.2.1 g aN aNs aNk aNf aNr aNp aNb aNa aNt aNbo aNsz aNnu aNl aNal aNlo aNw aNtr aNis aNbg aNow nts nta nop npr nac nkp nbd ntp nnw nsn nwn gr wk lk sz br z ru ki ma bb hd ce q (hq)) [0, 2] rfl rfl 0 rfl rfl rfl (Nat.le_of_ble_eq_true rfl) (by decide) (Nat.le_refl _) (Nat.le_refl _) ?_
  refine x_if_eq dX9_of_5 (fun c5 => ?_) (fun c5 => ?_)
  · exact absurd c5 (by decide)
  refine x_iload_n dX9_of_8 rfl ?_
  refine x_i2l dX9_of_9 ?_
  refine x_lconst 0 dX9_of_10 (by decide) ?_
  refine x_lconst 1 dX9_of_11 (by decide) ?_
  refine x_cSi dX9_of_12 ml_X9_98 mX9_isIn (ct_X9_isIn κ.2.1 g ((0 : Int32).toInt64) 0 1) rfl (Nat.le_of_ble_eq_true rfl) (by decide) (Nat.le_refl _) (Nat.le_refl _) ?_
  refine x_rei (wI (0 : Int32) 0 1) (inL_w (0 : Int32) 0 1 (by first | rfl | decide) (by first | rfl | decide)) ?_
  refine x_rei (1) (by decide) ?_
  refine x_if_ne dX9_of_15 (fun c15 => ?_) (fun c15 => ?_)
  rotate_left
  · exact absurd c15 (by decide)
  refine x_iload_n dX9_of_25 rfl ?_
  refine x_if_ne dX9_of_26 (fun c26 => ?_) (fun c26 => ?_)
  · exact absurd c26 (by decide)
  refine x_aload_n dX9_of_29 rfl ?_
  refine x_get dX9_of_30 0 0 inX9 fl_X9_7 rfl rfl (by decide) rfl ?_
  refine x_bipush 20 dX9_of_33 (by decide) ?_
  refine x_iload_n dX9_of_35 rfl ?_
  refine x_iadd dX9_of_36 ?_
  refine x_rei (nI (20 + q)) (nI_iadd 20 q) ?_
  refine x_iald dX9_of_37 2 (20 + q) rfl (rfl) (by omega) (by decide) ?_
  refine x_rei (nI (ki q)) (msg_ki (x := q) (by omega) (by omega)) ?_
  refine x_goto dX9_of_38 ?_
  rw [← hQ]
  refine x_iret dX9_of_50 rfl (Nat.le_of_ble_eq_true rfl) (Nat.le_of_ble_eq_true rfl) ?_
  exact ⟨rfl, rfl⟩

-- == nof_1 ==
set_option maxRecDepth 100000 in
set_option maxHeartbeats 4000000 in
theorem ct_nof_1 (l : Launch) (g : XG) (aN aNs aNk aNf aNr aNp aNb aNa aNt aNbo aNsz aNnu aNl aNal aNlo aNw aNtr aNis aNbg aNow nts nta nop npr nac : Nat) (nkp nbd ntp nnw nsn nwn : Int32) (fi : Nat → Nat) (gr wk lk sz br : Nat) (z : Int32) (ru ki ma bb hd : Nat → Nat) (ce : Nat → Int32) (q : Nat) (hq : q < gr ∧ gr ≤ 12) : Ct l g 30 0 0 yX9_of cX9_of 3 (some .int) [.ref aN, .int (nI q), .int 1] [(aN, .inr (9, [.ref aNs, .ref aNk, .int nkp, .ref aNf, .ref aNr, .ref aNp, .ref aNb, .ref aNa, .ref aNt, .int (nI nts), .ref aNbo, .ref aNsz, .ref aNnu, .int (nI nta), .int (nI nop), .int nbd, .int ntp, .int (nI npr), .int nnw, .int nsn, .int nwn, .ref aNl, .ref aNal, .ref aNlo, .int (nI nac), .ref aNw, .ref aNtr, .ref aNis, .ref aNbg, .ref aNow])), (aNf, .inl (g.2.1 0, 8, .inl (nIf (fnF fi)))), (aNs, .inl (g.2.1 0, 919, .inl (msF gr wk z lk sz br ru ki ma bb ce hd)))] (xpi (nI (ma q)) [(aN, .inr (9, [.ref aNs, .ref aNk, .int nkp, .ref aNf, .ref aNr, .ref aNp, .ref aNb, .ref aNa, .ref aNt, .int (nI nts), .ref aNbo, .ref aNsz, .ref aNnu, .int (nI nta), .int (nI nop), .int nbd, .int ntp, .int (nI npr), .int nnw, .int nsn, .int nwn, .ref aNl, .ref aNal, .ref aNlo, .int (nI nac), .ref aNw, .ref aNtr, .ref aNis, .ref aNbg, .ref aNow])), (aNf, .inl (g.2.1 0, 8, .inl (nIf (fnF fi)))), (aNs, .inl (g.2.1 0, 919, .inl (msF gr wk z lk sz br ru ki ma bb ce hd)))]) := by
  refine Ct.ofX (lv := [some (.ref aN), some (.int (nI q)), some (.int 1)]) (by decide) rfl (Nat.le_of_ble_eq_true rfl) (fun κ => ?_)
  generalize hQ : xQ κ g 0 0 _ = Q
  refine x_aload_n dX9_of_0 rfl ?_
  refine x_iload_n dX9_of_1 rfl ?_
  refine x_cVi0 dX9_of_2 ml_X9_105 mX9_isPeople (ct_nPeople_n κ.2.1 g aN aNs aNk aNf aNr aNp aNb aNa aNt aNbo aNsz aNnu aNl aNal aNlo aNw aNtr aNis aNbg aNow nts nta nop npr nac nkp nbd ntp nnw nsn nwn gr wk lk sz br z ru ki ma bb hd ce q (hq)) [0, 2] rfl rfl 0 rfl rfl rfl (Nat.le_of_ble_eq_true rfl) (by decide) (Nat.le_refl _) (Nat.le_refl _) ?_
  refine x_if_eq dX9_of_5 (fun c5 => ?_) (fun c5 => ?_)
  · exact absurd c5 (by decide)
  refine x_iload_n dX9_of_8 rfl ?_
  refine x_i2l dX9_of_9 ?_
  refine x_lconst 0 dX9_of_10 (by decide) ?_
  refine x_lconst 1 dX9_of_11 (by decide) ?_
  refine x_cSi dX9_of_12 ml_X9_98 mX9_isIn (ct_X9_isIn κ.2.1 g ((1 : Int32).toInt64) 0 1) rfl (Nat.le_of_ble_eq_true rfl) (by decide) (Nat.le_refl _) (Nat.le_refl _) ?_
  refine x_rei (wI (1 : Int32) 0 1) (inL_w (1 : Int32) 0 1 (by first | rfl | decide) (by first | rfl | decide)) ?_
  refine x_rei (1) (by decide) ?_
  refine x_if_ne dX9_of_15 (fun c15 => ?_) (fun c15 => ?_)
  rotate_left
  · exact absurd c15 (by decide)
  refine x_iload_n dX9_of_25 rfl ?_
  refine x_if_ne dX9_of_26 (fun c26 => ?_) (fun c26 => ?_)
  rotate_left
  · exact absurd c26 (by decide)
  refine x_aload_n dX9_of_41 rfl ?_
  refine x_get dX9_of_42 0 0 inX9 fl_X9_7 rfl rfl (by decide) rfl ?_
  refine x_bipush 32 dX9_of_45 (by decide) ?_
  refine x_iload_n dX9_of_47 rfl ?_
  refine x_iadd dX9_of_48 ?_
  refine x_rei (nI (32 + q)) (nI_iadd 32 q) ?_
  refine x_iald dX9_of_49 2 (32 + q) rfl (rfl) (by omega) (by decide) ?_
  refine x_rei (nI (ma q)) (msg_ma (x := q) (by omega) (by omega)) ?_
  rw [← hQ]
  refine x_iret dX9_of_50 rfl (Nat.le_of_ble_eq_true rfl) (Nat.le_of_ble_eq_true rfl) ?_
  exact ⟨rfl, rfl⟩

-- == nmany_b ==
theorem dX9_many_0 : xd cX9_many 0 (.aload_n 0) 1 1 := ⟨by decide +kernel, rfl⟩
theorem dX9_many_1 : xd cX9_many 1 (.iload_n 1) 1 2 := ⟨by decide +kernel, rfl⟩
theorem dX9_many_2 : xd cX9_many 2 (.invokevirtual 105) 3 5 := ⟨by decide +kernel, rfl⟩
theorem dX9_many_5 : xj cX9_many 5 (.ifCond .eq) 8 20 := ⟨15, by decide +kernel, rfl, by decide⟩
theorem dX9_many_8 : xd cX9_many 8 (.iload_n 2) 1 9 := ⟨by decide +kernel, rfl⟩
theorem dX9_many_9 : xd cX9_many 9 .i2l 1 10 := ⟨by decide +kernel, rfl⟩
theorem dX9_many_10 : xd cX9_many 10 (.lconst 0) 1 11 := ⟨by decide +kernel, rfl⟩
theorem dX9_many_11 : xd cX9_many 11 (.ldc2_w 102) 3 14 := ⟨by decide +kernel, rfl⟩
theorem dX9_many_14 : xd cX9_many 14 (.invokestatic 98) 3 17 := ⟨by decide +kernel, rfl⟩
theorem dX9_many_17 : xj cX9_many 17 (.ifCond .ne) 20 27 := ⟨10, by decide +kernel, rfl, by decide⟩
theorem dX9_many_20 : xd cX9_many 20 (.aload_n 0) 1 21 := ⟨by decide +kernel, rfl⟩
theorem dX9_many_21 : xd cX9_many 21 (.ldc 87) 2 23 := ⟨by decide +kernel, rfl⟩
theorem dX9_many_23 : xd cX9_many 23 (.invokevirtual 88) 3 26 := ⟨by decide +kernel, rfl⟩
theorem dX9_many_26 : xd cX9_many 26 .ireturn 1 27 := ⟨by decide +kernel, rfl⟩
theorem dX9_many_27 : xd cX9_many 27 (.aload_n 0) 1 28 := ⟨by decide +kernel, rfl⟩
theorem dX9_many_28 : xd cX9_many 28 (.getfield 7) 3 31 := ⟨by decide +kernel, rfl⟩
theorem dX9_many_31 : xd cX9_many 31 (.bipush 32) 2 33 := ⟨by decide +kernel, rfl⟩
theorem dX9_many_33 : xd cX9_many 33 (.iload_n 1) 1 34 := ⟨by decide +kernel, rfl⟩
theorem dX9_many_34 : xd cX9_many 34 .iadd 1 35 := ⟨by decide +kernel, rfl⟩
theorem dX9_many_35 : xd cX9_many 35 .iaload 1 36 := ⟨by decide +kernel, rfl⟩
theorem dX9_many_36 : xd cX9_many 36 (.istore_n 3) 1 37 := ⟨by decide +kernel, rfl⟩
theorem dX9_many_37 : xd cX9_many 37 (.aload_n 0) 1 38 := ⟨by decide +kernel, rfl⟩
theorem dX9_many_38 : xd cX9_many 38 (.getfield 7) 3 41 := ⟨by decide +kernel, rfl⟩
theorem dX9_many_41 : xd cX9_many 41 (.bipush 32) 2 43 := ⟨by decide +kernel, rfl⟩
theorem dX9_many_43 : xd cX9_many 43 (.iload_n 1) 1 44 := ⟨by decide +kernel, rfl⟩
theorem dX9_many_44 : xd cX9_many 44 .iadd 1 45 := ⟨by decide +kernel, rfl⟩
theorem dX9_many_45 : xd cX9_many 45 (.iload_n 2) 1 46 := ⟨by decide +kernel, rfl⟩
theorem dX9_many_46 : xd cX9_many 46 .iastore 1 47 := ⟨by decide +kernel, rfl⟩
theorem dX9_many_47 : xd cX9_many 47 (.aload_n 0) 1 48 := ⟨by decide +kernel, rfl⟩
theorem dX9_many_48 : xd cX9_many 48 (.iconst 1) 1 49 := ⟨by decide +kernel, rfl⟩
theorem dX9_many_49 : xd cX9_many 49 (.putfield 44) 3 52 := ⟨by decide +kernel, rfl⟩
theorem dX9_many_52 : xd cX9_many 52 (.iload_n 3) 1 53 := ⟨by decide +kernel, rfl⟩
theorem dX9_many_53 : xd cX9_many 53 .ireturn 1 54 := ⟨by decide +kernel, rfl⟩

set_option maxRecDepth 100000 in
set_option maxHeartbeats 4000000 in
theorem ct_nmany_b (l : Launch) (g : XG) (aN aNs aNk aNf aNr aNp aNb aNa aNt aNbo aNsz aNnu aNl aNal aNlo aNw aNtr aNis aNbg aNow nts nta nop npr nac : Nat) (nkp nbd ntp nnw nsn nwn : Int32) (fi : Nat → Nat) (pp v : Int32) (gr wk lk sz br : Nat) (z : Int32) (ru ki ma bb hd : Nat → Nat) (ce : Nat → Int32) (hgr : gr ≤ 12) (hb : wI pp 0 (nI gr - 1) = 0 ∨ wI v 0 99999 = 0) : Ct l g 30 0 0 yX9_many cX9_many 4 (some .int) [.ref aN, .int pp, .int v] [(aN, .inr (9, [.ref aNs, .ref aNk, .int nkp, .ref aNf, .ref aNr, .ref aNp, .ref aNb, .ref aNa, .ref aNt, .int (nI nts), .ref aNbo, .ref aNsz, .ref aNnu, .int (nI nta), .int (nI nop), .int nbd, .int ntp, .int (nI npr), .int nnw, .int nsn, .int nwn, .ref aNl, .ref aNal, .ref aNlo, .int (nI nac), .ref aNw, .ref aNtr, .ref aNis, .ref aNbg, .ref aNow])), (aNf, .inl (g.2.1 0, 8, .inl (nIf (fnF fi)))), (aNs, .inl (g.2.1 0, 919, .inl (msF gr wk z lk sz br ru ki ma bb ce hd)))] (xpi (fndI 0) [(aN, .inr (9, [.ref aNs, .ref aNk, .int nkp, .ref aNf, .ref aNr, .ref aNp, .ref aNb, .ref aNa, .ref aNt, .int (nI nts), .ref aNbo, .ref aNsz, .ref aNnu, .int (nI nta), .int (nI nop), .int nbd, .int ntp, .int (nI npr), .int nnw, .int nsn, .int nwn, .ref aNl, .ref aNal, .ref aNlo, .int (nI nac), .ref aNw, .ref aNtr, .ref aNis, .ref aNbg, .ref aNow])), (aNf, .inl (g.2.1 0, 8, .inl (nIf (fnF (updN fi 0 (fi 0 + 1)))))), (aNs, .inl (g.2.1 0, 919, .inl (msF gr wk z lk sz br ru ki ma bb ce hd)))]) := by
  refine Ct.ofX (lv := [some (.ref aN), some (.int pp), some (.int v), none]) (by decide) rfl (Nat.le_of_ble_eq_true rfl) (fun κ => ?_)
  generalize hQ : xQ κ g 0 0 _ = Q
  refine x_aload_n dX9_many_0 rfl ?_
  refine x_iload_n dX9_many_1 rfl ?_
  refine x_cVi0 dX9_many_2 ml_X9_105 mX9_isPeople (ct_X9_isPeople κ.2.1 g aN aNs aNk aNf aNr aNp aNb aNa aNt aNbo aNsz aNnu aNl aNal aNlo aNw aNtr aNis aNbg aNow nts nta nop npr nac nkp nbd ntp nnw nsn nwn gr wk lk sz br z ru ki ma bb hd ce pp (hgr)) [0, 2] rfl rfl 0 rfl rfl rfl (Nat.le_of_ble_eq_true rfl) (by decide) (Nat.le_refl _) (Nat.le_refl _) ?_
  refine x_if_eq dX9_many_5 (fun c5 => ?_) (fun c5 => ?_)
  · have c5 : (wI pp 0 (nI gr - 1)) = 0 := c5
    refine x_aload_n dX9_many_20 rfl ?_
    refine x_ldc dX9_many_21 k_X9_87 ?_
    refine x_cVi (ws' := [(aN, .inr (9, [.ref aNs, .ref aNk, .int nkp, .ref aNf, .ref aNr, .ref aNp, .ref aNb, .ref aNa, .ref aNt, .int (nI nts), .ref aNbo, .ref aNsz, .ref aNnu, .int (nI nta), .int (nI nop), .int nbd, .int ntp, .int (nI npr), .int nnw, .int nsn, .int nwn, .ref aNl, .ref aNal, .ref aNlo, .int (nI nac), .ref aNw, .ref aNtr, .ref aNis, .ref aNbg, .ref aNow])), (aNf, .inl (g.2.1 0, 8, .inl (nIf (fnF (updN fi 0 (fi 0 + 1)))))), (aNs, .inl (g.2.1 0, 919, .inl (msF gr wk z lk sz br ru ki ma bb ce hd)))]) dX9_many_23 ml_X9_88 mX9_finds (ct_finds_0 κ.2.1 g aN aNs aNk aNf aNr aNp aNb aNa aNt aNbo aNsz aNnu aNl aNal aNlo aNw aNtr aNis aNbg aNow nts nta nop npr nac nkp nbd ntp nnw nsn nwn fi) [0, 1] rfl rfl 0 rfl rfl rfl (Nat.le_of_ble_eq_true rfl) (by decide) (Nat.le_refl _) (Nat.le_refl _) (rfl : [aN, aNf] = [aN, aNf]) rfl ?_
    rw [← hQ]
    refine x_iret dX9_many_26 rfl (Nat.le_of_ble_eq_true rfl) (Nat.le_of_ble_eq_true rfl) ?_
    exact ⟨rfl, rfl⟩
  · have c5 : ¬ ((wI pp 0 (nI gr - 1)) = 0) := c5
    refine x_iload_n dX9_many_8 rfl ?_
    refine x_i2l dX9_many_9 ?_
    refine x_lconst 0 dX9_many_10 (by decide) ?_
    refine x_ldc2 dX9_many_11 kl_X9_102 ?_
    refine x_cSi dX9_many_14 ml_X9_98 mX9_isIn (ct_X9_isIn κ.2.1 g v.toInt64 0 99999) rfl (Nat.le_of_ble_eq_true rfl) (by decide) (Nat.le_refl _) (Nat.le_refl _) ?_
    refine x_rei (wI v 0 99999) (inL_w v 0 99999 (by first | rfl | decide) (by first | rfl | decide)) ?_
    refine x_if_ne dX9_many_17 (fun c17 => ?_) (fun c17 => ?_)
    · have c17 : ¬ ((wI v 0 99999) = 0) := c17
      exact absurd (hb.resolve_left c5) c17
    · have c17 : (wI v 0 99999) = 0 := c17
      refine x_aload_n dX9_many_20 rfl ?_
      refine x_ldc dX9_many_21 k_X9_87 ?_
      refine x_cVi (ws' := [(aN, .inr (9, [.ref aNs, .ref aNk, .int nkp, .ref aNf, .ref aNr, .ref aNp, .ref aNb, .ref aNa, .ref aNt, .int (nI nts), .ref aNbo, .ref aNsz, .ref aNnu, .int (nI nta), .int (nI nop), .int nbd, .int ntp, .int (nI npr), .int nnw, .int nsn, .int nwn, .ref aNl, .ref aNal, .ref aNlo, .int (nI nac), .ref aNw, .ref aNtr, .ref aNis, .ref aNbg, .ref aNow])), (aNf, .inl (g.2.1 0, 8, .inl (nIf (fnF (updN fi 0 (fi 0 + 1)))))), (aNs, .inl (g.2.1 0, 919, .inl (msF gr wk z lk sz br ru ki ma bb ce hd)))]) dX9_many_23 ml_X9_88 mX9_finds (ct_finds_0 κ.2.1 g aN aNs aNk aNf aNr aNp aNb aNa aNt aNbo aNsz aNnu aNl aNal aNlo aNw aNtr aNis aNbg aNow nts nta nop npr nac nkp nbd ntp nnw nsn nwn fi) [0, 1] rfl rfl 0 rfl rfl rfl (Nat.le_of_ble_eq_true rfl) (by decide) (Nat.le_refl _) (Nat.le_refl _) (rfl : [aN, aNf] = [aN, aNf]) rfl ?_
      rw [← hQ]
      refine x_iret dX9_many_26 rfl (Nat.le_of_ble_eq_true rfl) (Nat.le_of_ble_eq_true rfl) ?_
      exact ⟨rfl, rfl⟩

-- == nmany_o ==
set_option maxRecDepth 100000 in
set_option maxHeartbeats 4000000 in
theorem ct_nmany_o (l : Launch) (g : XG) (aN aNs aNk aNf aNr aNp aNb aNa aNt aNbo aNsz aNnu aNl aNal aNlo aNw aNtr aNis aNbg aNow nts nta nop npr nac : Nat) (nkp nbd ntp nnw nsn nwn : Int32) (fi : Nat → Nat) (gr wk lk sz br : Nat) (z : Int32) (ru ki ma bb hd : Nat → Nat) (ce : Nat → Int32) (q mn : Nat) (hq : q < gr ∧ gr ≤ 12) (hmn : mn ≤ 99999) : Ct l g 30 0 0 yX9_many cX9_many 4 (some .int) [.ref aN, .int (nI q), .int (nI mn)] [(aN, .inr (9, [.ref aNs, .ref aNk, .int nkp, .ref aNf, .ref aNr, .ref aNp, .ref aNb, .ref aNa, .ref aNt, .int (nI nts), .ref aNbo, .ref aNsz, .ref aNnu, .int (nI nta), .int (nI nop), .int nbd, .int ntp, .int (nI npr), .int nnw, .int nsn, .int nwn, .ref aNl, .ref aNal, .ref aNlo, .int (nI nac), .ref aNw, .ref aNtr, .ref aNis, .ref aNbg, .ref aNow])), (aNf, .inl (g.2.1 0, 8, .inl (nIf (fnF fi)))), (aNs, .inl (g.2.1 0, 919, .inl (msF gr wk z lk sz br ru ki ma bb ce hd)))] (xpi (nI (ma q)) [(aN, .inr (9, [.ref aNs, .ref aNk, .int nkp, .ref aNf, .ref aNr, .ref aNp, .ref aNb, .ref aNa, .ref aNt, .int (nI nts), .ref aNbo, .ref aNsz, .ref aNnu, .int (nI nta), .int (nI nop), .int nbd, .int ntp, .int (nI npr), .int 1, .int nsn, .int nwn, .ref aNl, .ref aNal, .ref aNlo, .int (nI nac), .ref aNw, .ref aNtr, .ref aNis, .ref aNbg, .ref aNow])), (aNf, .inl (g.2.1 0, 8, .inl (nIf (fnF fi)))), (aNs, .inl (g.2.1 0, 919, .inl (msF gr wk z lk sz br ru ki (updN ma q mn) bb ce hd)))]) := by
  refine Ct.ofX (lv := [some (.ref aN), some (.int (nI q)), some (.int (nI mn)), none]) (by decide) rfl (Nat.le_of_ble_eq_true rfl) (fun κ => ?_)
  generalize hQ : xQ κ g 0 0 _ = Q
  refine x_aload_n dX9_many_0 rfl ?_
  refine x_iload_n dX9_many_1 rfl ?_
  refine x_cVi0 dX9_many_2 ml_X9_105 mX9_isPeople (ct_nPeople_n κ.2.1 g aN aNs aNk aNf aNr aNp aNb aNa aNt aNbo aNsz aNnu aNl aNal aNlo aNw aNtr aNis aNbg aNow nts nta nop npr nac nkp nbd ntp nnw nsn nwn gr wk lk sz br z ru ki ma bb hd ce q (hq)) [0, 2] rfl rfl 0 rfl rfl rfl (Nat.le_of_ble_eq_true rfl) (by decide) (Nat.le_refl _) (Nat.le_refl _) ?_
  refine x_if_eq dX9_many_5 (fun c5 => ?_) (fun c5 => ?_)
  · exact absurd c5 (by decide)
  refine x_iload_n dX9_many_8 rfl ?_
  refine x_i2l dX9_many_9 ?_
  refine x_lconst 0 dX9_many_10 (by decide) ?_
  refine x_ldc2 dX9_many_11 kl_X9_102 ?_
  refine x_cSi dX9_many_14 ml_X9_98 mX9_isIn (ct_X9_isIn κ.2.1 g ((nI mn).toInt64) 0 99999) rfl (Nat.le_of_ble_eq_true rfl) (by decide) (Nat.le_refl _) (Nat.le_refl _) ?_
  refine x_rei (wI (nI mn) 0 99999) (inL_w (nI mn) 0 99999 (by first | rfl | decide) (by first | rfl | decide)) ?_
  refine x_rei 1 (show wI (nI mn) 0 99999 = 1 from wI_nat (n := mn) (a := 0) (b := 99999) ⟨by omega, by omega, by omega, by omega⟩) ?_
  refine x_if_ne dX9_many_17 (fun c17 => ?_) (fun c17 => ?_)
  rotate_left
  · exact absurd c17 (by decide)
  refine x_aload_n dX9_many_27 rfl ?_
  refine x_get dX9_many_28 0 0 inX9 fl_X9_7 rfl rfl (by decide) rfl ?_
  refine x_bipush 32 dX9_many_31 (by decide) ?_
  refine x_iload_n dX9_many_33 rfl ?_
  refine x_iadd dX9_many_34 ?_
  refine x_rei (nI (32 + q)) (nI_iadd 32 q) ?_
  refine x_iald dX9_many_35 2 (32 + q) rfl (rfl) (by omega) (by decide) ?_
  refine x_rei (nI (ma q)) (msg_ma (x := q) (by omega) (by omega)) ?_
  refine x_istore_n (lv' := [some (.ref aN), some (.int (nI q)), some (.int (nI mn)), some (.int (nI (ma q)))]) dX9_many_36 (xlt rfl) rfl ?_
  refine x_aload_n dX9_many_37 rfl ?_
  refine x_get dX9_many_38 0 0 inX9 fl_X9_7 rfl rfl (by decide) rfl ?_
  refine x_bipush 32 dX9_many_41 (by decide) ?_
  refine x_iload_n dX9_many_43 rfl ?_
  refine x_iadd dX9_many_44 ?_
  refine x_rei (nI (32 + q)) (nI_iadd 32 q) ?_
  refine x_iload_n dX9_many_45 rfl ?_
  refine x_iast (ws' := [(aN, .inr (9, [.ref aNs, .ref aNk, .int nkp, .ref aNf, .ref aNr, .ref aNp, .ref aNb, .ref aNa, .ref aNt, .int (nI nts), .ref aNbo, .ref aNsz, .ref aNnu, .int (nI nta), .int (nI nop), .int nbd, .int ntp, .int (nI npr), .int nnw, .int nsn, .int nwn, .ref aNl, .ref aNal, .ref aNlo, .int (nI nac), .ref aNw, .ref aNtr, .ref aNis, .ref aNbg, .ref aNow])), (aNf, .inl (g.2.1 0, 8, .inl (nIf (fnF fi)))), (aNs, .inl (g.2.1 0, 919, .inl (msF gr wk z lk sz br ru ki (updN ma q mn) bb ce hd)))]) dX9_many_46 2 (32 + q) rfl (rfl) (by omega) (by decide) (by rw [mss_ma (x := q) (by omega) (by omega)]; rfl) ?_
  refine x_aload_n dX9_many_47 rfl ?_
  refine x_iconst 1 dX9_many_48 (by decide) ?_
  refine x_put (ws' := [(aN, .inr (9, [.ref aNs, .ref aNk, .int nkp, .ref aNf, .ref aNr, .ref aNp, .ref aNb, .ref aNa, .ref aNt, .int (nI nts), .ref aNbo, .ref aNsz, .ref aNnu, .int (nI nta), .int (nI nop), .int nbd, .int ntp, .int (nI npr), .int 1, .int nsn, .int nwn, .ref aNl, .ref aNal, .ref aNlo, .int (nI nac), .ref aNw, .ref aNtr, .ref aNis, .ref aNbg, .ref aNow])), (aNf, .inl (g.2.1 0, 8, .inl (nIf (fnF fi)))), (aNs, .inl (g.2.1 0, 919, .inl (msF gr wk z lk sz br ru ki (updN ma q mn) bb ce hd)))]) dX9_many_49 0 18 inX9 tyX9_ok nmX9 fl_X9_44 rfl rfl (by decide) rfl (rfl) rfl (xlt rfl) rfl ?_
  refine x_iload_n dX9_many_52 rfl ?_
  rw [← hQ]
  refine x_iret dX9_many_53 rfl (Nat.le_of_ble_eq_true rfl) (Nat.le_of_ble_eq_true rfl) ?_
  exact ⟨rfl, rfl⟩

-- == nas_b ==
theorem dX9_as_0 : xd cX9_as 0 (.aload_n 0) 1 1 := ⟨by decide +kernel, rfl⟩
theorem dX9_as_1 : xd cX9_as 1 (.iload_n 1) 1 2 := ⟨by decide +kernel, rfl⟩
theorem dX9_as_2 : xd cX9_as 2 (.invokevirtual 105) 3 5 := ⟨by decide +kernel, rfl⟩
theorem dX9_as_5 : xj cX9_as 5 (.ifCond .eq) 8 20 := ⟨15, by decide +kernel, rfl, by decide⟩
theorem dX9_as_8 : xd cX9_as 8 (.iload_n 2) 1 9 := ⟨by decide +kernel, rfl⟩
theorem dX9_as_9 : xd cX9_as 9 .i2l 1 10 := ⟨by decide +kernel, rfl⟩
theorem dX9_as_10 : xd cX9_as 10 (.lconst 0) 1 11 := ⟨by decide +kernel, rfl⟩
theorem dX9_as_11 : xd cX9_as 11 (.ldc2_w 96) 3 14 := ⟨by decide +kernel, rfl⟩
theorem dX9_as_14 : xd cX9_as 14 (.invokestatic 98) 3 17 := ⟨by decide +kernel, rfl⟩
theorem dX9_as_17 : xj cX9_as 17 (.ifCond .ne) 20 27 := ⟨10, by decide +kernel, rfl, by decide⟩
theorem dX9_as_20 : xd cX9_as 20 (.aload_n 0) 1 21 := ⟨by decide +kernel, rfl⟩
theorem dX9_as_21 : xd cX9_as 21 (.ldc 87) 2 23 := ⟨by decide +kernel, rfl⟩
theorem dX9_as_23 : xd cX9_as 23 (.invokevirtual 88) 3 26 := ⟨by decide +kernel, rfl⟩
theorem dX9_as_26 : xd cX9_as 26 .ireturn 1 27 := ⟨by decide +kernel, rfl⟩
theorem dX9_as_27 : xd cX9_as 27 (.aload_n 0) 1 28 := ⟨by decide +kernel, rfl⟩
theorem dX9_as_28 : xd cX9_as 28 (.getfield 7) 3 31 := ⟨by decide +kernel, rfl⟩
theorem dX9_as_31 : xd cX9_as 31 (.bipush 20) 2 33 := ⟨by decide +kernel, rfl⟩
theorem dX9_as_33 : xd cX9_as 33 (.iload_n 1) 1 34 := ⟨by decide +kernel, rfl⟩
theorem dX9_as_34 : xd cX9_as 34 .iadd 1 35 := ⟨by decide +kernel, rfl⟩
theorem dX9_as_35 : xd cX9_as 35 .iaload 1 36 := ⟨by decide +kernel, rfl⟩
theorem dX9_as_36 : xd cX9_as 36 (.istore_n 3) 1 37 := ⟨by decide +kernel, rfl⟩
theorem dX9_as_37 : xd cX9_as 37 (.iload_n 3) 1 38 := ⟨by decide +kernel, rfl⟩
theorem dX9_as_38 : xj cX9_as 38 (.ifCond .lt) 41 54 := ⟨16, by decide +kernel, rfl, by decide⟩
theorem dX9_as_41 : xd cX9_as 41 (.iload_n 3) 1 42 := ⟨by decide +kernel, rfl⟩
theorem dX9_as_42 : xd cX9_as 42 (.iload_n 2) 1 43 := ⟨by decide +kernel, rfl⟩
theorem dX9_as_43 : xj cX9_as 43 (.if_icmp .eq) 46 54 := ⟨11, by decide +kernel, rfl, by decide⟩
theorem dX9_as_46 : xd cX9_as 46 (.iload_n 3) 1 47 := ⟨by decide +kernel, rfl⟩
theorem dX9_as_47 : xd cX9_as 47 (.invokestatic 108) 3 50 := ⟨by decide +kernel, rfl⟩
theorem dX9_as_50 : xd cX9_as 50 (.istore_n 3) 1 51 := ⟨by decide +kernel, rfl⟩
theorem dX9_as_51 : xj cX9_as 51 .goto 54 37 := ⟨(-14), by decide +kernel, rfl, by decide⟩
theorem dX9_as_54 : xd cX9_as 54 (.iload_n 3) 1 55 := ⟨by decide +kernel, rfl⟩
theorem dX9_as_55 : xj cX9_as 55 (.ifCond .ge) 58 67 := ⟨12, by decide +kernel, rfl, by decide⟩
theorem dX9_as_58 : xd cX9_as 58 (.aload_n 0) 1 59 := ⟨by decide +kernel, rfl⟩
theorem dX9_as_59 : xd cX9_as 59 (.ldc 111) 2 61 := ⟨by decide +kernel, rfl⟩
theorem dX9_as_61 : xd cX9_as 61 (.invokevirtual 88) 3 64 := ⟨by decide +kernel, rfl⟩
theorem dX9_as_64 : xj cX9_as 64 .goto 67 76 := ⟨12, by decide +kernel, rfl, by decide⟩
theorem dX9_as_67 : xd cX9_as 67 (.aload_n 0) 1 68 := ⟨by decide +kernel, rfl⟩
theorem dX9_as_68 : xd cX9_as 68 (.getfield 7) 3 71 := ⟨by decide +kernel, rfl⟩
theorem dX9_as_71 : xd cX9_as 71 (.bipush 32) 2 73 := ⟨by decide +kernel, rfl⟩
theorem dX9_as_73 : xd cX9_as 73 (.iload_n 1) 1 74 := ⟨by decide +kernel, rfl⟩
theorem dX9_as_74 : xd cX9_as 74 .iadd 1 75 := ⟨by decide +kernel, rfl⟩
theorem dX9_as_75 : xd cX9_as 75 .iaload 1 76 := ⟨by decide +kernel, rfl⟩
theorem dX9_as_76 : xd cX9_as 76 .ireturn 1 77 := ⟨by decide +kernel, rfl⟩

set_option maxRecDepth 100000 in
set_option maxHeartbeats 4000000 in
theorem ct_nas_b (l : Launch) (g : XG) (aN aNs aNk aNf aNr aNp aNb aNa aNt aNbo aNsz aNnu aNl aNal aNlo aNw aNtr aNis aNbg aNow nts nta nop npr nac : Nat) (nkp nbd ntp nnw nsn nwn : Int32) (fi : Nat → Nat) (pp kd : Int32) (gr wk lk sz br : Nat) (z : Int32) (ru ki ma bb hd : Nat → Nat) (ce : Nat → Int32) (hgr : gr ≤ 12) (hb : wI pp 0 (nI gr - 1) = 0 ∨ wI kd 0 7 = 0) : Ct l g 30 0 0 yX9_as cX9_as 4 (some .int) [.ref aN, .int pp, .int kd] [(aN, .inr (9, [.ref aNs, .ref aNk, .int nkp, .ref aNf, .ref aNr, .ref aNp, .ref aNb, .ref aNa, .ref aNt, .int (nI nts), .ref aNbo, .ref aNsz, .ref aNnu, .int (nI nta), .int (nI nop), .int nbd, .int ntp, .int (nI npr), .int nnw, .int nsn, .int nwn, .ref aNl, .ref aNal, .ref aNlo, .int (nI nac), .ref aNw, .ref aNtr, .ref aNis, .ref aNbg, .ref aNow])), (aNf, .inl (g.2.1 0, 8, .inl (nIf (fnF fi)))), (aNs, .inl (g.2.1 0, 919, .inl (msF gr wk z lk sz br ru ki ma bb ce hd)))] (xpi (fndI 0) [(aN, .inr (9, [.ref aNs, .ref aNk, .int nkp, .ref aNf, .ref aNr, .ref aNp, .ref aNb, .ref aNa, .ref aNt, .int (nI nts), .ref aNbo, .ref aNsz, .ref aNnu, .int (nI nta), .int (nI nop), .int nbd, .int ntp, .int (nI npr), .int nnw, .int nsn, .int nwn, .ref aNl, .ref aNal, .ref aNlo, .int (nI nac), .ref aNw, .ref aNtr, .ref aNis, .ref aNbg, .ref aNow])), (aNf, .inl (g.2.1 0, 8, .inl (nIf (fnF (updN fi 0 (fi 0 + 1)))))), (aNs, .inl (g.2.1 0, 919, .inl (msF gr wk z lk sz br ru ki ma bb ce hd)))]) := by
  refine Ct.ofX (lv := [some (.ref aN), some (.int pp), some (.int kd), none]) (by decide) rfl (Nat.le_of_ble_eq_true rfl) (fun κ => ?_)
  generalize hQ : xQ κ g 0 0 _ = Q
  refine x_aload_n dX9_as_0 rfl ?_
  refine x_iload_n dX9_as_1 rfl ?_
  refine x_cVi0 dX9_as_2 ml_X9_105 mX9_isPeople (ct_X9_isPeople κ.2.1 g aN aNs aNk aNf aNr aNp aNb aNa aNt aNbo aNsz aNnu aNl aNal aNlo aNw aNtr aNis aNbg aNow nts nta nop npr nac nkp nbd ntp nnw nsn nwn gr wk lk sz br z ru ki ma bb hd ce pp (hgr)) [0, 2] rfl rfl 0 rfl rfl rfl (Nat.le_of_ble_eq_true rfl) (by decide) (Nat.le_refl _) (Nat.le_refl _) ?_
  refine x_if_eq dX9_as_5 (fun c5 => ?_) (fun c5 => ?_)
  · have c5 : (wI pp 0 (nI gr - 1)) = 0 := c5
    refine x_aload_n dX9_as_20 rfl ?_
    refine x_ldc dX9_as_21 k_X9_87 ?_
    refine x_cVi (ws' := [(aN, .inr (9, [.ref aNs, .ref aNk, .int nkp, .ref aNf, .ref aNr, .ref aNp, .ref aNb, .ref aNa, .ref aNt, .int (nI nts), .ref aNbo, .ref aNsz, .ref aNnu, .int (nI nta), .int (nI nop), .int nbd, .int ntp, .int (nI npr), .int nnw, .int nsn, .int nwn, .ref aNl, .ref aNal, .ref aNlo, .int (nI nac), .ref aNw, .ref aNtr, .ref aNis, .ref aNbg, .ref aNow])), (aNf, .inl (g.2.1 0, 8, .inl (nIf (fnF (updN fi 0 (fi 0 + 1)))))), (aNs, .inl (g.2.1 0, 919, .inl (msF gr wk z lk sz br ru ki ma bb ce hd)))]) dX9_as_23 ml_X9_88 mX9_finds (ct_finds_0 κ.2.1 g aN aNs aNk aNf aNr aNp aNb aNa aNt aNbo aNsz aNnu aNl aNal aNlo aNw aNtr aNis aNbg aNow nts nta nop npr nac nkp nbd ntp nnw nsn nwn fi) [0, 1] rfl rfl 0 rfl rfl rfl (Nat.le_of_ble_eq_true rfl) (by decide) (Nat.le_refl _) (Nat.le_refl _) (rfl : [aN, aNf] = [aN, aNf]) rfl ?_
    rw [← hQ]
    refine x_iret dX9_as_26 rfl (Nat.le_of_ble_eq_true rfl) (Nat.le_of_ble_eq_true rfl) ?_
    exact ⟨rfl, rfl⟩
  · have c5 : ¬ ((wI pp 0 (nI gr - 1)) = 0) := c5
    refine x_iload_n dX9_as_8 rfl ?_
    refine x_i2l dX9_as_9 ?_
    refine x_lconst 0 dX9_as_10 (by decide) ?_
    refine x_ldc2 dX9_as_11 kl_X9_96 ?_
    refine x_cSi dX9_as_14 ml_X9_98 mX9_isIn (ct_X9_isIn κ.2.1 g kd.toInt64 0 7) rfl (Nat.le_of_ble_eq_true rfl) (by decide) (Nat.le_refl _) (Nat.le_refl _) ?_
    refine x_rei (wI kd 0 7) (inL_w kd 0 7 (by first | rfl | decide) (by first | rfl | decide)) ?_
    refine x_if_ne dX9_as_17 (fun c17 => ?_) (fun c17 => ?_)
    · have c17 : ¬ ((wI kd 0 7) = 0) := c17
      exact absurd (hb.resolve_left c5) c17
    · have c17 : (wI kd 0 7) = 0 := c17
      refine x_aload_n dX9_as_20 rfl ?_
      refine x_ldc dX9_as_21 k_X9_87 ?_
      refine x_cVi (ws' := [(aN, .inr (9, [.ref aNs, .ref aNk, .int nkp, .ref aNf, .ref aNr, .ref aNp, .ref aNb, .ref aNa, .ref aNt, .int (nI nts), .ref aNbo, .ref aNsz, .ref aNnu, .int (nI nta), .int (nI nop), .int nbd, .int ntp, .int (nI npr), .int nnw, .int nsn, .int nwn, .ref aNl, .ref aNal, .ref aNlo, .int (nI nac), .ref aNw, .ref aNtr, .ref aNis, .ref aNbg, .ref aNow])), (aNf, .inl (g.2.1 0, 8, .inl (nIf (fnF (updN fi 0 (fi 0 + 1)))))), (aNs, .inl (g.2.1 0, 919, .inl (msF gr wk z lk sz br ru ki ma bb ce hd)))]) dX9_as_23 ml_X9_88 mX9_finds (ct_finds_0 κ.2.1 g aN aNs aNk aNf aNr aNp aNb aNa aNt aNbo aNsz aNnu aNl aNal aNlo aNw aNtr aNis aNbg aNow nts nta nop npr nac nkp nbd ntp nnw nsn nwn fi) [0, 1] rfl rfl 0 rfl rfl rfl (Nat.le_of_ble_eq_true rfl) (by decide) (Nat.le_refl _) (Nat.le_refl _) (rfl : [aN, aNf] = [aN, aNf]) rfl ?_
      rw [← hQ]
      refine x_iret dX9_as_26 rfl (Nat.le_of_ble_eq_true rfl) (Nat.le_of_ble_eq_true rfl) ?_
      exact ⟨rfl, rfl⟩

-- == nas_k0 ==
set_option maxRecDepth 100000 in
set_option maxHeartbeats 4000000 in
theorem ct_nas_k0 (l : Launch) (g : XG) (aN aNs aNk aNf aNr aNp aNb aNa aNt aNbo aNsz aNnu aNl aNal aNlo aNw aNtr aNis aNbg aNow nts nta nop npr nac : Nat) (nkp nbd ntp nnw nsn nwn : Int32) (fi : Nat → Nat) (gr wk lk sz br : Nat) (z : Int32) (ru ki ma bb hd : Nat → Nat) (ce : Nat → Int32) (q kd : Nat) (hq : q < gr ∧ gr ≤ 12) (hkd : kd ≤ 7) (hki : ki q = 0) (hu : udI 0 (nI kd) = 0) : Ct l g 30 0 0 yX9_as cX9_as 4 (some .int) [.ref aN, .int (nI q), .int (nI kd)] [(aN, .inr (9, [.ref aNs, .ref aNk, .int nkp, .ref aNf, .ref aNr, .ref aNp, .ref aNb, .ref aNa, .ref aNt, .int (nI nts), .ref aNbo, .ref aNsz, .ref aNnu, .int (nI nta), .int (nI nop), .int nbd, .int ntp, .int (nI npr), .int nnw, .int nsn, .int nwn, .ref aNl, .ref aNal, .ref aNlo, .int (nI nac), .ref aNw, .ref aNtr, .ref aNis, .ref aNbg, .ref aNow])), (aNf, .inl (g.2.1 0, 8, .inl (nIf (fnF fi)))), (aNs, .inl (g.2.1 0, 919, .inl (msF gr wk z lk sz br ru ki ma bb ce hd)))] (xpi (fndI 2) [(aN, .inr (9, [.ref aNs, .ref aNk, .int nkp, .ref aNf, .ref aNr, .ref aNp, .ref aNb, .ref aNa, .ref aNt, .int (nI nts), .ref aNbo, .ref aNsz, .ref aNnu, .int (nI nta), .int (nI nop), .int nbd, .int ntp, .int (nI npr), .int nnw, .int nsn, .int nwn, .ref aNl, .ref aNal, .ref aNlo, .int (nI nac), .ref aNw, .ref aNtr, .ref aNis, .ref aNbg, .ref aNow])), (aNf, .inl (g.2.1 0, 8, .inl (nIf (fnF (updN fi 2 (fi 2 + 1)))))), (aNs, .inl (g.2.1 0, 919, .inl (msF gr wk z lk sz br ru ki ma bb ce hd)))]) := by
  refine Ct.ofX (lv := [some (.ref aN), some (.int (nI q)), some (.int (nI kd)), none]) (by decide) rfl (Nat.le_of_ble_eq_true rfl) (fun κ => ?_)
  generalize hQ : xQ κ g 0 0 _ = Q
  refine x_aload_n dX9_as_0 rfl ?_
  refine x_iload_n dX9_as_1 rfl ?_
  refine x_cVi0 dX9_as_2 ml_X9_105 mX9_isPeople (ct_nPeople_n κ.2.1 g aN aNs aNk aNf aNr aNp aNb aNa aNt aNbo aNsz aNnu aNl aNal aNlo aNw aNtr aNis aNbg aNow nts nta nop npr nac nkp nbd ntp nnw nsn nwn gr wk lk sz br z ru ki ma bb hd ce q (hq)) [0, 2] rfl rfl 0 rfl rfl rfl (Nat.le_of_ble_eq_true rfl) (by decide) (Nat.le_refl _) (Nat.le_refl _) ?_
  refine x_if_eq dX9_as_5 (fun c5 => ?_) (fun c5 => ?_)
  · exact absurd c5 (by decide)
  refine x_iload_n dX9_as_8 rfl ?_
  refine x_i2l dX9_as_9 ?_
  refine x_lconst 0 dX9_as_10 (by decide) ?_
  refine x_ldc2 dX9_as_11 kl_X9_96 ?_
  refine x_cSi dX9_as_14 ml_X9_98 mX9_isIn (ct_X9_isIn κ.2.1 g ((nI kd).toInt64) 0 7) rfl (Nat.le_of_ble_eq_true rfl) (by decide) (Nat.le_refl _) (Nat.le_refl _) ?_
  refine x_rei (wI (nI kd) 0 7) (inL_w (nI kd) 0 7 (by first | rfl | decide) (by first | rfl | decide)) ?_
  refine x_rei 1 (show wI (nI kd) 0 7 = 1 from wI_nat (n := kd) (a := 0) (b := 7) ⟨by omega, by omega, by omega, by omega⟩) ?_
  refine x_if_ne dX9_as_17 (fun c17 => ?_) (fun c17 => ?_)
  rotate_left
  · exact absurd c17 (by decide)
  refine x_aload_n dX9_as_27 rfl ?_
  refine x_get dX9_as_28 0 0 inX9 fl_X9_7 rfl rfl (by decide) rfl ?_
  refine x_bipush 20 dX9_as_31 (by decide) ?_
  refine x_iload_n dX9_as_33 rfl ?_
  refine x_iadd dX9_as_34 ?_
  refine x_rei (nI (20 + q)) (nI_iadd 20 q) ?_
  refine x_iald dX9_as_35 2 (20 + q) rfl (rfl) (by omega) (by decide) ?_
  refine x_rei (nI (ki q)) (msg_ki (x := q) (by omega) (by omega)) ?_
  refine x_rei (0) (congrArg nI hki) ?_
  refine x_istore_n (lv' := [some (.ref aN), some (.int (nI q)), some (.int (nI kd)), some (.int 0)]) dX9_as_36 (xlt rfl) rfl ?_
  refine x_iload_n dX9_as_37 rfl ?_
  refine x_if_lt dX9_as_38 (fun c38 => ?_) (fun c38 => ?_)
  · exact absurd c38 (by decide)
  refine x_iload_n dX9_as_41 rfl ?_
  refine x_iload_n dX9_as_42 rfl ?_
  refine x_icmp_eq dX9_as_43 (fun c43 => ?_) (fun c43 => ?_)
  · have c43 : 0 = (nI kd) := c43
    exact absurd hu (by clear hu; rw [← c43]; decide)
  · have c43 : ¬ (0 = (nI kd)) := c43
    refine x_iload_n dX9_as_46 rfl ?_
    refine x_cSi dX9_as_47 ml_X9_108 mX9_above (ct_above_0 κ.2.1 g ) rfl (Nat.le_of_ble_eq_true rfl) (by decide) (Nat.le_refl _) (Nat.le_refl _) ?_
    refine x_istore_n (lv' := [some (.ref aN), some (.int (nI q)), some (.int (nI kd)), some (.int ((-1)))]) dX9_as_50 (xlt rfl) rfl ?_
    refine x_goto dX9_as_51 ?_
    refine x_iload_n dX9_as_37 rfl ?_
    refine x_if_lt dX9_as_38 (fun c38 => ?_) (fun c38 => ?_)
    rotate_left
    · exact absurd c38 (by decide)
    refine x_iload_n dX9_as_54 rfl ?_
    refine x_if_ge dX9_as_55 (fun c55 => ?_) (fun c55 => ?_)
    · exact absurd c55 (by decide)
    refine x_aload_n dX9_as_58 rfl ?_
    refine x_ldc dX9_as_59 k_X9_111 ?_
    refine x_cVi (ws' := [(aN, .inr (9, [.ref aNs, .ref aNk, .int nkp, .ref aNf, .ref aNr, .ref aNp, .ref aNb, .ref aNa, .ref aNt, .int (nI nts), .ref aNbo, .ref aNsz, .ref aNnu, .int (nI nta), .int (nI nop), .int nbd, .int ntp, .int (nI npr), .int nnw, .int nsn, .int nwn, .ref aNl, .ref aNal, .ref aNlo, .int (nI nac), .ref aNw, .ref aNtr, .ref aNis, .ref aNbg, .ref aNow])), (aNf, .inl (g.2.1 0, 8, .inl (nIf (fnF (updN fi 2 (fi 2 + 1)))))), (aNs, .inl (g.2.1 0, 919, .inl (msF gr wk z lk sz br ru ki ma bb ce hd)))]) dX9_as_61 ml_X9_88 mX9_finds (ct_finds_2 κ.2.1 g aN aNs aNk aNf aNr aNp aNb aNa aNt aNbo aNsz aNnu aNl aNal aNlo aNw aNtr aNis aNbg aNow nts nta nop npr nac nkp nbd ntp nnw nsn nwn fi) [0, 1] rfl rfl 0 rfl rfl rfl (Nat.le_of_ble_eq_true rfl) (by decide) (Nat.le_refl _) (Nat.le_refl _) (rfl : [aN, aNf] = [aN, aNf]) rfl ?_
    refine x_goto dX9_as_64 ?_
    rw [← hQ]
    refine x_iret dX9_as_76 rfl (Nat.le_of_ble_eq_true rfl) (Nat.le_of_ble_eq_true rfl) ?_
    exact ⟨rfl, rfl⟩

-- == nas_o0 ==
set_option maxRecDepth 100000 in
set_option maxHeartbeats 4000000 in
theorem ct_nas_o0 (l : Launch) (g : XG) (aN aNs aNk aNf aNr aNp aNb aNa aNt aNbo aNsz aNnu aNl aNal aNlo aNw aNtr aNis aNbg aNow nts nta nop npr nac : Nat) (nkp nbd ntp nnw nsn nwn : Int32) (fi : Nat → Nat) (gr wk lk sz br : Nat) (z : Int32) (ru ki ma bb hd : Nat → Nat) (ce : Nat → Int32) (q kd : Nat) (hq : q < gr ∧ gr ≤ 12) (hkd : kd ≤ 7) (hki : ki q = 0) (hu : udI 0 (nI kd) = 1) : Ct l g 30 0 0 yX9_as cX9_as 4 (some .int) [.ref aN, .int (nI q), .int (nI kd)] [(aN, .inr (9, [.ref aNs, .ref aNk, .int nkp, .ref aNf, .ref aNr, .ref aNp, .ref aNb, .ref aNa, .ref aNt, .int (nI nts), .ref aNbo, .ref aNsz, .ref aNnu, .int (nI nta), .int (nI nop), .int nbd, .int ntp, .int (nI npr), .int nnw, .int nsn, .int nwn, .ref aNl, .ref aNal, .ref aNlo, .int (nI nac), .ref aNw, .ref aNtr, .ref aNis, .ref aNbg, .ref aNow])), (aNf, .inl (g.2.1 0, 8, .inl (nIf (fnF fi)))), (aNs, .inl (g.2.1 0, 919, .inl (msF gr wk z lk sz br ru ki ma bb ce hd)))] (xpi (nI (ma q)) [(aN, .inr (9, [.ref aNs, .ref aNk, .int nkp, .ref aNf, .ref aNr, .ref aNp, .ref aNb, .ref aNa, .ref aNt, .int (nI nts), .ref aNbo, .ref aNsz, .ref aNnu, .int (nI nta), .int (nI nop), .int nbd, .int ntp, .int (nI npr), .int nnw, .int nsn, .int nwn, .ref aNl, .ref aNal, .ref aNlo, .int (nI nac), .ref aNw, .ref aNtr, .ref aNis, .ref aNbg, .ref aNow])), (aNf, .inl (g.2.1 0, 8, .inl (nIf (fnF fi)))), (aNs, .inl (g.2.1 0, 919, .inl (msF gr wk z lk sz br ru ki ma bb ce hd)))]) := by
  refine Ct.ofX (lv := [some (.ref aN), some (.int (nI q)), some (.int (nI kd)), none]) (by decide) rfl (Nat.le_of_ble_eq_true rfl) (fun κ => ?_)
  generalize hQ : xQ κ g 0 0 _ = Q
  refine x_aload_n dX9_as_0 rfl ?_
  refine x_iload_n dX9_as_1 rfl ?_
  refine x_cVi0 dX9_as_2 ml_X9_105 mX9_isPeople (ct_nPeople_n κ.2.1 g aN aNs aNk aNf aNr aNp aNb aNa aNt aNbo aNsz aNnu aNl aNal aNlo aNw aNtr aNis aNbg aNow nts nta nop npr nac nkp nbd ntp nnw nsn nwn gr wk lk sz br z ru ki ma bb hd ce q (hq)) [0, 2] rfl rfl 0 rfl rfl rfl (Nat.le_of_ble_eq_true rfl) (by decide) (Nat.le_refl _) (Nat.le_refl _) ?_
  refine x_if_eq dX9_as_5 (fun c5 => ?_) (fun c5 => ?_)
  · exact absurd c5 (by decide)
  refine x_iload_n dX9_as_8 rfl ?_
  refine x_i2l dX9_as_9 ?_
  refine x_lconst 0 dX9_as_10 (by decide) ?_
  refine x_ldc2 dX9_as_11 kl_X9_96 ?_
  refine x_cSi dX9_as_14 ml_X9_98 mX9_isIn (ct_X9_isIn κ.2.1 g ((nI kd).toInt64) 0 7) rfl (Nat.le_of_ble_eq_true rfl) (by decide) (Nat.le_refl _) (Nat.le_refl _) ?_
  refine x_rei (wI (nI kd) 0 7) (inL_w (nI kd) 0 7 (by first | rfl | decide) (by first | rfl | decide)) ?_
  refine x_rei 1 (show wI (nI kd) 0 7 = 1 from wI_nat (n := kd) (a := 0) (b := 7) ⟨by omega, by omega, by omega, by omega⟩) ?_
  refine x_if_ne dX9_as_17 (fun c17 => ?_) (fun c17 => ?_)
  rotate_left
  · exact absurd c17 (by decide)
  refine x_aload_n dX9_as_27 rfl ?_
  refine x_get dX9_as_28 0 0 inX9 fl_X9_7 rfl rfl (by decide) rfl ?_
  refine x_bipush 20 dX9_as_31 (by decide) ?_
  refine x_iload_n dX9_as_33 rfl ?_
  refine x_iadd dX9_as_34 ?_
  refine x_rei (nI (20 + q)) (nI_iadd 20 q) ?_
  refine x_iald dX9_as_35 2 (20 + q) rfl (rfl) (by omega) (by decide) ?_
  refine x_rei (nI (ki q)) (msg_ki (x := q) (by omega) (by omega)) ?_
  refine x_rei (0) (congrArg nI hki) ?_
  refine x_istore_n (lv' := [some (.ref aN), some (.int (nI q)), some (.int (nI kd)), some (.int 0)]) dX9_as_36 (xlt rfl) rfl ?_
  refine x_iload_n dX9_as_37 rfl ?_
  refine x_if_lt dX9_as_38 (fun c38 => ?_) (fun c38 => ?_)
  · exact absurd c38 (by decide)
  refine x_iload_n dX9_as_41 rfl ?_
  refine x_iload_n dX9_as_42 rfl ?_
  refine x_icmp_eq dX9_as_43 (fun c43 => ?_) (fun c43 => ?_)
  · have c43 : 0 = (nI kd) := c43
    refine x_iload_n dX9_as_54 rfl ?_
    refine x_if_ge dX9_as_55 (fun c55 => ?_) (fun c55 => ?_)
    rotate_left
    · exact absurd c55 (by decide)
    refine x_aload_n dX9_as_67 rfl ?_
    refine x_get dX9_as_68 0 0 inX9 fl_X9_7 rfl rfl (by decide) rfl ?_
    refine x_bipush 32 dX9_as_71 (by decide) ?_
    refine x_iload_n dX9_as_73 rfl ?_
    refine x_iadd dX9_as_74 ?_
    refine x_rei (nI (32 + q)) (nI_iadd 32 q) ?_
    refine x_iald dX9_as_75 2 (32 + q) rfl (rfl) (by omega) (by decide) ?_
    refine x_rei (nI (ma q)) (msg_ma (x := q) (by omega) (by omega)) ?_
    rw [← hQ]
    refine x_iret dX9_as_76 rfl (Nat.le_of_ble_eq_true rfl) (Nat.le_of_ble_eq_true rfl) ?_
    exact ⟨rfl, rfl⟩
  · have c43 : ¬ (0 = (nI kd)) := c43
    refine x_iload_n dX9_as_46 rfl ?_
    refine x_cSi dX9_as_47 ml_X9_108 mX9_above (ct_above_0 κ.2.1 g ) rfl (Nat.le_of_ble_eq_true rfl) (by decide) (Nat.le_refl _) (Nat.le_refl _) ?_
    refine x_istore_n (lv' := [some (.ref aN), some (.int (nI q)), some (.int (nI kd)), some (.int ((-1)))]) dX9_as_50 (xlt rfl) rfl ?_
    refine x_goto dX9_as_51 ?_
    refine x_iload_n dX9_as_37 rfl ?_
    refine x_if_lt dX9_as_38 (fun c38 => ?_) (fun c38 => ?_)
    rotate_left
    · exact absurd c38 (by decide)
    refine x_iload_n dX9_as_54 rfl ?_
    refine x_if_ge dX9_as_55 (fun c55 => ?_) (fun c55 => ?_)
    · exact absurd c55 (by decide)
    exact absurd hu (by clear hu; simp [udI, *])

-- == nas_k1 ==
set_option maxRecDepth 100000 in
set_option maxHeartbeats 4000000 in
theorem ct_nas_k1 (l : Launch) (g : XG) (aN aNs aNk aNf aNr aNp aNb aNa aNt aNbo aNsz aNnu aNl aNal aNlo aNw aNtr aNis aNbg aNow nts nta nop npr nac : Nat) (nkp nbd ntp nnw nsn nwn : Int32) (fi : Nat → Nat) (gr wk lk sz br : Nat) (z : Int32) (ru ki ma bb hd : Nat → Nat) (ce : Nat → Int32) (q kd : Nat) (hq : q < gr ∧ gr ≤ 12) (hkd : kd ≤ 7) (hki : ki q = 1) (hu : udI 1 (nI kd) = 0) : Ct l g 30 0 0 yX9_as cX9_as 4 (some .int) [.ref aN, .int (nI q), .int (nI kd)] [(aN, .inr (9, [.ref aNs, .ref aNk, .int nkp, .ref aNf, .ref aNr, .ref aNp, .ref aNb, .ref aNa, .ref aNt, .int (nI nts), .ref aNbo, .ref aNsz, .ref aNnu, .int (nI nta), .int (nI nop), .int nbd, .int ntp, .int (nI npr), .int nnw, .int nsn, .int nwn, .ref aNl, .ref aNal, .ref aNlo, .int (nI nac), .ref aNw, .ref aNtr, .ref aNis, .ref aNbg, .ref aNow])), (aNf, .inl (g.2.1 0, 8, .inl (nIf (fnF fi)))), (aNs, .inl (g.2.1 0, 919, .inl (msF gr wk z lk sz br ru ki ma bb ce hd)))] (xpi (fndI 2) [(aN, .inr (9, [.ref aNs, .ref aNk, .int nkp, .ref aNf, .ref aNr, .ref aNp, .ref aNb, .ref aNa, .ref aNt, .int (nI nts), .ref aNbo, .ref aNsz, .ref aNnu, .int (nI nta), .int (nI nop), .int nbd, .int ntp, .int (nI npr), .int nnw, .int nsn, .int nwn, .ref aNl, .ref aNal, .ref aNlo, .int (nI nac), .ref aNw, .ref aNtr, .ref aNis, .ref aNbg, .ref aNow])), (aNf, .inl (g.2.1 0, 8, .inl (nIf (fnF (updN fi 2 (fi 2 + 1)))))), (aNs, .inl (g.2.1 0, 919, .inl (msF gr wk z lk sz br ru ki ma bb ce hd)))]) := by
  refine Ct.ofX (lv := [some (.ref aN), some (.int (nI q)), some (.int (nI kd)), none]) (by decide) rfl (Nat.le_of_ble_eq_true rfl) (fun κ => ?_)
  generalize hQ : xQ κ g 0 0 _ = Q
  refine x_aload_n dX9_as_0 rfl ?_
  refine x_iload_n dX9_as_1 rfl ?_
  refine x_cVi0 dX9_as_2 ml_X9_105 mX9_isPeople (ct_nPeople_n κ.2.1 g aN aNs aNk aNf aNr aNp aNb aNa aNt aNbo aNsz aNnu aNl aNal aNlo aNw aNtr aNis aNbg aNow nts nta nop npr nac nkp nbd ntp nnw nsn nwn gr wk lk sz br z ru ki ma bb hd ce q (hq)) [0, 2] rfl rfl 0 rfl rfl rfl (Nat.le_of_ble_eq_true rfl) (by decide) (Nat.le_refl _) (Nat.le_refl _) ?_
  refine x_if_eq dX9_as_5 (fun c5 => ?_) (fun c5 => ?_)
  · exact absurd c5 (by decide)
  refine x_iload_n dX9_as_8 rfl ?_
  refine x_i2l dX9_as_9 ?_
  refine x_lconst 0 dX9_as_10 (by decide) ?_
  refine x_ldc2 dX9_as_11 kl_X9_96 ?_
  refine x_cSi dX9_as_14 ml_X9_98 mX9_isIn (ct_X9_isIn κ.2.1 g ((nI kd).toInt64) 0 7) rfl (Nat.le_of_ble_eq_true rfl) (by decide) (Nat.le_refl _) (Nat.le_refl _) ?_
  refine x_rei (wI (nI kd) 0 7) (inL_w (nI kd) 0 7 (by first | rfl | decide) (by first | rfl | decide)) ?_
  refine x_rei 1 (show wI (nI kd) 0 7 = 1 from wI_nat (n := kd) (a := 0) (b := 7) ⟨by omega, by omega, by omega, by omega⟩) ?_
  refine x_if_ne dX9_as_17 (fun c17 => ?_) (fun c17 => ?_)
  rotate_left
  · exact absurd c17 (by decide)
  refine x_aload_n dX9_as_27 rfl ?_
  refine x_get dX9_as_28 0 0 inX9 fl_X9_7 rfl rfl (by decide) rfl ?_
  refine x_bipush 20 dX9_as_31 (by decide) ?_
  refine x_iload_n dX9_as_33 rfl ?_
  refine x_iadd dX9_as_34 ?_
  refine x_rei (nI (20 + q)) (nI_iadd 20 q) ?_
  refine x_iald dX9_as_35 2 (20 + q) rfl (rfl) (by omega) (by decide) ?_
  refine x_rei (nI (ki q)) (msg_ki (x := q) (by omega) (by omega)) ?_
  refine x_rei (1) (congrArg nI hki) ?_
  refine x_istore_n (lv' := [some (.ref aN), some (.int (nI q)), some (.int (nI kd)), some (.int 1)]) dX9_as_36 (xlt rfl) rfl ?_
  refine x_iload_n dX9_as_37 rfl ?_
  refine x_if_lt dX9_as_38 (fun c38 => ?_) (fun c38 => ?_)
  · exact absurd c38 (by decide)
  refine x_iload_n dX9_as_41 rfl ?_
  refine x_iload_n dX9_as_42 rfl ?_
  refine x_icmp_eq dX9_as_43 (fun c43 => ?_) (fun c43 => ?_)
  · have c43 : 1 = (nI kd) := c43
    exact absurd hu (by clear hu; rw [← c43]; decide)
  · have c43 : ¬ (1 = (nI kd)) := c43
    refine x_iload_n dX9_as_46 rfl ?_
    refine x_cSi dX9_as_47 ml_X9_108 mX9_above (ct_above_1 κ.2.1 g ) rfl (Nat.le_of_ble_eq_true rfl) (by decide) (Nat.le_refl _) (Nat.le_refl _) ?_
    refine x_istore_n (lv' := [some (.ref aN), some (.int (nI q)), some (.int (nI kd)), some (.int 0)]) dX9_as_50 (xlt rfl) rfl ?_
    refine x_goto dX9_as_51 ?_
    refine x_iload_n dX9_as_37 rfl ?_
    refine x_if_lt dX9_as_38 (fun c38 => ?_) (fun c38 => ?_)
    · exact absurd c38 (by decide)
    refine x_iload_n dX9_as_41 rfl ?_
    refine x_iload_n dX9_as_42 rfl ?_
    refine x_icmp_eq dX9_as_43 (fun c43 => ?_) (fun c43 => ?_)
    · have c43 : 0 = (nI kd) := c43
      exact absurd hu (by clear hu; rw [← c43]; decide)
    · have c43 : ¬ (0 = (nI kd)) := c43
      refine x_iload_n dX9_as_46 rfl ?_
      refine x_cSi dX9_as_47 ml_X9_108 mX9_above (ct_above_0 κ.2.1 g ) rfl (Nat.le_of_ble_eq_true rfl) (by decide) (Nat.le_refl _) (Nat.le_refl _) ?_
      refine x_istore_n (lv' := [some (.ref aN), some (.int (nI q)), some (.int (nI kd)), some (.int ((-1)))]) dX9_as_50 (xlt rfl) rfl ?_
      refine x_goto dX9_as_51 ?_
      refine x_iload_n dX9_as_37 rfl ?_
      refine x_if_lt dX9_as_38 (fun c38 => ?_) (fun c38 => ?_)
      rotate_left
      · exact absurd c38 (by decide)
      refine x_iload_n dX9_as_54 rfl ?_
      refine x_if_ge dX9_as_55 (fun c55 => ?_) (fun c55 => ?_)
      · exact absurd c55 (by decide)
      refine x_aload_n dX9_as_58 rfl ?_
      refine x_ldc dX9_as_59 k_X9_111 ?_
      refine x_cVi (ws' := [(aN, .inr (9, [.ref aNs, .ref aNk, .int nkp, .ref aNf, .ref aNr, .ref aNp, .ref aNb, .ref aNa, .ref aNt, .int (nI nts), .ref aNbo, .ref aNsz, .ref aNnu, .int (nI nta), .int (nI nop), .int nbd, .int ntp, .int (nI npr), .int nnw, .int nsn, .int nwn, .ref aNl, .ref aNal, .ref aNlo, .int (nI nac), .ref aNw, .ref aNtr, .ref aNis, .ref aNbg, .ref aNow])), (aNf, .inl (g.2.1 0, 8, .inl (nIf (fnF (updN fi 2 (fi 2 + 1)))))), (aNs, .inl (g.2.1 0, 919, .inl (msF gr wk z lk sz br ru ki ma bb ce hd)))]) dX9_as_61 ml_X9_88 mX9_finds (ct_finds_2 κ.2.1 g aN aNs aNk aNf aNr aNp aNb aNa aNt aNbo aNsz aNnu aNl aNal aNlo aNw aNtr aNis aNbg aNow nts nta nop npr nac nkp nbd ntp nnw nsn nwn fi) [0, 1] rfl rfl 0 rfl rfl rfl (Nat.le_of_ble_eq_true rfl) (by decide) (Nat.le_refl _) (Nat.le_refl _) (rfl : [aN, aNf] = [aN, aNf]) rfl ?_
      refine x_goto dX9_as_64 ?_
      rw [← hQ]
      refine x_iret dX9_as_76 rfl (Nat.le_of_ble_eq_true rfl) (Nat.le_of_ble_eq_true rfl) ?_
      exact ⟨rfl, rfl⟩

-- == nas_o1 ==
set_option maxRecDepth 100000 in
set_option maxHeartbeats 4000000 in
theorem ct_nas_o1 (l : Launch) (g : XG) (aN aNs aNk aNf aNr aNp aNb aNa aNt aNbo aNsz aNnu aNl aNal aNlo aNw aNtr aNis aNbg aNow nts nta nop npr nac : Nat) (nkp nbd ntp nnw nsn nwn : Int32) (fi : Nat → Nat) (gr wk lk sz br : Nat) (z : Int32) (ru ki ma bb hd : Nat → Nat) (ce : Nat → Int32) (q kd : Nat) (hq : q < gr ∧ gr ≤ 12) (hkd : kd ≤ 7) (hki : ki q = 1) (hu : udI 1 (nI kd) = 1) : Ct l g 30 0 0 yX9_as cX9_as 4 (some .int) [.ref aN, .int (nI q), .int (nI kd)] [(aN, .inr (9, [.ref aNs, .ref aNk, .int nkp, .ref aNf, .ref aNr, .ref aNp, .ref aNb, .ref aNa, .ref aNt, .int (nI nts), .ref aNbo, .ref aNsz, .ref aNnu, .int (nI nta), .int (nI nop), .int nbd, .int ntp, .int (nI npr), .int nnw, .int nsn, .int nwn, .ref aNl, .ref aNal, .ref aNlo, .int (nI nac), .ref aNw, .ref aNtr, .ref aNis, .ref aNbg, .ref aNow])), (aNf, .inl (g.2.1 0, 8, .inl (nIf (fnF fi)))), (aNs, .inl (g.2.1 0, 919, .inl (msF gr wk z lk sz br ru ki ma bb ce hd)))] (xpi (nI (ma q)) [(aN, .inr (9, [.ref aNs, .ref aNk, .int nkp, .ref aNf, .ref aNr, .ref aNp, .ref aNb, .ref aNa, .ref aNt, .int (nI nts), .ref aNbo, .ref aNsz, .ref aNnu, .int (nI nta), .int (nI nop), .int nbd, .int ntp, .int (nI npr), .int nnw, .int nsn, .int nwn, .ref aNl, .ref aNal, .ref aNlo, .int (nI nac), .ref aNw, .ref aNtr, .ref aNis, .ref aNbg, .ref aNow])), (aNf, .inl (g.2.1 0, 8, .inl (nIf (fnF fi)))), (aNs, .inl (g.2.1 0, 919, .inl (msF gr wk z lk sz br ru ki ma bb ce hd)))]) := by
  refine Ct.ofX (lv := [some (.ref aN), some (.int (nI q)), some (.int (nI kd)), none]) (by decide) rfl (Nat.le_of_ble_eq_true rfl) (fun κ => ?_)
  generalize hQ : xQ κ g 0 0 _ = Q
  refine x_aload_n dX9_as_0 rfl ?_
  refine x_iload_n dX9_as_1 rfl ?_
  refine x_cVi0 dX9_as_2 ml_X9_105 mX9_isPeople (ct_nPeople_n κ.2.1 g aN aNs aNk aNf aNr aNp aNb aNa aNt aNbo aNsz aNnu aNl aNal aNlo aNw aNtr aNis aNbg aNow nts nta nop npr nac nkp nbd ntp nnw nsn nwn gr wk lk sz br z ru ki ma bb hd ce q (hq)) [0, 2] rfl rfl 0 rfl rfl rfl (Nat.le_of_ble_eq_true rfl) (by decide) (Nat.le_refl _) (Nat.le_refl _) ?_
  refine x_if_eq dX9_as_5 (fun c5 => ?_) (fun c5 => ?_)
  · exact absurd c5 (by decide)
  refine x_iload_n dX9_as_8 rfl ?_
  refine x_i2l dX9_as_9 ?_
  refine x_lconst 0 dX9_as_10 (by decide) ?_
  refine x_ldc2 dX9_as_11 kl_X9_96 ?_
  refine x_cSi dX9_as_14 ml_X9_98 mX9_isIn (ct_X9_isIn κ.2.1 g ((nI kd).toInt64) 0 7) rfl (Nat.le_of_ble_eq_true rfl) (by decide) (Nat.le_refl _) (Nat.le_refl _) ?_
  refine x_rei (wI (nI kd) 0 7) (inL_w (nI kd) 0 7 (by first | rfl | decide) (by first | rfl | decide)) ?_
  refine x_rei 1 (show wI (nI kd) 0 7 = 1 from wI_nat (n := kd) (a := 0) (b := 7) ⟨by omega, by omega, by omega, by omega⟩) ?_
  refine x_if_ne dX9_as_17 (fun c17 => ?_) (fun c17 => ?_)
  rotate_left
  · exact absurd c17 (by decide)
  refine x_aload_n dX9_as_27 rfl ?_
  refine x_get dX9_as_28 0 0 inX9 fl_X9_7 rfl rfl (by decide) rfl ?_
  refine x_bipush 20 dX9_as_31 (by decide) ?_
  refine x_iload_n dX9_as_33 rfl ?_
  refine x_iadd dX9_as_34 ?_
  refine x_rei (nI (20 + q)) (nI_iadd 20 q) ?_
  refine x_iald dX9_as_35 2 (20 + q) rfl (rfl) (by omega) (by decide) ?_
  refine x_rei (nI (ki q)) (msg_ki (x := q) (by omega) (by omega)) ?_
  refine x_rei (1) (congrArg nI hki) ?_
  refine x_istore_n (lv' := [some (.ref aN), some (.int (nI q)), some (.int (nI kd)), some (.int 1)]) dX9_as_36 (xlt rfl) rfl ?_
  refine x_iload_n dX9_as_37 rfl ?_
  refine x_if_lt dX9_as_38 (fun c38 => ?_) (fun c38 => ?_)
  · exact absurd c38 (by decide)
  refine x_iload_n dX9_as_41 rfl ?_
  refine x_iload_n dX9_as_42 rfl ?_
  refine x_icmp_eq dX9_as_43 (fun c43 => ?_) (fun c43 => ?_)
  · have c43 : 1 = (nI kd) := c43
    refine x_iload_n dX9_as_54 rfl ?_
    refine x_if_ge dX9_as_55 (fun c55 => ?_) (fun c55 => ?_)
    rotate_left
    · exact absurd c55 (by decide)
    refine x_aload_n dX9_as_67 rfl ?_
    refine x_get dX9_as_68 0 0 inX9 fl_X9_7 rfl rfl (by decide) rfl ?_
    refine x_bipush 32 dX9_as_71 (by decide) ?_
    refine x_iload_n dX9_as_73 rfl ?_
    refine x_iadd dX9_as_74 ?_
    refine x_rei (nI (32 + q)) (nI_iadd 32 q) ?_
    refine x_iald dX9_as_75 2 (32 + q) rfl (rfl) (by omega) (by decide) ?_
    refine x_rei (nI (ma q)) (msg_ma (x := q) (by omega) (by omega)) ?_
    rw [← hQ]
    refine x_iret dX9_as_76 rfl (Nat.le_of_ble_eq_true rfl) (Nat.le_of_ble_eq_true rfl) ?_
    exact ⟨rfl, rfl⟩
  · have c43 : ¬ (1 = (nI kd)) := c43
    refine x_iload_n dX9_as_46 rfl ?_
    refine x_cSi dX9_as_47 ml_X9_108 mX9_above (ct_above_1 κ.2.1 g ) rfl (Nat.le_of_ble_eq_true rfl) (by decide) (Nat.le_refl _) (Nat.le_refl _) ?_
    refine x_istore_n (lv' := [some (.ref aN), some (.int (nI q)), some (.int (nI kd)), some (.int 0)]) dX9_as_50 (xlt rfl) rfl ?_
    refine x_goto dX9_as_51 ?_
    refine x_iload_n dX9_as_37 rfl ?_
    refine x_if_lt dX9_as_38 (fun c38 => ?_) (fun c38 => ?_)
    · exact absurd c38 (by decide)
    refine x_iload_n dX9_as_41 rfl ?_
    refine x_iload_n dX9_as_42 rfl ?_
    refine x_icmp_eq dX9_as_43 (fun c43 => ?_) (fun c43 => ?_)
    · have c43 : 0 = (nI kd) := c43
      refine x_iload_n dX9_as_54 rfl ?_
      refine x_if_ge dX9_as_55 (fun c55 => ?_) (fun c55 => ?_)
      rotate_left
      · exact absurd c55 (by decide)
      refine x_aload_n dX9_as_67 rfl ?_
      refine x_get dX9_as_68 0 0 inX9 fl_X9_7 rfl rfl (by decide) rfl ?_
      refine x_bipush 32 dX9_as_71 (by decide) ?_
      refine x_iload_n dX9_as_73 rfl ?_
      refine x_iadd dX9_as_74 ?_
      refine x_rei (nI (32 + q)) (nI_iadd 32 q) ?_
      refine x_iald dX9_as_75 2 (32 + q) rfl (rfl) (by omega) (by decide) ?_
      refine x_rei (nI (ma q)) (msg_ma (x := q) (by omega) (by omega)) ?_
      rw [← hQ]
      refine x_iret dX9_as_76 rfl (Nat.le_of_ble_eq_true rfl) (Nat.le_of_ble_eq_true rfl) ?_
      exact ⟨rfl, rfl⟩
    · have c43 : ¬ (0 = (nI kd)) := c43
      refine x_iload_n dX9_as_46 rfl ?_
      refine x_cSi dX9_as_47 ml_X9_108 mX9_above (ct_above_0 κ.2.1 g ) rfl (Nat.le_of_ble_eq_true rfl) (by decide) (Nat.le_refl _) (Nat.le_refl _) ?_
      refine x_istore_n (lv' := [some (.ref aN), some (.int (nI q)), some (.int (nI kd)), some (.int ((-1)))]) dX9_as_50 (xlt rfl) rfl ?_
      refine x_goto dX9_as_51 ?_
      refine x_iload_n dX9_as_37 rfl ?_
      refine x_if_lt dX9_as_38 (fun c38 => ?_) (fun c38 => ?_)
      rotate_left
      · exact absurd c38 (by decide)
      refine x_iload_n dX9_as_54 rfl ?_
      refine x_if_ge dX9_as_55 (fun c55 => ?_) (fun c55 => ?_)
      · exact absurd c55 (by decide)
      exact absurd hu (by clear hu; simp [udI, *])

-- == nas_k2 ==
set_option maxRecDepth 100000 in
set_option maxHeartbeats 4000000 in
theorem ct_nas_k2 (l : Launch) (g : XG) (aN aNs aNk aNf aNr aNp aNb aNa aNt aNbo aNsz aNnu aNl aNal aNlo aNw aNtr aNis aNbg aNow nts nta nop npr nac : Nat) (nkp nbd ntp nnw nsn nwn : Int32) (fi : Nat → Nat) (gr wk lk sz br : Nat) (z : Int32) (ru ki ma bb hd : Nat → Nat) (ce : Nat → Int32) (q kd : Nat) (hq : q < gr ∧ gr ≤ 12) (hkd : kd ≤ 7) (hki : ki q = 2) (hu : udI 2 (nI kd) = 0) : Ct l g 30 0 0 yX9_as cX9_as 4 (some .int) [.ref aN, .int (nI q), .int (nI kd)] [(aN, .inr (9, [.ref aNs, .ref aNk, .int nkp, .ref aNf, .ref aNr, .ref aNp, .ref aNb, .ref aNa, .ref aNt, .int (nI nts), .ref aNbo, .ref aNsz, .ref aNnu, .int (nI nta), .int (nI nop), .int nbd, .int ntp, .int (nI npr), .int nnw, .int nsn, .int nwn, .ref aNl, .ref aNal, .ref aNlo, .int (nI nac), .ref aNw, .ref aNtr, .ref aNis, .ref aNbg, .ref aNow])), (aNf, .inl (g.2.1 0, 8, .inl (nIf (fnF fi)))), (aNs, .inl (g.2.1 0, 919, .inl (msF gr wk z lk sz br ru ki ma bb ce hd)))] (xpi (fndI 2) [(aN, .inr (9, [.ref aNs, .ref aNk, .int nkp, .ref aNf, .ref aNr, .ref aNp, .ref aNb, .ref aNa, .ref aNt, .int (nI nts), .ref aNbo, .ref aNsz, .ref aNnu, .int (nI nta), .int (nI nop), .int nbd, .int ntp, .int (nI npr), .int nnw, .int nsn, .int nwn, .ref aNl, .ref aNal, .ref aNlo, .int (nI nac), .ref aNw, .ref aNtr, .ref aNis, .ref aNbg, .ref aNow])), (aNf, .inl (g.2.1 0, 8, .inl (nIf (fnF (updN fi 2 (fi 2 + 1)))))), (aNs, .inl (g.2.1 0, 919, .inl (msF gr wk z lk sz br ru ki ma bb ce hd)))]) := by
  refine Ct.ofX (lv := [some (.ref aN), some (.int (nI q)), some (.int (nI kd)), none]) (by decide) rfl (Nat.le_of_ble_eq_true rfl) (fun κ => ?_)
  generalize hQ : xQ κ g 0 0 _ = Q
  refine x_aload_n dX9_as_0 rfl ?_
  refine x_iload_n dX9_as_1 rfl ?_
  refine x_cVi0 dX9_as_2 ml_X9_105 mX9_isPeople (ct_nPeople_n κ.2.1 g aN aNs aNk aNf aNr aNp aNb aNa aNt aNbo aNsz aNnu aNl aNal aNlo aNw aNtr aNis aNbg aNow nts nta nop npr nac nkp nbd ntp nnw nsn nwn gr wk lk sz br z ru ki ma bb hd ce q (hq)) [0, 2] rfl rfl 0 rfl rfl rfl (Nat.le_of_ble_eq_true rfl) (by decide) (Nat.le_refl _) (Nat.le_refl _) ?_
  refine x_if_eq dX9_as_5 (fun c5 => ?_) (fun c5 => ?_)
  · exact absurd c5 (by decide)
  refine x_iload_n dX9_as_8 rfl ?_
  refine x_i2l dX9_as_9 ?_
  refine x_lconst 0 dX9_as_10 (by decide) ?_
  refine x_ldc2 dX9_as_11 kl_X9_96 ?_
  refine x_cSi dX9_as_14 ml_X9_98 mX9_isIn (ct_X9_isIn κ.2.1 g ((nI kd).toInt64) 0 7) rfl (Nat.le_of_ble_eq_true rfl) (by decide) (Nat.le_refl _) (Nat.le_refl _) ?_
  refine x_rei (wI (nI kd) 0 7) (inL_w (nI kd) 0 7 (by first | rfl | decide) (by first | rfl | decide)) ?_
  refine x_rei 1 (show wI (nI kd) 0 7 = 1 from wI_nat (n := kd) (a := 0) (b := 7) ⟨by omega, by omega, by omega, by omega⟩) ?_
  refine x_if_ne dX9_as_17 (fun c17 => ?_) (fun c17 => ?_)
  rotate_left
  · exact absurd c17 (by decide)
  refine x_aload_n dX9_as_27 rfl ?_
  refine x_get dX9_as_28 0 0 inX9 fl_X9_7 rfl rfl (by decide) rfl ?_
  refine x_bipush 20 dX9_as_31 (by decide) ?_
  refine x_iload_n dX9_as_33 rfl ?_
  refine x_iadd dX9_as_34 ?_
  refine x_rei (nI (20 + q)) (nI_iadd 20 q) ?_
  refine x_iald dX9_as_35 2 (20 + q) rfl (rfl) (by omega) (by decide) ?_
  refine x_rei (nI (ki q)) (msg_ki (x := q) (by omega) (by omega)) ?_
  refine x_rei (2) (congrArg nI hki) ?_
  refine x_istore_n (lv' := [some (.ref aN), some (.int (nI q)), some (.int (nI kd)), some (.int 2)]) dX9_as_36 (xlt rfl) rfl ?_
  refine x_iload_n dX9_as_37 rfl ?_
  refine x_if_lt dX9_as_38 (fun c38 => ?_) (fun c38 => ?_)
  · exact absurd c38 (by decide)
  refine x_iload_n dX9_as_41 rfl ?_
  refine x_iload_n dX9_as_42 rfl ?_
  refine x_icmp_eq dX9_as_43 (fun c43 => ?_) (fun c43 => ?_)
  · have c43 : 2 = (nI kd) := c43
    exact absurd hu (by clear hu; rw [← c43]; decide)
  · have c43 : ¬ (2 = (nI kd)) := c43
    refine x_iload_n dX9_as_46 rfl ?_
    refine x_cSi dX9_as_47 ml_X9_108 mX9_above (ct_above_2 κ.2.1 g ) rfl (Nat.le_of_ble_eq_true rfl) (by decide) (Nat.le_refl _) (Nat.le_refl _) ?_
    refine x_istore_n (lv' := [some (.ref aN), some (.int (nI q)), some (.int (nI kd)), some (.int 0)]) dX9_as_50 (xlt rfl) rfl ?_
    refine x_goto dX9_as_51 ?_
    refine x_iload_n dX9_as_37 rfl ?_
    refine x_if_lt dX9_as_38 (fun c38 => ?_) (fun c38 => ?_)
    · exact absurd c38 (by decide)
    refine x_iload_n dX9_as_41 rfl ?_
    refine x_iload_n dX9_as_42 rfl ?_
    refine x_icmp_eq dX9_as_43 (fun c43 => ?_) (fun c43 => ?_)
    · have c43 : 0 = (nI kd) := c43
      exact absurd hu (by clear hu; rw [← c43]; decide)
    · have c43 : ¬ (0 = (nI kd)) := c43
      refine x_iload_n dX9_as_46 rfl ?_
      refine x_cSi dX9_as_47 ml_X9_108 mX9_above (ct_above_0 κ.2.1 g ) rfl (Nat.le_of_ble_eq_true rfl) (by decide) (Nat.le_refl _) (Nat.le_refl _) ?_
      refine x_istore_n (lv' := [some (.ref aN), some (.int (nI q)), some (.int (nI kd)), some (.int ((-1)))]) dX9_as_50 (xlt rfl) rfl ?_
      refine x_goto dX9_as_51 ?_
      refine x_iload_n dX9_as_37 rfl ?_
      refine x_if_lt dX9_as_38 (fun c38 => ?_) (fun c38 => ?_)
      rotate_left
      · exact absurd c38 (by decide)
      refine x_iload_n dX9_as_54 rfl ?_
      refine x_if_ge dX9_as_55 (fun c55 => ?_) (fun c55 => ?_)
      · exact absurd c55 (by decide)
      refine x_aload_n dX9_as_58 rfl ?_
      refine x_ldc dX9_as_59 k_X9_111 ?_
      refine x_cVi (ws' := [(aN, .inr (9, [.ref aNs, .ref aNk, .int nkp, .ref aNf, .ref aNr, .ref aNp, .ref aNb, .ref aNa, .ref aNt, .int (nI nts), .ref aNbo, .ref aNsz, .ref aNnu, .int (nI nta), .int (nI nop), .int nbd, .int ntp, .int (nI npr), .int nnw, .int nsn, .int nwn, .ref aNl, .ref aNal, .ref aNlo, .int (nI nac), .ref aNw, .ref aNtr, .ref aNis, .ref aNbg, .ref aNow])), (aNf, .inl (g.2.1 0, 8, .inl (nIf (fnF (updN fi 2 (fi 2 + 1)))))), (aNs, .inl (g.2.1 0, 919, .inl (msF gr wk z lk sz br ru ki ma bb ce hd)))]) dX9_as_61 ml_X9_88 mX9_finds (ct_finds_2 κ.2.1 g aN aNs aNk aNf aNr aNp aNb aNa aNt aNbo aNsz aNnu aNl aNal aNlo aNw aNtr aNis aNbg aNow nts nta nop npr nac nkp nbd ntp nnw nsn nwn fi) [0, 1] rfl rfl 0 rfl rfl rfl (Nat.le_of_ble_eq_true rfl) (by decide) (Nat.le_refl _) (Nat.le_refl _) (rfl : [aN, aNf] = [aN, aNf]) rfl ?_
      refine x_goto dX9_as_64 ?_
      rw [← hQ]
      refine x_iret dX9_as_76 rfl (Nat.le_of_ble_eq_true rfl) (Nat.le_of_ble_eq_true rfl) ?_
      exact ⟨rfl, rfl⟩

-- == nas_o2 ==
set_option maxRecDepth 100000 in
set_option maxHeartbeats 4000000 in
theorem ct_nas_o2 (l : Launch) (g : XG) (aN aNs aNk aNf aNr aNp aNb aNa aNt aNbo aNsz aNnu aNl aNal aNlo aNw aNtr aNis aNbg aNow nts nta nop npr nac : Nat) (nkp nbd ntp nnw nsn nwn : Int32) (fi : Nat → Nat) (gr wk lk sz br : Nat) (z : Int32) (ru ki ma bb hd : Nat → Nat) (ce : Nat → Int32) (q kd : Nat) (hq : q < gr ∧ gr ≤ 12) (hkd : kd ≤ 7) (hki : ki q = 2) (hu : udI 2 (nI kd) = 1) : Ct l g 30 0 0 yX9_as cX9_as 4 (some .int) [.ref aN, .int (nI q), .int (nI kd)] [(aN, .inr (9, [.ref aNs, .ref aNk, .int nkp, .ref aNf, .ref aNr, .ref aNp, .ref aNb, .ref aNa, .ref aNt, .int (nI nts), .ref aNbo, .ref aNsz, .ref aNnu, .int (nI nta), .int (nI nop), .int nbd, .int ntp, .int (nI npr), .int nnw, .int nsn, .int nwn, .ref aNl, .ref aNal, .ref aNlo, .int (nI nac), .ref aNw, .ref aNtr, .ref aNis, .ref aNbg, .ref aNow])), (aNf, .inl (g.2.1 0, 8, .inl (nIf (fnF fi)))), (aNs, .inl (g.2.1 0, 919, .inl (msF gr wk z lk sz br ru ki ma bb ce hd)))] (xpi (nI (ma q)) [(aN, .inr (9, [.ref aNs, .ref aNk, .int nkp, .ref aNf, .ref aNr, .ref aNp, .ref aNb, .ref aNa, .ref aNt, .int (nI nts), .ref aNbo, .ref aNsz, .ref aNnu, .int (nI nta), .int (nI nop), .int nbd, .int ntp, .int (nI npr), .int nnw, .int nsn, .int nwn, .ref aNl, .ref aNal, .ref aNlo, .int (nI nac), .ref aNw, .ref aNtr, .ref aNis, .ref aNbg, .ref aNow])), (aNf, .inl (g.2.1 0, 8, .inl (nIf (fnF fi)))), (aNs, .inl (g.2.1 0, 919, .inl (msF gr wk z lk sz br ru ki ma bb ce hd)))]) := by
  refine Ct.ofX (lv := [some (.ref aN), some (.int (nI q)), some (.int (nI kd)), none]) (by decide) rfl (Nat.le_of_ble_eq_true rfl) (fun κ => ?_)
  generalize hQ : xQ κ g 0 0 _ = Q
  refine x_aload_n dX9_as_0 rfl ?_
  refine x_iload_n dX9_as_1 rfl ?_
  refine x_cVi0 dX9_as_2 ml_X9_105 mX9_isPeople (ct_nPeople_n κ.2.1 g aN aNs aNk aNf aNr aNp aNb aNa aNt aNbo aNsz aNnu aNl aNal aNlo aNw aNtr aNis aNbg aNow nts nta nop npr nac nkp nbd ntp nnw nsn nwn gr wk lk sz br z ru ki ma bb hd ce q (hq)) [0, 2] rfl rfl 0 rfl rfl rfl (Nat.le_of_ble_eq_true rfl) (by decide) (Nat.le_refl _) (Nat.le_refl _) ?_
  refine x_if_eq dX9_as_5 (fun c5 => ?_) (fun c5 => ?_)
  · exact absurd c5 (by decide)
  refine x_iload_n dX9_as_8 rfl ?_
  refine x_i2l dX9_as_9 ?_
  refine x_lconst 0 dX9_as_10 (by decide) ?_
  refine x_ldc2 dX9_as_11 kl_X9_96 ?_
  refine x_cSi dX9_as_14 ml_X9_98 mX9_isIn (ct_X9_isIn κ.2.1 g ((nI kd).toInt64) 0 7) rfl (Nat.le_of_ble_eq_true rfl) (by decide) (Nat.le_refl _) (Nat.le_refl _) ?_
  refine x_rei (wI (nI kd) 0 7) (inL_w (nI kd) 0 7 (by first | rfl | decide) (by first | rfl | decide)) ?_
  refine x_rei 1 (show wI (nI kd) 0 7 = 1 from wI_nat (n := kd) (a := 0) (b := 7) ⟨by omega, by omega, by omega, by omega⟩) ?_
  refine x_if_ne dX9_as_17 (fun c17 => ?_) (fun c17 => ?_)
  rotate_left
  · exact absurd c17 (by decide)
  refine x_aload_n dX9_as_27 rfl ?_
  refine x_get dX9_as_28 0 0 inX9 fl_X9_7 rfl rfl (by decide) rfl ?_
  refine x_bipush 20 dX9_as_31 (by decide) ?_
  refine x_iload_n dX9_as_33 rfl ?_
  refine x_iadd dX9_as_34 ?_
  refine x_rei (nI (20 + q)) (nI_iadd 20 q) ?_
  refine x_iald dX9_as_35 2 (20 + q) rfl (rfl) (by omega) (by decide) ?_
  refine x_rei (nI (ki q)) (msg_ki (x := q) (by omega) (by omega)) ?_
  refine x_rei (2) (congrArg nI hki) ?_
  refine x_istore_n (lv' := [some (.ref aN), some (.int (nI q)), some (.int (nI kd)), some (.int 2)]) dX9_as_36 (xlt rfl) rfl ?_
  refine x_iload_n dX9_as_37 rfl ?_
  refine x_if_lt dX9_as_38 (fun c38 => ?_) (fun c38 => ?_)
  · exact absurd c38 (by decide)
  refine x_iload_n dX9_as_41 rfl ?_
  refine x_iload_n dX9_as_42 rfl ?_
  refine x_icmp_eq dX9_as_43 (fun c43 => ?_) (fun c43 => ?_)
  · have c43 : 2 = (nI kd) := c43
    refine x_iload_n dX9_as_54 rfl ?_
    refine x_if_ge dX9_as_55 (fun c55 => ?_) (fun c55 => ?_)
    rotate_left
    · exact absurd c55 (by decide)
    refine x_aload_n dX9_as_67 rfl ?_
    refine x_get dX9_as_68 0 0 inX9 fl_X9_7 rfl rfl (by decide) rfl ?_
    refine x_bipush 32 dX9_as_71 (by decide) ?_
    refine x_iload_n dX9_as_73 rfl ?_
    refine x_iadd dX9_as_74 ?_
    refine x_rei (nI (32 + q)) (nI_iadd 32 q) ?_
    refine x_iald dX9_as_75 2 (32 + q) rfl (rfl) (by omega) (by decide) ?_
    refine x_rei (nI (ma q)) (msg_ma (x := q) (by omega) (by omega)) ?_
    rw [← hQ]
    refine x_iret dX9_as_76 rfl (Nat.le_of_ble_eq_true rfl) (Nat.le_of_ble_eq_true rfl) ?_
    exact ⟨rfl, rfl⟩
  · have c43 : ¬ (2 = (nI kd)) := c43
    refine x_iload_n dX9_as_46 rfl ?_
    refine x_cSi dX9_as_47 ml_X9_108 mX9_above (ct_above_2 κ.2.1 g ) rfl (Nat.le_of_ble_eq_true rfl) (by decide) (Nat.le_refl _) (Nat.le_refl _) ?_
    refine x_istore_n (lv' := [some (.ref aN), some (.int (nI q)), some (.int (nI kd)), some (.int 0)]) dX9_as_50 (xlt rfl) rfl ?_
    refine x_goto dX9_as_51 ?_
    refine x_iload_n dX9_as_37 rfl ?_
    refine x_if_lt dX9_as_38 (fun c38 => ?_) (fun c38 => ?_)
    · exact absurd c38 (by decide)
    refine x_iload_n dX9_as_41 rfl ?_
    refine x_iload_n dX9_as_42 rfl ?_
    refine x_icmp_eq dX9_as_43 (fun c43 => ?_) (fun c43 => ?_)
    · have c43 : 0 = (nI kd) := c43
      refine x_iload_n dX9_as_54 rfl ?_
      refine x_if_ge dX9_as_55 (fun c55 => ?_) (fun c55 => ?_)
      rotate_left
      · exact absurd c55 (by decide)
      refine x_aload_n dX9_as_67 rfl ?_
      refine x_get dX9_as_68 0 0 inX9 fl_X9_7 rfl rfl (by decide) rfl ?_
      refine x_bipush 32 dX9_as_71 (by decide) ?_
      refine x_iload_n dX9_as_73 rfl ?_
      refine x_iadd dX9_as_74 ?_
      refine x_rei (nI (32 + q)) (nI_iadd 32 q) ?_
      refine x_iald dX9_as_75 2 (32 + q) rfl (rfl) (by omega) (by decide) ?_
      refine x_rei (nI (ma q)) (msg_ma (x := q) (by omega) (by omega)) ?_
      rw [← hQ]
      refine x_iret dX9_as_76 rfl (Nat.le_of_ble_eq_true rfl) (Nat.le_of_ble_eq_true rfl) ?_
      exact ⟨rfl, rfl⟩
    · have c43 : ¬ (0 = (nI kd)) := c43
      refine x_iload_n dX9_as_46 rfl ?_
      refine x_cSi dX9_as_47 ml_X9_108 mX9_above (ct_above_0 κ.2.1 g ) rfl (Nat.le_of_ble_eq_true rfl) (by decide) (Nat.le_refl _) (Nat.le_refl _) ?_
      refine x_istore_n (lv' := [some (.ref aN), some (.int (nI q)), some (.int (nI kd)), some (.int ((-1)))]) dX9_as_50 (xlt rfl) rfl ?_
      refine x_goto dX9_as_51 ?_
      refine x_iload_n dX9_as_37 rfl ?_
      refine x_if_lt dX9_as_38 (fun c38 => ?_) (fun c38 => ?_)
      rotate_left
      · exact absurd c38 (by decide)
      refine x_iload_n dX9_as_54 rfl ?_
      refine x_if_ge dX9_as_55 (fun c55 => ?_) (fun c55 => ?_)
      · exact absurd c55 (by decide)
      exact absurd hu (by clear hu; simp [udI, *])

-- == nas_k3 ==
set_option maxRecDepth 100000 in
set_option maxHeartbeats 4000000 in
theorem ct_nas_k3 (l : Launch) (g : XG) (aN aNs aNk aNf aNr aNp aNb aNa aNt aNbo aNsz aNnu aNl aNal aNlo aNw aNtr aNis aNbg aNow nts nta nop npr nac : Nat) (nkp nbd ntp nnw nsn nwn : Int32) (fi : Nat → Nat) (gr wk lk sz br : Nat) (z : Int32) (ru ki ma bb hd : Nat → Nat) (ce : Nat → Int32) (q kd : Nat) (hq : q < gr ∧ gr ≤ 12) (hkd : kd ≤ 7) (hki : ki q = 3) (hu : udI 3 (nI kd) = 0) : Ct l g 30 0 0 yX9_as cX9_as 4 (some .int) [.ref aN, .int (nI q), .int (nI kd)] [(aN, .inr (9, [.ref aNs, .ref aNk, .int nkp, .ref aNf, .ref aNr, .ref aNp, .ref aNb, .ref aNa, .ref aNt, .int (nI nts), .ref aNbo, .ref aNsz, .ref aNnu, .int (nI nta), .int (nI nop), .int nbd, .int ntp, .int (nI npr), .int nnw, .int nsn, .int nwn, .ref aNl, .ref aNal, .ref aNlo, .int (nI nac), .ref aNw, .ref aNtr, .ref aNis, .ref aNbg, .ref aNow])), (aNf, .inl (g.2.1 0, 8, .inl (nIf (fnF fi)))), (aNs, .inl (g.2.1 0, 919, .inl (msF gr wk z lk sz br ru ki ma bb ce hd)))] (xpi (fndI 2) [(aN, .inr (9, [.ref aNs, .ref aNk, .int nkp, .ref aNf, .ref aNr, .ref aNp, .ref aNb, .ref aNa, .ref aNt, .int (nI nts), .ref aNbo, .ref aNsz, .ref aNnu, .int (nI nta), .int (nI nop), .int nbd, .int ntp, .int (nI npr), .int nnw, .int nsn, .int nwn, .ref aNl, .ref aNal, .ref aNlo, .int (nI nac), .ref aNw, .ref aNtr, .ref aNis, .ref aNbg, .ref aNow])), (aNf, .inl (g.2.1 0, 8, .inl (nIf (fnF (updN fi 2 (fi 2 + 1)))))), (aNs, .inl (g.2.1 0, 919, .inl (msF gr wk z lk sz br ru ki ma bb ce hd)))]) := by
  refine Ct.ofX (lv := [some (.ref aN), some (.int (nI q)), some (.int (nI kd)), none]) (by decide) rfl (Nat.le_of_ble_eq_true rfl) (fun κ => ?_)
  generalize hQ : xQ κ g 0 0 _ = Q
  refine x_aload_n dX9_as_0 rfl ?_
  refine x_iload_n dX9_as_1 rfl ?_
  refine x_cVi0 dX9_as_2 ml_X9_105 mX9_isPeople (ct_nPeople_n κ.2.1 g aN aNs aNk aNf aNr aNp aNb aNa aNt aNbo aNsz aNnu aNl aNal aNlo aNw aNtr aNis aNbg aNow nts nta nop npr nac nkp nbd ntp nnw nsn nwn gr wk lk sz br z ru ki ma bb hd ce q (hq)) [0, 2] rfl rfl 0 rfl rfl rfl (Nat.le_of_ble_eq_true rfl) (by decide) (Nat.le_refl _) (Nat.le_refl _) ?_
  refine x_if_eq dX9_as_5 (fun c5 => ?_) (fun c5 => ?_)
  · exact absurd c5 (by decide)
  refine x_iload_n dX9_as_8 rfl ?_
  refine x_i2l dX9_as_9 ?_
  refine x_lconst 0 dX9_as_10 (by decide) ?_
  refine x_ldc2 dX9_as_11 kl_X9_96 ?_
  refine x_cSi dX9_as_14 ml_X9_98 mX9_isIn (ct_X9_isIn κ.2.1 g ((nI kd).toInt64) 0 7) rfl (Nat.le_of_ble_eq_true rfl) (by decide) (Nat.le_refl _) (Nat.le_refl _) ?_
  refine x_rei (wI (nI kd) 0 7) (inL_w (nI kd) 0 7 (by first | rfl | decide) (by first | rfl | decide)) ?_
  refine x_rei 1 (show wI (nI kd) 0 7 = 1 from wI_nat (n := kd) (a := 0) (b := 7) ⟨by omega, by omega, by omega, by omega⟩) ?_
  refine x_if_ne dX9_as_17 (fun c17 => ?_) (fun c17 => ?_)
  rotate_left
  · exact absurd c17 (by decide)
  refine x_aload_n dX9_as_27 rfl ?_
  refine x_get dX9_as_28 0 0 inX9 fl_X9_7 rfl rfl (by decide) rfl ?_
  refine x_bipush 20 dX9_as_31 (by decide) ?_
  refine x_iload_n dX9_as_33 rfl ?_
  refine x_iadd dX9_as_34 ?_
  refine x_rei (nI (20 + q)) (nI_iadd 20 q) ?_
  refine x_iald dX9_as_35 2 (20 + q) rfl (rfl) (by omega) (by decide) ?_
  refine x_rei (nI (ki q)) (msg_ki (x := q) (by omega) (by omega)) ?_
  refine x_rei (3) (congrArg nI hki) ?_
  refine x_istore_n (lv' := [some (.ref aN), some (.int (nI q)), some (.int (nI kd)), some (.int 3)]) dX9_as_36 (xlt rfl) rfl ?_
  refine x_iload_n dX9_as_37 rfl ?_
  refine x_if_lt dX9_as_38 (fun c38 => ?_) (fun c38 => ?_)
  · exact absurd c38 (by decide)
  refine x_iload_n dX9_as_41 rfl ?_
  refine x_iload_n dX9_as_42 rfl ?_
  refine x_icmp_eq dX9_as_43 (fun c43 => ?_) (fun c43 => ?_)
  · have c43 : 3 = (nI kd) := c43
    exact absurd hu (by clear hu; rw [← c43]; decide)
  · have c43 : ¬ (3 = (nI kd)) := c43
    refine x_iload_n dX9_as_46 rfl ?_
    refine x_cSi dX9_as_47 ml_X9_108 mX9_above (ct_above_3 κ.2.1 g ) rfl (Nat.le_of_ble_eq_true rfl) (by decide) (Nat.le_refl _) (Nat.le_refl _) ?_
    refine x_istore_n (lv' := [some (.ref aN), some (.int (nI q)), some (.int (nI kd)), some (.int 0)]) dX9_as_50 (xlt rfl) rfl ?_
    refine x_goto dX9_as_51 ?_
    refine x_iload_n dX9_as_37 rfl ?_
    refine x_if_lt dX9_as_38 (fun c38 => ?_) (fun c38 => ?_)
    · exact absurd c38 (by decide)
    refine x_iload_n dX9_as_41 rfl ?_
    refine x_iload_n dX9_as_42 rfl ?_
    refine x_icmp_eq dX9_as_43 (fun c43 => ?_) (fun c43 => ?_)
    · have c43 : 0 = (nI kd) := c43
      exact absurd hu (by clear hu; rw [← c43]; decide)
    · have c43 : ¬ (0 = (nI kd)) := c43
      refine x_iload_n dX9_as_46 rfl ?_
      refine x_cSi dX9_as_47 ml_X9_108 mX9_above (ct_above_0 κ.2.1 g ) rfl (Nat.le_of_ble_eq_true rfl) (by decide) (Nat.le_refl _) (Nat.le_refl _) ?_
      refine x_istore_n (lv' := [some (.ref aN), some (.int (nI q)), some (.int (nI kd)), some (.int ((-1)))]) dX9_as_50 (xlt rfl) rfl ?_
      refine x_goto dX9_as_51 ?_
      refine x_iload_n dX9_as_37 rfl ?_
      refine x_if_lt dX9_as_38 (fun c38 => ?_) (fun c38 => ?_)
      rotate_left
      · exact absurd c38 (by decide)
      refine x_iload_n dX9_as_54 rfl ?_
      refine x_if_ge dX9_as_55 (fun c55 => ?_) (fun c55 => ?_)
      · exact absurd c55 (by decide)
      refine x_aload_n dX9_as_58 rfl ?_
      refine x_ldc dX9_as_59 k_X9_111 ?_
      refine x_cVi (ws' := [(aN, .inr (9, [.ref aNs, .ref aNk, .int nkp, .ref aNf, .ref aNr, .ref aNp, .ref aNb, .ref aNa, .ref aNt, .int (nI nts), .ref aNbo, .ref aNsz, .ref aNnu, .int (nI nta), .int (nI nop), .int nbd, .int ntp, .int (nI npr), .int nnw, .int nsn, .int nwn, .ref aNl, .ref aNal, .ref aNlo, .int (nI nac), .ref aNw, .ref aNtr, .ref aNis, .ref aNbg, .ref aNow])), (aNf, .inl (g.2.1 0, 8, .inl (nIf (fnF (updN fi 2 (fi 2 + 1)))))), (aNs, .inl (g.2.1 0, 919, .inl (msF gr wk z lk sz br ru ki ma bb ce hd)))]) dX9_as_61 ml_X9_88 mX9_finds (ct_finds_2 κ.2.1 g aN aNs aNk aNf aNr aNp aNb aNa aNt aNbo aNsz aNnu aNl aNal aNlo aNw aNtr aNis aNbg aNow nts nta nop npr nac nkp nbd ntp nnw nsn nwn fi) [0, 1] rfl rfl 0 rfl rfl rfl (Nat.le_of_ble_eq_true rfl) (by decide) (Nat.le_refl _) (Nat.le_refl _) (rfl : [aN, aNf] = [aN, aNf]) rfl ?_
      refine x_goto dX9_as_64 ?_
      rw [← hQ]
      refine x_iret dX9_as_76 rfl (Nat.le_of_ble_eq_true rfl) (Nat.le_of_ble_eq_true rfl) ?_
      exact ⟨rfl, rfl⟩

-- == nas_o3 ==
set_option maxRecDepth 100000 in
set_option maxHeartbeats 4000000 in
theorem ct_nas_o3 (l : Launch) (g : XG) (aN aNs aNk aNf aNr aNp aNb aNa aNt aNbo aNsz aNnu aNl aNal aNlo aNw aNtr aNis aNbg aNow nts nta nop npr nac : Nat) (nkp nbd ntp nnw nsn nwn : Int32) (fi : Nat → Nat) (gr wk lk sz br : Nat) (z : Int32) (ru ki ma bb hd : Nat → Nat) (ce : Nat → Int32) (q kd : Nat) (hq : q < gr ∧ gr ≤ 12) (hkd : kd ≤ 7) (hki : ki q = 3) (hu : udI 3 (nI kd) = 1) : Ct l g 30 0 0 yX9_as cX9_as 4 (some .int) [.ref aN, .int (nI q), .int (nI kd)] [(aN, .inr (9, [.ref aNs, .ref aNk, .int nkp, .ref aNf, .ref aNr, .ref aNp, .ref aNb, .ref aNa, .ref aNt, .int (nI nts), .ref aNbo, .ref aNsz, .ref aNnu, .int (nI nta), .int (nI nop), .int nbd, .int ntp, .int (nI npr), .int nnw, .int nsn, .int nwn, .ref aNl, .ref aNal, .ref aNlo, .int (nI nac), .ref aNw, .ref aNtr, .ref aNis, .ref aNbg, .ref aNow])), (aNf, .inl (g.2.1 0, 8, .inl (nIf (fnF fi)))), (aNs, .inl (g.2.1 0, 919, .inl (msF gr wk z lk sz br ru ki ma bb ce hd)))] (xpi (nI (ma q)) [(aN, .inr (9, [.ref aNs, .ref aNk, .int nkp, .ref aNf, .ref aNr, .ref aNp, .ref aNb, .ref aNa, .ref aNt, .int (nI nts), .ref aNbo, .ref aNsz, .ref aNnu, .int (nI nta), .int (nI nop), .int nbd, .int ntp, .int (nI npr), .int nnw, .int nsn, .int nwn, .ref aNl, .ref aNal, .ref aNlo, .int (nI nac), .ref aNw, .ref aNtr, .ref aNis, .ref aNbg, .ref aNow])), (aNf, .inl (g.2.1 0, 8, .inl (nIf (fnF fi)))), (aNs, .inl (g.2.1 0, 919, .inl (msF gr wk z lk sz br ru ki ma bb ce hd)))]) := by
  refine Ct.ofX (lv := [some (.ref aN), some (.int (nI q)), some (.int (nI kd)), none]) (by decide) rfl (Nat.le_of_ble_eq_true rfl) (fun κ => ?_)
  generalize hQ : xQ κ g 0 0 _ = Q
  refine x_aload_n dX9_as_0 rfl ?_
  refine x_iload_n dX9_as_1 rfl ?_
  refine x_cVi0 dX9_as_2 ml_X9_105 mX9_isPeople (ct_nPeople_n κ.2.1 g aN aNs aNk aNf aNr aNp aNb aNa aNt aNbo aNsz aNnu aNl aNal aNlo aNw aNtr aNis aNbg aNow nts nta nop npr nac nkp nbd ntp nnw nsn nwn gr wk lk sz br z ru ki ma bb hd ce q (hq)) [0, 2] rfl rfl 0 rfl rfl rfl (Nat.le_of_ble_eq_true rfl) (by decide) (Nat.le_refl _) (Nat.le_refl _) ?_
  refine x_if_eq dX9_as_5 (fun c5 => ?_) (fun c5 => ?_)
  · exact absurd c5 (by decide)
  refine x_iload_n dX9_as_8 rfl ?_
  refine x_i2l dX9_as_9 ?_
  refine x_lconst 0 dX9_as_10 (by decide) ?_
  refine x_ldc2 dX9_as_11 kl_X9_96 ?_
  refine x_cSi dX9_as_14 ml_X9_98 mX9_isIn (ct_X9_isIn κ.2.1 g ((nI kd).toInt64) 0 7) rfl (Nat.le_of_ble_eq_true rfl) (by decide) (Nat.le_refl _) (Nat.le_refl _) ?_
  refine x_rei (wI (nI kd) 0 7) (inL_w (nI kd) 0 7 (by first | rfl | decide) (by first | rfl | decide)) ?_
  refine x_rei 1 (show wI (nI kd) 0 7 = 1 from wI_nat (n := kd) (a := 0) (b := 7) ⟨by omega, by omega, by omega, by omega⟩) ?_
  refine x_if_ne dX9_as_17 (fun c17 => ?_) (fun c17 => ?_)
  rotate_left
  · exact absurd c17 (by decide)
  refine x_aload_n dX9_as_27 rfl ?_
  refine x_get dX9_as_28 0 0 inX9 fl_X9_7 rfl rfl (by decide) rfl ?_
  refine x_bipush 20 dX9_as_31 (by decide) ?_
  refine x_iload_n dX9_as_33 rfl ?_
  refine x_iadd dX9_as_34 ?_
  refine x_rei (nI (20 + q)) (nI_iadd 20 q) ?_
  refine x_iald dX9_as_35 2 (20 + q) rfl (rfl) (by omega) (by decide) ?_
  refine x_rei (nI (ki q)) (msg_ki (x := q) (by omega) (by omega)) ?_
  refine x_rei (3) (congrArg nI hki) ?_
  refine x_istore_n (lv' := [some (.ref aN), some (.int (nI q)), some (.int (nI kd)), some (.int 3)]) dX9_as_36 (xlt rfl) rfl ?_
  refine x_iload_n dX9_as_37 rfl ?_
  refine x_if_lt dX9_as_38 (fun c38 => ?_) (fun c38 => ?_)
  · exact absurd c38 (by decide)
  refine x_iload_n dX9_as_41 rfl ?_
  refine x_iload_n dX9_as_42 rfl ?_
  refine x_icmp_eq dX9_as_43 (fun c43 => ?_) (fun c43 => ?_)
  · have c43 : 3 = (nI kd) := c43
    refine x_iload_n dX9_as_54 rfl ?_
    refine x_if_ge dX9_as_55 (fun c55 => ?_) (fun c55 => ?_)
    rotate_left
    · exact absurd c55 (by decide)
    refine x_aload_n dX9_as_67 rfl ?_
    refine x_get dX9_as_68 0 0 inX9 fl_X9_7 rfl rfl (by decide) rfl ?_
    refine x_bipush 32 dX9_as_71 (by decide) ?_
    refine x_iload_n dX9_as_73 rfl ?_
    refine x_iadd dX9_as_74 ?_
    refine x_rei (nI (32 + q)) (nI_iadd 32 q) ?_
    refine x_iald dX9_as_75 2 (32 + q) rfl (rfl) (by omega) (by decide) ?_
    refine x_rei (nI (ma q)) (msg_ma (x := q) (by omega) (by omega)) ?_
    rw [← hQ]
    refine x_iret dX9_as_76 rfl (Nat.le_of_ble_eq_true rfl) (Nat.le_of_ble_eq_true rfl) ?_
    exact ⟨rfl, rfl⟩
  · have c43 : ¬ (3 = (nI kd)) := c43
    refine x_iload_n dX9_as_46 rfl ?_
    refine x_cSi dX9_as_47 ml_X9_108 mX9_above (ct_above_3 κ.2.1 g ) rfl (Nat.le_of_ble_eq_true rfl) (by decide) (Nat.le_refl _) (Nat.le_refl _) ?_
    refine x_istore_n (lv' := [some (.ref aN), some (.int (nI q)), some (.int (nI kd)), some (.int 0)]) dX9_as_50 (xlt rfl) rfl ?_
    refine x_goto dX9_as_51 ?_
    refine x_iload_n dX9_as_37 rfl ?_
    refine x_if_lt dX9_as_38 (fun c38 => ?_) (fun c38 => ?_)
    · exact absurd c38 (by decide)
    refine x_iload_n dX9_as_41 rfl ?_
    refine x_iload_n dX9_as_42 rfl ?_
    refine x_icmp_eq dX9_as_43 (fun c43 => ?_) (fun c43 => ?_)
    · have c43 : 0 = (nI kd) := c43
      refine x_iload_n dX9_as_54 rfl ?_
      refine x_if_ge dX9_as_55 (fun c55 => ?_) (fun c55 => ?_)
      rotate_left
      · exact absurd c55 (by decide)
      refine x_aload_n dX9_as_67 rfl ?_
      refine x_get dX9_as_68 0 0 inX9 fl_X9_7 rfl rfl (by decide) rfl ?_
      refine x_bipush 32 dX9_as_71 (by decide) ?_
      refine x_iload_n dX9_as_73 rfl ?_
      refine x_iadd dX9_as_74 ?_
      refine x_rei (nI (32 + q)) (nI_iadd 32 q) ?_
      refine x_iald dX9_as_75 2 (32 + q) rfl (rfl) (by omega) (by decide) ?_
      refine x_rei (nI (ma q)) (msg_ma (x := q) (by omega) (by omega)) ?_
      rw [← hQ]
      refine x_iret dX9_as_76 rfl (Nat.le_of_ble_eq_true rfl) (Nat.le_of_ble_eq_true rfl) ?_
      exact ⟨rfl, rfl⟩
    · have c43 : ¬ (0 = (nI kd)) := c43
      refine x_iload_n dX9_as_46 rfl ?_
      refine x_cSi dX9_as_47 ml_X9_108 mX9_above (ct_above_0 κ.2.1 g ) rfl (Nat.le_of_ble_eq_true rfl) (by decide) (Nat.le_refl _) (Nat.le_refl _) ?_
      refine x_istore_n (lv' := [some (.ref aN), some (.int (nI q)), some (.int (nI kd)), some (.int ((-1)))]) dX9_as_50 (xlt rfl) rfl ?_
      refine x_goto dX9_as_51 ?_
      refine x_iload_n dX9_as_37 rfl ?_
      refine x_if_lt dX9_as_38 (fun c38 => ?_) (fun c38 => ?_)
      rotate_left
      · exact absurd c38 (by decide)
      refine x_iload_n dX9_as_54 rfl ?_
      refine x_if_ge dX9_as_55 (fun c55 => ?_) (fun c55 => ?_)
      · exact absurd c55 (by decide)
      exact absurd hu (by clear hu; simp [udI, *])

-- == nas_k4 ==
set_option maxRecDepth 100000 in
set_option maxHeartbeats 4000000 in
theorem ct_nas_k4 (l : Launch) (g : XG) (aN aNs aNk aNf aNr aNp aNb aNa aNt aNbo aNsz aNnu aNl aNal aNlo aNw aNtr aNis aNbg aNow nts nta nop npr nac : Nat) (nkp nbd ntp nnw nsn nwn : Int32) (fi : Nat → Nat) (gr wk lk sz br : Nat) (z : Int32) (ru ki ma bb hd : Nat → Nat) (ce : Nat → Int32) (q kd : Nat) (hq : q < gr ∧ gr ≤ 12) (hkd : kd ≤ 7) (hki : ki q = 4) (hu : udI 4 (nI kd) = 0) : Ct l g 30 0 0 yX9_as cX9_as 4 (some .int) [.ref aN, .int (nI q), .int (nI kd)] [(aN, .inr (9, [.ref aNs, .ref aNk, .int nkp, .ref aNf, .ref aNr, .ref aNp, .ref aNb, .ref aNa, .ref aNt, .int (nI nts), .ref aNbo, .ref aNsz, .ref aNnu, .int (nI nta), .int (nI nop), .int nbd, .int ntp, .int (nI npr), .int nnw, .int nsn, .int nwn, .ref aNl, .ref aNal, .ref aNlo, .int (nI nac), .ref aNw, .ref aNtr, .ref aNis, .ref aNbg, .ref aNow])), (aNf, .inl (g.2.1 0, 8, .inl (nIf (fnF fi)))), (aNs, .inl (g.2.1 0, 919, .inl (msF gr wk z lk sz br ru ki ma bb ce hd)))] (xpi (fndI 2) [(aN, .inr (9, [.ref aNs, .ref aNk, .int nkp, .ref aNf, .ref aNr, .ref aNp, .ref aNb, .ref aNa, .ref aNt, .int (nI nts), .ref aNbo, .ref aNsz, .ref aNnu, .int (nI nta), .int (nI nop), .int nbd, .int ntp, .int (nI npr), .int nnw, .int nsn, .int nwn, .ref aNl, .ref aNal, .ref aNlo, .int (nI nac), .ref aNw, .ref aNtr, .ref aNis, .ref aNbg, .ref aNow])), (aNf, .inl (g.2.1 0, 8, .inl (nIf (fnF (updN fi 2 (fi 2 + 1)))))), (aNs, .inl (g.2.1 0, 919, .inl (msF gr wk z lk sz br ru ki ma bb ce hd)))]) := by
  refine Ct.ofX (lv := [some (.ref aN), some (.int (nI q)), some (.int (nI kd)), none]) (by decide) rfl (Nat.le_of_ble_eq_true rfl) (fun κ => ?_)
  generalize hQ : xQ κ g 0 0 _ = Q
  refine x_aload_n dX9_as_0 rfl ?_
  refine x_iload_n dX9_as_1 rfl ?_
  refine x_cVi0 dX9_as_2 ml_X9_105 mX9_isPeople (ct_nPeople_n κ.2.1 g aN aNs aNk aNf aNr aNp aNb aNa aNt aNbo aNsz aNnu aNl aNal aNlo aNw aNtr aNis aNbg aNow nts nta nop npr nac nkp nbd ntp nnw nsn nwn gr wk lk sz br z ru ki ma bb hd ce q (hq)) [0, 2] rfl rfl 0 rfl rfl rfl (Nat.le_of_ble_eq_true rfl) (by decide) (Nat.le_refl _) (Nat.le_refl _) ?_
  refine x_if_eq dX9_as_5 (fun c5 => ?_) (fun c5 => ?_)
  · exact absurd c5 (by decide)
  refine x_iload_n dX9_as_8 rfl ?_
  refine x_i2l dX9_as_9 ?_
  refine x_lconst 0 dX9_as_10 (by decide) ?_
  refine x_ldc2 dX9_as_11 kl_X9_96 ?_
  refine x_cSi dX9_as_14 ml_X9_98 mX9_isIn (ct_X9_isIn κ.2.1 g ((nI kd).toInt64) 0 7) rfl (Nat.le_of_ble_eq_true rfl) (by decide) (Nat.le_refl _) (Nat.le_refl _) ?_
  refine x_rei (wI (nI kd) 0 7) (inL_w (nI kd) 0 7 (by first | rfl | decide) (by first | rfl | decide)) ?_
  refine x_rei 1 (show wI (nI kd) 0 7 = 1 from wI_nat (n := kd) (a := 0) (b := 7) ⟨by omega, by omega, by omega, by omega⟩) ?_
  refine x_if_ne dX9_as_17 (fun c17 => ?_) (fun c17 => ?_)
  rotate_left
  · exact absurd c17 (by decide)
  refine x_aload_n dX9_as_27 rfl ?_
  refine x_get dX9_as_28 0 0 inX9 fl_X9_7 rfl rfl (by decide) rfl ?_
  refine x_bipush 20 dX9_as_31 (by decide) ?_
  refine x_iload_n dX9_as_33 rfl ?_
  refine x_iadd dX9_as_34 ?_
  refine x_rei (nI (20 + q)) (nI_iadd 20 q) ?_
  refine x_iald dX9_as_35 2 (20 + q) rfl (rfl) (by omega) (by decide) ?_
  refine x_rei (nI (ki q)) (msg_ki (x := q) (by omega) (by omega)) ?_
  refine x_rei (4) (congrArg nI hki) ?_
  refine x_istore_n (lv' := [some (.ref aN), some (.int (nI q)), some (.int (nI kd)), some (.int 4)]) dX9_as_36 (xlt rfl) rfl ?_
  refine x_iload_n dX9_as_37 rfl ?_
  refine x_if_lt dX9_as_38 (fun c38 => ?_) (fun c38 => ?_)
  · exact absurd c38 (by decide)
  refine x_iload_n dX9_as_41 rfl ?_
  refine x_iload_n dX9_as_42 rfl ?_
  refine x_icmp_eq dX9_as_43 (fun c43 => ?_) (fun c43 => ?_)
  · have c43 : 4 = (nI kd) := c43
    exact absurd hu (by clear hu; rw [← c43]; decide)
  · have c43 : ¬ (4 = (nI kd)) := c43
    refine x_iload_n dX9_as_46 rfl ?_
    refine x_cSi dX9_as_47 ml_X9_108 mX9_above (ct_above_4 κ.2.1 g ) rfl (Nat.le_of_ble_eq_true rfl) (by decide) (Nat.le_refl _) (Nat.le_refl _) ?_
    refine x_istore_n (lv' := [some (.ref aN), some (.int (nI q)), some (.int (nI kd)), some (.int 0)]) dX9_as_50 (xlt rfl) rfl ?_
    refine x_goto dX9_as_51 ?_
    refine x_iload_n dX9_as_37 rfl ?_
    refine x_if_lt dX9_as_38 (fun c38 => ?_) (fun c38 => ?_)
    · exact absurd c38 (by decide)
    refine x_iload_n dX9_as_41 rfl ?_
    refine x_iload_n dX9_as_42 rfl ?_
    refine x_icmp_eq dX9_as_43 (fun c43 => ?_) (fun c43 => ?_)
    · have c43 : 0 = (nI kd) := c43
      exact absurd hu (by clear hu; rw [← c43]; decide)
    · have c43 : ¬ (0 = (nI kd)) := c43
      refine x_iload_n dX9_as_46 rfl ?_
      refine x_cSi dX9_as_47 ml_X9_108 mX9_above (ct_above_0 κ.2.1 g ) rfl (Nat.le_of_ble_eq_true rfl) (by decide) (Nat.le_refl _) (Nat.le_refl _) ?_
      refine x_istore_n (lv' := [some (.ref aN), some (.int (nI q)), some (.int (nI kd)), some (.int ((-1)))]) dX9_as_50 (xlt rfl) rfl ?_
      refine x_goto dX9_as_51 ?_
      refine x_iload_n dX9_as_37 rfl ?_
      refine x_if_lt dX9_as_38 (fun c38 => ?_) (fun c38 => ?_)
      rotate_left
      · exact absurd c38 (by decide)
      refine x_iload_n dX9_as_54 rfl ?_
      refine x_if_ge dX9_as_55 (fun c55 => ?_) (fun c55 => ?_)
      · exact absurd c55 (by decide)
      refine x_aload_n dX9_as_58 rfl ?_
      refine x_ldc dX9_as_59 k_X9_111 ?_
      refine x_cVi (ws' := [(aN, .inr (9, [.ref aNs, .ref aNk, .int nkp, .ref aNf, .ref aNr, .ref aNp, .ref aNb, .ref aNa, .ref aNt, .int (nI nts), .ref aNbo, .ref aNsz, .ref aNnu, .int (nI nta), .int (nI nop), .int nbd, .int ntp, .int (nI npr), .int nnw, .int nsn, .int nwn, .ref aNl, .ref aNal, .ref aNlo, .int (nI nac), .ref aNw, .ref aNtr, .ref aNis, .ref aNbg, .ref aNow])), (aNf, .inl (g.2.1 0, 8, .inl (nIf (fnF (updN fi 2 (fi 2 + 1)))))), (aNs, .inl (g.2.1 0, 919, .inl (msF gr wk z lk sz br ru ki ma bb ce hd)))]) dX9_as_61 ml_X9_88 mX9_finds (ct_finds_2 κ.2.1 g aN aNs aNk aNf aNr aNp aNb aNa aNt aNbo aNsz aNnu aNl aNal aNlo aNw aNtr aNis aNbg aNow nts nta nop npr nac nkp nbd ntp nnw nsn nwn fi) [0, 1] rfl rfl 0 rfl rfl rfl (Nat.le_of_ble_eq_true rfl) (by decide) (Nat.le_refl _) (Nat.le_refl _) (rfl : [aN, aNf] = [aN, aNf]) rfl ?_
      refine x_goto dX9_as_64 ?_
      rw [← hQ]
      refine x_iret dX9_as_76 rfl (Nat.le_of_ble_eq_true rfl) (Nat.le_of_ble_eq_true rfl) ?_
      exact ⟨rfl, rfl⟩

-- == nas_o4 ==
set_option maxRecDepth 100000 in
set_option maxHeartbeats 4000000 in
theorem ct_nas_o4 (l : Launch) (g : XG) (aN aNs aNk aNf aNr aNp aNb aNa aNt aNbo aNsz aNnu aNl aNal aNlo aNw aNtr aNis aNbg aNow nts nta nop npr nac : Nat) (nkp nbd ntp nnw nsn nwn : Int32) (fi : Nat → Nat) (gr wk lk sz br : Nat) (z : Int32) (ru ki ma bb hd : Nat → Nat) (ce : Nat → Int32) (q kd : Nat) (hq : q < gr ∧ gr ≤ 12) (hkd : kd ≤ 7) (hki : ki q = 4) (hu : udI 4 (nI kd) = 1) : Ct l g 30 0 0 yX9_as cX9_as 4 (some .int) [.ref aN, .int (nI q), .int (nI kd)] [(aN, .inr (9, [.ref aNs, .ref aNk, .int nkp, .ref aNf, .ref aNr, .ref aNp, .ref aNb, .ref aNa, .ref aNt, .int (nI nts), .ref aNbo, .ref aNsz, .ref aNnu, .int (nI nta), .int (nI nop), .int nbd, .int ntp, .int (nI npr), .int nnw, .int nsn, .int nwn, .ref aNl, .ref aNal, .ref aNlo, .int (nI nac), .ref aNw, .ref aNtr, .ref aNis, .ref aNbg, .ref aNow])), (aNf, .inl (g.2.1 0, 8, .inl (nIf (fnF fi)))), (aNs, .inl (g.2.1 0, 919, .inl (msF gr wk z lk sz br ru ki ma bb ce hd)))] (xpi (nI (ma q)) [(aN, .inr (9, [.ref aNs, .ref aNk, .int nkp, .ref aNf, .ref aNr, .ref aNp, .ref aNb, .ref aNa, .ref aNt, .int (nI nts), .ref aNbo, .ref aNsz, .ref aNnu, .int (nI nta), .int (nI nop), .int nbd, .int ntp, .int (nI npr), .int nnw, .int nsn, .int nwn, .ref aNl, .ref aNal, .ref aNlo, .int (nI nac), .ref aNw, .ref aNtr, .ref aNis, .ref aNbg, .ref aNow])), (aNf, .inl (g.2.1 0, 8, .inl (nIf (fnF fi)))), (aNs, .inl (g.2.1 0, 919, .inl (msF gr wk z lk sz br ru ki ma bb ce hd)))]) := by
  refine Ct.ofX (lv := [some (.ref aN), some (.int (nI q)), some (.int (nI kd)), none]) (by decide) rfl (Nat.le_of_ble_eq_true rfl) (fun κ => ?_)
  generalize hQ : xQ κ g 0 0 _ = Q
  refine x_aload_n dX9_as_0 rfl ?_
  refine x_iload_n dX9_as_1 rfl ?_
  refine x_cVi0 dX9_as_2 ml_X9_105 mX9_isPeople (ct_nPeople_n κ.2.1 g aN aNs aNk aNf aNr aNp aNb aNa aNt aNbo aNsz aNnu aNl aNal aNlo aNw aNtr aNis aNbg aNow nts nta nop npr nac nkp nbd ntp nnw nsn nwn gr wk lk sz br z ru ki ma bb hd ce q (hq)) [0, 2] rfl rfl 0 rfl rfl rfl (Nat.le_of_ble_eq_true rfl) (by decide) (Nat.le_refl _) (Nat.le_refl _) ?_
  refine x_if_eq dX9_as_5 (fun c5 => ?_) (fun c5 => ?_)
  · exact absurd c5 (by decide)
  refine x_iload_n dX9_as_8 rfl ?_
  refine x_i2l dX9_as_9 ?_
  refine x_lconst 0 dX9_as_10 (by decide) ?_
  refine x_ldc2 dX9_as_11 kl_X9_96 ?_
  refine x_cSi dX9_as_14 ml_X9_98 mX9_isIn (ct_X9_isIn κ.2.1 g ((nI kd).toInt64) 0 7) rfl (Nat.le_of_ble_eq_true rfl) (by decide) (Nat.le_refl _) (Nat.le_refl _) ?_
  refine x_rei (wI (nI kd) 0 7) (inL_w (nI kd) 0 7 (by first | rfl | decide) (by first | rfl | decide)) ?_
  refine x_rei 1 (show wI (nI kd) 0 7 = 1 from wI_nat (n := kd) (a := 0) (b := 7) ⟨by omega, by omega, by omega, by omega⟩) ?_
  refine x_if_ne dX9_as_17 (fun c17 => ?_) (fun c17 => ?_)
  rotate_left
  · exact absurd c17 (by decide)
  refine x_aload_n dX9_as_27 rfl ?_
  refine x_get dX9_as_28 0 0 inX9 fl_X9_7 rfl rfl (by decide) rfl ?_
  refine x_bipush 20 dX9_as_31 (by decide) ?_
  refine x_iload_n dX9_as_33 rfl ?_
  refine x_iadd dX9_as_34 ?_
  refine x_rei (nI (20 + q)) (nI_iadd 20 q) ?_
  refine x_iald dX9_as_35 2 (20 + q) rfl (rfl) (by omega) (by decide) ?_
  refine x_rei (nI (ki q)) (msg_ki (x := q) (by omega) (by omega)) ?_
  refine x_rei (4) (congrArg nI hki) ?_
  refine x_istore_n (lv' := [some (.ref aN), some (.int (nI q)), some (.int (nI kd)), some (.int 4)]) dX9_as_36 (xlt rfl) rfl ?_
  refine x_iload_n dX9_as_37 rfl ?_
  refine x_if_lt dX9_as_38 (fun c38 => ?_) (fun c38 => ?_)
  · exact absurd c38 (by decide)
  refine x_iload_n dX9_as_41 rfl ?_
  refine x_iload_n dX9_as_42 rfl ?_
  refine x_icmp_eq dX9_as_43 (fun c43 => ?_) (fun c43 => ?_)
  · have c43 : 4 = (nI kd) := c43
    refine x_iload_n dX9_as_54 rfl ?_
    refine x_if_ge dX9_as_55 (fun c55 => ?_) (fun c55 => ?_)
    rotate_left
    · exact absurd c55 (by decide)
    refine x_aload_n dX9_as_67 rfl ?_
    refine x_get dX9_as_68 0 0 inX9 fl_X9_7 rfl rfl (by decide) rfl ?_
    refine x_bipush 32 dX9_as_71 (by decide) ?_
    refine x_iload_n dX9_as_73 rfl ?_
    refine x_iadd dX9_as_74 ?_
    refine x_rei (nI (32 + q)) (nI_iadd 32 q) ?_
    refine x_iald dX9_as_75 2 (32 + q) rfl (rfl) (by omega) (by decide) ?_
    refine x_rei (nI (ma q)) (msg_ma (x := q) (by omega) (by omega)) ?_
    rw [← hQ]
    refine x_iret dX9_as_76 rfl (Nat.le_of_ble_eq_true rfl) (Nat.le_of_ble_eq_true rfl) ?_
    exact ⟨rfl, rfl⟩
  · have c43 : ¬ (4 = (nI kd)) := c43
    refine x_iload_n dX9_as_46 rfl ?_
    refine x_cSi dX9_as_47 ml_X9_108 mX9_above (ct_above_4 κ.2.1 g ) rfl (Nat.le_of_ble_eq_true rfl) (by decide) (Nat.le_refl _) (Nat.le_refl _) ?_
    refine x_istore_n (lv' := [some (.ref aN), some (.int (nI q)), some (.int (nI kd)), some (.int 0)]) dX9_as_50 (xlt rfl) rfl ?_
    refine x_goto dX9_as_51 ?_
    refine x_iload_n dX9_as_37 rfl ?_
    refine x_if_lt dX9_as_38 (fun c38 => ?_) (fun c38 => ?_)
    · exact absurd c38 (by decide)
    refine x_iload_n dX9_as_41 rfl ?_
    refine x_iload_n dX9_as_42 rfl ?_
    refine x_icmp_eq dX9_as_43 (fun c43 => ?_) (fun c43 => ?_)
    · have c43 : 0 = (nI kd) := c43
      refine x_iload_n dX9_as_54 rfl ?_
      refine x_if_ge dX9_as_55 (fun c55 => ?_) (fun c55 => ?_)
      rotate_left
      · exact absurd c55 (by decide)
      refine x_aload_n dX9_as_67 rfl ?_
      refine x_get dX9_as_68 0 0 inX9 fl_X9_7 rfl rfl (by decide) rfl ?_
      refine x_bipush 32 dX9_as_71 (by decide) ?_
      refine x_iload_n dX9_as_73 rfl ?_
      refine x_iadd dX9_as_74 ?_
      refine x_rei (nI (32 + q)) (nI_iadd 32 q) ?_
      refine x_iald dX9_as_75 2 (32 + q) rfl (rfl) (by omega) (by decide) ?_
      refine x_rei (nI (ma q)) (msg_ma (x := q) (by omega) (by omega)) ?_
      rw [← hQ]
      refine x_iret dX9_as_76 rfl (Nat.le_of_ble_eq_true rfl) (Nat.le_of_ble_eq_true rfl) ?_
      exact ⟨rfl, rfl⟩
    · have c43 : ¬ (0 = (nI kd)) := c43
      refine x_iload_n dX9_as_46 rfl ?_
      refine x_cSi dX9_as_47 ml_X9_108 mX9_above (ct_above_0 κ.2.1 g ) rfl (Nat.le_of_ble_eq_true rfl) (by decide) (Nat.le_refl _) (Nat.le_refl _) ?_
      refine x_istore_n (lv' := [some (.ref aN), some (.int (nI q)), some (.int (nI kd)), some (.int ((-1)))]) dX9_as_50 (xlt rfl) rfl ?_
      refine x_goto dX9_as_51 ?_
      refine x_iload_n dX9_as_37 rfl ?_
      refine x_if_lt dX9_as_38 (fun c38 => ?_) (fun c38 => ?_)
      rotate_left
      · exact absurd c38 (by decide)
      refine x_iload_n dX9_as_54 rfl ?_
      refine x_if_ge dX9_as_55 (fun c55 => ?_) (fun c55 => ?_)
      · exact absurd c55 (by decide)
      exact absurd hu (by clear hu; simp [udI, *])

-- == nas_k5 ==
set_option maxRecDepth 100000 in
set_option maxHeartbeats 4000000 in
theorem ct_nas_k5 (l : Launch) (g : XG) (aN aNs aNk aNf aNr aNp aNb aNa aNt aNbo aNsz aNnu aNl aNal aNlo aNw aNtr aNis aNbg aNow nts nta nop npr nac : Nat) (nkp nbd ntp nnw nsn nwn : Int32) (fi : Nat → Nat) (gr wk lk sz br : Nat) (z : Int32) (ru ki ma bb hd : Nat → Nat) (ce : Nat → Int32) (q kd : Nat) (hq : q < gr ∧ gr ≤ 12) (hkd : kd ≤ 7) (hki : ki q = 5) (hu : udI 5 (nI kd) = 0) : Ct l g 30 0 0 yX9_as cX9_as 4 (some .int) [.ref aN, .int (nI q), .int (nI kd)] [(aN, .inr (9, [.ref aNs, .ref aNk, .int nkp, .ref aNf, .ref aNr, .ref aNp, .ref aNb, .ref aNa, .ref aNt, .int (nI nts), .ref aNbo, .ref aNsz, .ref aNnu, .int (nI nta), .int (nI nop), .int nbd, .int ntp, .int (nI npr), .int nnw, .int nsn, .int nwn, .ref aNl, .ref aNal, .ref aNlo, .int (nI nac), .ref aNw, .ref aNtr, .ref aNis, .ref aNbg, .ref aNow])), (aNf, .inl (g.2.1 0, 8, .inl (nIf (fnF fi)))), (aNs, .inl (g.2.1 0, 919, .inl (msF gr wk z lk sz br ru ki ma bb ce hd)))] (xpi (fndI 2) [(aN, .inr (9, [.ref aNs, .ref aNk, .int nkp, .ref aNf, .ref aNr, .ref aNp, .ref aNb, .ref aNa, .ref aNt, .int (nI nts), .ref aNbo, .ref aNsz, .ref aNnu, .int (nI nta), .int (nI nop), .int nbd, .int ntp, .int (nI npr), .int nnw, .int nsn, .int nwn, .ref aNl, .ref aNal, .ref aNlo, .int (nI nac), .ref aNw, .ref aNtr, .ref aNis, .ref aNbg, .ref aNow])), (aNf, .inl (g.2.1 0, 8, .inl (nIf (fnF (updN fi 2 (fi 2 + 1)))))), (aNs, .inl (g.2.1 0, 919, .inl (msF gr wk z lk sz br ru ki ma bb ce hd)))]) := by
  refine Ct.ofX (lv := [some (.ref aN), some (.int (nI q)), some (.int (nI kd)), none]) (by decide) rfl (Nat.le_of_ble_eq_true rfl) (fun κ => ?_)
  generalize hQ : xQ κ g 0 0 _ = Q
  refine x_aload_n dX9_as_0 rfl ?_
  refine x_iload_n dX9_as_1 rfl ?_
  refine x_cVi0 dX9_as_2 ml_X9_105 mX9_isPeople (ct_nPeople_n κ.2.1 g aN aNs aNk aNf aNr aNp aNb aNa aNt aNbo aNsz aNnu aNl aNal aNlo aNw aNtr aNis aNbg aNow nts nta nop npr nac nkp nbd ntp nnw nsn nwn gr wk lk sz br z ru ki ma bb hd ce q (hq)) [0, 2] rfl rfl 0 rfl rfl rfl (Nat.le_of_ble_eq_true rfl) (by decide) (Nat.le_refl _) (Nat.le_refl _) ?_
  refine x_if_eq dX9_as_5 (fun c5 => ?_) (fun c5 => ?_)
  · exact absurd c5 (by decide)
  refine x_iload_n dX9_as_8 rfl ?_
  refine x_i2l dX9_as_9 ?_
  refine x_lconst 0 dX9_as_10 (by decide) ?_
  refine x_ldc2 dX9_as_11 kl_X9_96 ?_
  refine x_cSi dX9_as_14 ml_X9_98 mX9_isIn (ct_X9_isIn κ.2.1 g ((nI kd).toInt64) 0 7) rfl (Nat.le_of_ble_eq_true rfl) (by decide) (Nat.le_refl _) (Nat.le_refl _) ?_
  refine x_rei (wI (nI kd) 0 7) (inL_w (nI kd) 0 7 (by first | rfl | decide) (by first | rfl | decide)) ?_
  refine x_rei 1 (show wI (nI kd) 0 7 = 1 from wI_nat (n := kd) (a := 0) (b := 7) ⟨by omega, by omega, by omega, by omega⟩) ?_
  refine x_if_ne dX9_as_17 (fun c17 => ?_) (fun c17 => ?_)
  rotate_left
  · exact absurd c17 (by decide)
  refine x_aload_n dX9_as_27 rfl ?_
  refine x_get dX9_as_28 0 0 inX9 fl_X9_7 rfl rfl (by decide) rfl ?_
  refine x_bipush 20 dX9_as_31 (by decide) ?_
  refine x_iload_n dX9_as_33 rfl ?_
  refine x_iadd dX9_as_34 ?_
  refine x_rei (nI (20 + q)) (nI_iadd 20 q) ?_
  refine x_iald dX9_as_35 2 (20 + q) rfl (rfl) (by omega) (by decide) ?_
  refine x_rei (nI (ki q)) (msg_ki (x := q) (by omega) (by omega)) ?_
  refine x_rei (5) (congrArg nI hki) ?_
  refine x_istore_n (lv' := [some (.ref aN), some (.int (nI q)), some (.int (nI kd)), some (.int 5)]) dX9_as_36 (xlt rfl) rfl ?_
  refine x_iload_n dX9_as_37 rfl ?_
  refine x_if_lt dX9_as_38 (fun c38 => ?_) (fun c38 => ?_)
  · exact absurd c38 (by decide)
  refine x_iload_n dX9_as_41 rfl ?_
  refine x_iload_n dX9_as_42 rfl ?_
  refine x_icmp_eq dX9_as_43 (fun c43 => ?_) (fun c43 => ?_)
  · have c43 : 5 = (nI kd) := c43
    exact absurd hu (by clear hu; rw [← c43]; decide)
  · have c43 : ¬ (5 = (nI kd)) := c43
    refine x_iload_n dX9_as_46 rfl ?_
    refine x_cSi dX9_as_47 ml_X9_108 mX9_above (ct_above_5 κ.2.1 g ) rfl (Nat.le_of_ble_eq_true rfl) (by decide) (Nat.le_refl _) (Nat.le_refl _) ?_
    refine x_istore_n (lv' := [some (.ref aN), some (.int (nI q)), some (.int (nI kd)), some (.int 1)]) dX9_as_50 (xlt rfl) rfl ?_
    refine x_goto dX9_as_51 ?_
    refine x_iload_n dX9_as_37 rfl ?_
    refine x_if_lt dX9_as_38 (fun c38 => ?_) (fun c38 => ?_)
    · exact absurd c38 (by decide)
    refine x_iload_n dX9_as_41 rfl ?_
    refine x_iload_n dX9_as_42 rfl ?_
    refine x_icmp_eq dX9_as_43 (fun c43 => ?_) (fun c43 => ?_)
    · have c43 : 1 = (nI kd) := c43
      exact absurd hu (by clear hu; rw [← c43]; decide)
    · have c43 : ¬ (1 = (nI kd)) := c43
      refine x_iload_n dX9_as_46 rfl ?_
      refine x_cSi dX9_as_47 ml_X9_108 mX9_above (ct_above_1 κ.2.1 g ) rfl (Nat.le_of_ble_eq_true rfl) (by decide) (Nat.le_refl _) (Nat.le_refl _) ?_
      refine x_istore_n (lv' := [some (.ref aN), some (.int (nI q)), some (.int (nI kd)), some (.int 0)]) dX9_as_50 (xlt rfl) rfl ?_
      refine x_goto dX9_as_51 ?_
      refine x_iload_n dX9_as_37 rfl ?_
      refine x_if_lt dX9_as_38 (fun c38 => ?_) (fun c38 => ?_)
      · exact absurd c38 (by decide)
      refine x_iload_n dX9_as_41 rfl ?_
      refine x_iload_n dX9_as_42 rfl ?_
      refine x_icmp_eq dX9_as_43 (fun c43 => ?_) (fun c43 => ?_)
      · have c43 : 0 = (nI kd) := c43
        exact absurd hu (by clear hu; rw [← c43]; decide)
      · have c43 : ¬ (0 = (nI kd)) := c43
        refine x_iload_n dX9_as_46 rfl ?_
        refine x_cSi dX9_as_47 ml_X9_108 mX9_above (ct_above_0 κ.2.1 g ) rfl (Nat.le_of_ble_eq_true rfl) (by decide) (Nat.le_refl _) (Nat.le_refl _) ?_
        refine x_istore_n (lv' := [some (.ref aN), some (.int (nI q)), some (.int (nI kd)), some (.int ((-1)))]) dX9_as_50 (xlt rfl) rfl ?_
        refine x_goto dX9_as_51 ?_
        refine x_iload_n dX9_as_37 rfl ?_
        refine x_if_lt dX9_as_38 (fun c38 => ?_) (fun c38 => ?_)
        rotate_left
        · exact absurd c38 (by decide)
        refine x_iload_n dX9_as_54 rfl ?_
        refine x_if_ge dX9_as_55 (fun c55 => ?_) (fun c55 => ?_)
        · exact absurd c55 (by decide)
        refine x_aload_n dX9_as_58 rfl ?_
        refine x_ldc dX9_as_59 k_X9_111 ?_
        refine x_cVi (ws' := [(aN, .inr (9, [.ref aNs, .ref aNk, .int nkp, .ref aNf, .ref aNr, .ref aNp, .ref aNb, .ref aNa, .ref aNt, .int (nI nts), .ref aNbo, .ref aNsz, .ref aNnu, .int (nI nta), .int (nI nop), .int nbd, .int ntp, .int (nI npr), .int nnw, .int nsn, .int nwn, .ref aNl, .ref aNal, .ref aNlo, .int (nI nac), .ref aNw, .ref aNtr, .ref aNis, .ref aNbg, .ref aNow])), (aNf, .inl (g.2.1 0, 8, .inl (nIf (fnF (updN fi 2 (fi 2 + 1)))))), (aNs, .inl (g.2.1 0, 919, .inl (msF gr wk z lk sz br ru ki ma bb ce hd)))]) dX9_as_61 ml_X9_88 mX9_finds (ct_finds_2 κ.2.1 g aN aNs aNk aNf aNr aNp aNb aNa aNt aNbo aNsz aNnu aNl aNal aNlo aNw aNtr aNis aNbg aNow nts nta nop npr nac nkp nbd ntp nnw nsn nwn fi) [0, 1] rfl rfl 0 rfl rfl rfl (Nat.le_of_ble_eq_true rfl) (by decide) (Nat.le_refl _) (Nat.le_refl _) (rfl : [aN, aNf] = [aN, aNf]) rfl ?_
        refine x_goto dX9_as_64 ?_
        rw [← hQ]
        refine x_iret dX9_as_76 rfl (Nat.le_of_ble_eq_true rfl) (Nat.le_of_ble_eq_true rfl) ?_
        exact ⟨rfl, rfl⟩

-- == nas_o5 ==
set_option maxRecDepth 100000 in
set_option maxHeartbeats 4000000 in
theorem ct_nas_o5 (l : Launch) (g : XG) (aN aNs aNk aNf aNr aNp aNb aNa aNt aNbo aNsz aNnu aNl aNal aNlo aNw aNtr aNis aNbg aNow nts nta nop npr nac : Nat) (nkp nbd ntp nnw nsn nwn : Int32) (fi : Nat → Nat) (gr wk lk sz br : Nat) (z : Int32) (ru ki ma bb hd : Nat → Nat) (ce : Nat → Int32) (q kd : Nat) (hq : q < gr ∧ gr ≤ 12) (hkd : kd ≤ 7) (hki : ki q = 5) (hu : udI 5 (nI kd) = 1) : Ct l g 30 0 0 yX9_as cX9_as 4 (some .int) [.ref aN, .int (nI q), .int (nI kd)] [(aN, .inr (9, [.ref aNs, .ref aNk, .int nkp, .ref aNf, .ref aNr, .ref aNp, .ref aNb, .ref aNa, .ref aNt, .int (nI nts), .ref aNbo, .ref aNsz, .ref aNnu, .int (nI nta), .int (nI nop), .int nbd, .int ntp, .int (nI npr), .int nnw, .int nsn, .int nwn, .ref aNl, .ref aNal, .ref aNlo, .int (nI nac), .ref aNw, .ref aNtr, .ref aNis, .ref aNbg, .ref aNow])), (aNf, .inl (g.2.1 0, 8, .inl (nIf (fnF fi)))), (aNs, .inl (g.2.1 0, 919, .inl (msF gr wk z lk sz br ru ki ma bb ce hd)))] (xpi (nI (ma q)) [(aN, .inr (9, [.ref aNs, .ref aNk, .int nkp, .ref aNf, .ref aNr, .ref aNp, .ref aNb, .ref aNa, .ref aNt, .int (nI nts), .ref aNbo, .ref aNsz, .ref aNnu, .int (nI nta), .int (nI nop), .int nbd, .int ntp, .int (nI npr), .int nnw, .int nsn, .int nwn, .ref aNl, .ref aNal, .ref aNlo, .int (nI nac), .ref aNw, .ref aNtr, .ref aNis, .ref aNbg, .ref aNow])), (aNf, .inl (g.2.1 0, 8, .inl (nIf (fnF fi)))), (aNs, .inl (g.2.1 0, 919, .inl (msF gr wk z lk sz br ru ki ma bb ce hd)))]) := by
  refine Ct.ofX (lv := [some (.ref aN), some (.int (nI q)), some (.int (nI kd)), none]) (by decide) rfl (Nat.le_of_ble_eq_true rfl) (fun κ => ?_)
  generalize hQ : xQ κ g 0 0 _ = Q
  refine x_aload_n dX9_as_0 rfl ?_
  refine x_iload_n dX9_as_1 rfl ?_
  refine x_cVi0 dX9_as_2 ml_X9_105 mX9_isPeople (ct_nPeople_n κ.2.1 g aN aNs aNk aNf aNr aNp aNb aNa aNt aNbo aNsz aNnu aNl aNal aNlo aNw aNtr aNis aNbg aNow nts nta nop npr nac nkp nbd ntp nnw nsn nwn gr wk lk sz br z ru ki ma bb hd ce q (hq)) [0, 2] rfl rfl 0 rfl rfl rfl (Nat.le_of_ble_eq_true rfl) (by decide) (Nat.le_refl _) (Nat.le_refl _) ?_
  refine x_if_eq dX9_as_5 (fun c5 => ?_) (fun c5 => ?_)
  · exact absurd c5 (by decide)
  refine x_iload_n dX9_as_8 rfl ?_
  refine x_i2l dX9_as_9 ?_
  refine x_lconst 0 dX9_as_10 (by decide) ?_
  refine x_ldc2 dX9_as_11 kl_X9_96 ?_
  refine x_cSi dX9_as_14 ml_X9_98 mX9_isIn (ct_X9_isIn κ.2.1 g ((nI kd).toInt64) 0 7) rfl (Nat.le_of_ble_eq_true rfl) (by decide) (Nat.le_refl _) (Nat.le_refl _) ?_
  refine x_rei (wI (nI kd) 0 7) (inL_w (nI kd) 0 7 (by first | rfl | decide) (by first | rfl | decide)) ?_
  refine x_rei 1 (show wI (nI kd) 0 7 = 1 from wI_nat (n := kd) (a := 0) (b := 7) ⟨by omega, by omega, by omega, by omega⟩) ?_
  refine x_if_ne dX9_as_17 (fun c17 => ?_) (fun c17 => ?_)
  rotate_left
  · exact absurd c17 (by decide)
  refine x_aload_n dX9_as_27 rfl ?_
  refine x_get dX9_as_28 0 0 inX9 fl_X9_7 rfl rfl (by decide) rfl ?_
  refine x_bipush 20 dX9_as_31 (by decide) ?_
  refine x_iload_n dX9_as_33 rfl ?_
  refine x_iadd dX9_as_34 ?_
  refine x_rei (nI (20 + q)) (nI_iadd 20 q) ?_
  refine x_iald dX9_as_35 2 (20 + q) rfl (rfl) (by omega) (by decide) ?_
  refine x_rei (nI (ki q)) (msg_ki (x := q) (by omega) (by omega)) ?_
  refine x_rei (5) (congrArg nI hki) ?_
  refine x_istore_n (lv' := [some (.ref aN), some (.int (nI q)), some (.int (nI kd)), some (.int 5)]) dX9_as_36 (xlt rfl) rfl ?_
  refine x_iload_n dX9_as_37 rfl ?_
  refine x_if_lt dX9_as_38 (fun c38 => ?_) (fun c38 => ?_)
  · exact absurd c38 (by decide)
  refine x_iload_n dX9_as_41 rfl ?_
  refine x_iload_n dX9_as_42 rfl ?_
  refine x_icmp_eq dX9_as_43 (fun c43 => ?_) (fun c43 => ?_)
  · have c43 : 5 = (nI kd) := c43
    refine x_iload_n dX9_as_54 rfl ?_
    refine x_if_ge dX9_as_55 (fun c55 => ?_) (fun c55 => ?_)
    rotate_left
    · exact absurd c55 (by decide)
    refine x_aload_n dX9_as_67 rfl ?_
    refine x_get dX9_as_68 0 0 inX9 fl_X9_7 rfl rfl (by decide) rfl ?_
    refine x_bipush 32 dX9_as_71 (by decide) ?_
    refine x_iload_n dX9_as_73 rfl ?_
    refine x_iadd dX9_as_74 ?_
    refine x_rei (nI (32 + q)) (nI_iadd 32 q) ?_
    refine x_iald dX9_as_75 2 (32 + q) rfl (rfl) (by omega) (by decide) ?_
    refine x_rei (nI (ma q)) (msg_ma (x := q) (by omega) (by omega)) ?_
    rw [← hQ]
    refine x_iret dX9_as_76 rfl (Nat.le_of_ble_eq_true rfl) (Nat.le_of_ble_eq_true rfl) ?_
    exact ⟨rfl, rfl⟩
  · have c43 : ¬ (5 = (nI kd)) := c43
    refine x_iload_n dX9_as_46 rfl ?_
    refine x_cSi dX9_as_47 ml_X9_108 mX9_above (ct_above_5 κ.2.1 g ) rfl (Nat.le_of_ble_eq_true rfl) (by decide) (Nat.le_refl _) (Nat.le_refl _) ?_
    refine x_istore_n (lv' := [some (.ref aN), some (.int (nI q)), some (.int (nI kd)), some (.int 1)]) dX9_as_50 (xlt rfl) rfl ?_
    refine x_goto dX9_as_51 ?_
    refine x_iload_n dX9_as_37 rfl ?_
    refine x_if_lt dX9_as_38 (fun c38 => ?_) (fun c38 => ?_)
    · exact absurd c38 (by decide)
    refine x_iload_n dX9_as_41 rfl ?_
    refine x_iload_n dX9_as_42 rfl ?_
    refine x_icmp_eq dX9_as_43 (fun c43 => ?_) (fun c43 => ?_)
    · have c43 : 1 = (nI kd) := c43
      refine x_iload_n dX9_as_54 rfl ?_
      refine x_if_ge dX9_as_55 (fun c55 => ?_) (fun c55 => ?_)
      rotate_left
      · exact absurd c55 (by decide)
      refine x_aload_n dX9_as_67 rfl ?_
      refine x_get dX9_as_68 0 0 inX9 fl_X9_7 rfl rfl (by decide) rfl ?_
      refine x_bipush 32 dX9_as_71 (by decide) ?_
      refine x_iload_n dX9_as_73 rfl ?_
      refine x_iadd dX9_as_74 ?_
      refine x_rei (nI (32 + q)) (nI_iadd 32 q) ?_
      refine x_iald dX9_as_75 2 (32 + q) rfl (rfl) (by omega) (by decide) ?_
      refine x_rei (nI (ma q)) (msg_ma (x := q) (by omega) (by omega)) ?_
      rw [← hQ]
      refine x_iret dX9_as_76 rfl (Nat.le_of_ble_eq_true rfl) (Nat.le_of_ble_eq_true rfl) ?_
      exact ⟨rfl, rfl⟩
    · have c43 : ¬ (1 = (nI kd)) := c43
      refine x_iload_n dX9_as_46 rfl ?_
      refine x_cSi dX9_as_47 ml_X9_108 mX9_above (ct_above_1 κ.2.1 g ) rfl (Nat.le_of_ble_eq_true rfl) (by decide) (Nat.le_refl _) (Nat.le_refl _) ?_
      refine x_istore_n (lv' := [some (.ref aN), some (.int (nI q)), some (.int (nI kd)), some (.int 0)]) dX9_as_50 (xlt rfl) rfl ?_
      refine x_goto dX9_as_51 ?_
      refine x_iload_n dX9_as_37 rfl ?_
      refine x_if_lt dX9_as_38 (fun c38 => ?_) (fun c38 => ?_)
      · exact absurd c38 (by decide)
      refine x_iload_n dX9_as_41 rfl ?_
      refine x_iload_n dX9_as_42 rfl ?_
      refine x_icmp_eq dX9_as_43 (fun c43 => ?_) (fun c43 => ?_)
      · have c43 : 0 = (nI kd) := c43
        refine x_iload_n dX9_as_54 rfl ?_
        refine x_if_ge dX9_as_55 (fun c55 => ?_) (fun c55 => ?_)
        rotate_left
        · exact absurd c55 (by decide)
        refine x_aload_n dX9_as_67 rfl ?_
        refine x_get dX9_as_68 0 0 inX9 fl_X9_7 rfl rfl (by decide) rfl ?_
        refine x_bipush 32 dX9_as_71 (by decide) ?_
        refine x_iload_n dX9_as_73 rfl ?_
        refine x_iadd dX9_as_74 ?_
        refine x_rei (nI (32 + q)) (nI_iadd 32 q) ?_
        refine x_iald dX9_as_75 2 (32 + q) rfl (rfl) (by omega) (by decide) ?_
        refine x_rei (nI (ma q)) (msg_ma (x := q) (by omega) (by omega)) ?_
        rw [← hQ]
        refine x_iret dX9_as_76 rfl (Nat.le_of_ble_eq_true rfl) (Nat.le_of_ble_eq_true rfl) ?_
        exact ⟨rfl, rfl⟩
      · have c43 : ¬ (0 = (nI kd)) := c43
        refine x_iload_n dX9_as_46 rfl ?_
        refine x_cSi dX9_as_47 ml_X9_108 mX9_above (ct_above_0 κ.2.1 g ) rfl (Nat.le_of_ble_eq_true rfl) (by decide) (Nat.le_refl _) (Nat.le_refl _) ?_
        refine x_istore_n (lv' := [some (.ref aN), some (.int (nI q)), some (.int (nI kd)), some (.int ((-1)))]) dX9_as_50 (xlt rfl) rfl ?_
        refine x_goto dX9_as_51 ?_
        refine x_iload_n dX9_as_37 rfl ?_
        refine x_if_lt dX9_as_38 (fun c38 => ?_) (fun c38 => ?_)
        rotate_left
        · exact absurd c38 (by decide)
        refine x_iload_n dX9_as_54 rfl ?_
        refine x_if_ge dX9_as_55 (fun c55 => ?_) (fun c55 => ?_)
        · exact absurd c55 (by decide)
        exact absurd hu (by clear hu; simp [udI, *])

-- == nas_k6 ==
set_option maxRecDepth 100000 in
set_option maxHeartbeats 4000000 in
theorem ct_nas_k6 (l : Launch) (g : XG) (aN aNs aNk aNf aNr aNp aNb aNa aNt aNbo aNsz aNnu aNl aNal aNlo aNw aNtr aNis aNbg aNow nts nta nop npr nac : Nat) (nkp nbd ntp nnw nsn nwn : Int32) (fi : Nat → Nat) (gr wk lk sz br : Nat) (z : Int32) (ru ki ma bb hd : Nat → Nat) (ce : Nat → Int32) (q kd : Nat) (hq : q < gr ∧ gr ≤ 12) (hkd : kd ≤ 7) (hki : ki q = 6) (hu : udI 6 (nI kd) = 0) : Ct l g 30 0 0 yX9_as cX9_as 4 (some .int) [.ref aN, .int (nI q), .int (nI kd)] [(aN, .inr (9, [.ref aNs, .ref aNk, .int nkp, .ref aNf, .ref aNr, .ref aNp, .ref aNb, .ref aNa, .ref aNt, .int (nI nts), .ref aNbo, .ref aNsz, .ref aNnu, .int (nI nta), .int (nI nop), .int nbd, .int ntp, .int (nI npr), .int nnw, .int nsn, .int nwn, .ref aNl, .ref aNal, .ref aNlo, .int (nI nac), .ref aNw, .ref aNtr, .ref aNis, .ref aNbg, .ref aNow])), (aNf, .inl (g.2.1 0, 8, .inl (nIf (fnF fi)))), (aNs, .inl (g.2.1 0, 919, .inl (msF gr wk z lk sz br ru ki ma bb ce hd)))] (xpi (fndI 2) [(aN, .inr (9, [.ref aNs, .ref aNk, .int nkp, .ref aNf, .ref aNr, .ref aNp, .ref aNb, .ref aNa, .ref aNt, .int (nI nts), .ref aNbo, .ref aNsz, .ref aNnu, .int (nI nta), .int (nI nop), .int nbd, .int ntp, .int (nI npr), .int nnw, .int nsn, .int nwn, .ref aNl, .ref aNal, .ref aNlo, .int (nI nac), .ref aNw, .ref aNtr, .ref aNis, .ref aNbg, .ref aNow])), (aNf, .inl (g.2.1 0, 8, .inl (nIf (fnF (updN fi 2 (fi 2 + 1)))))), (aNs, .inl (g.2.1 0, 919, .inl (msF gr wk z lk sz br ru ki ma bb ce hd)))]) := by
  refine Ct.ofX (lv := [some (.ref aN), some (.int (nI q)), some (.int (nI kd)), none]) (by decide) rfl (Nat.le_of_ble_eq_true rfl) (fun κ => ?_)
  generalize hQ : xQ κ g 0 0 _ = Q
  refine x_aload_n dX9_as_0 rfl ?_
  refine x_iload_n dX9_as_1 rfl ?_
  refine x_cVi0 dX9_as_2 ml_X9_105 mX9_isPeople (ct_nPeople_n κ.2.1 g aN aNs aNk aNf aNr aNp aNb aNa aNt aNbo aNsz aNnu aNl aNal aNlo aNw aNtr aNis aNbg aNow nts nta nop npr nac nkp nbd ntp nnw nsn nwn gr wk lk sz br z ru ki ma bb hd ce q (hq)) [0, 2] rfl rfl 0 rfl rfl rfl (Nat.le_of_ble_eq_true rfl) (by decide) (Nat.le_refl _) (Nat.le_refl _) ?_
  refine x_if_eq dX9_as_5 (fun c5 => ?_) (fun c5 => ?_)
  · exact absurd c5 (by decide)
  refine x_iload_n dX9_as_8 rfl ?_
  refine x_i2l dX9_as_9 ?_
  refine x_lconst 0 dX9_as_10 (by decide) ?_
  refine x_ldc2 dX9_as_11 kl_X9_96 ?_
  refine x_cSi dX9_as_14 ml_X9_98 mX9_isIn (ct_X9_isIn κ.2.1 g ((nI kd).toInt64) 0 7) rfl (Nat.le_of_ble_eq_true rfl) (by decide) (Nat.le_refl _) (Nat.le_refl _) ?_
  refine x_rei (wI (nI kd) 0 7) (inL_w (nI kd) 0 7 (by first | rfl | decide) (by first | rfl | decide)) ?_
  refine x_rei 1 (show wI (nI kd) 0 7 = 1 from wI_nat (n := kd) (a := 0) (b := 7) ⟨by omega, by omega, by omega, by omega⟩) ?_
  refine x_if_ne dX9_as_17 (fun c17 => ?_) (fun c17 => ?_)
  rotate_left
  · exact absurd c17 (by decide)
  refine x_aload_n dX9_as_27 rfl ?_
  refine x_get dX9_as_28 0 0 inX9 fl_X9_7 rfl rfl (by decide) rfl ?_
  refine x_bipush 20 dX9_as_31 (by decide) ?_
  refine x_iload_n dX9_as_33 rfl ?_
  refine x_iadd dX9_as_34 ?_
  refine x_rei (nI (20 + q)) (nI_iadd 20 q) ?_
  refine x_iald dX9_as_35 2 (20 + q) rfl (rfl) (by omega) (by decide) ?_
  refine x_rei (nI (ki q)) (msg_ki (x := q) (by omega) (by omega)) ?_
  refine x_rei (6) (congrArg nI hki) ?_
  refine x_istore_n (lv' := [some (.ref aN), some (.int (nI q)), some (.int (nI kd)), some (.int 6)]) dX9_as_36 (xlt rfl) rfl ?_
  refine x_iload_n dX9_as_37 rfl ?_
  refine x_if_lt dX9_as_38 (fun c38 => ?_) (fun c38 => ?_)
  · exact absurd c38 (by decide)
  refine x_iload_n dX9_as_41 rfl ?_
  refine x_iload_n dX9_as_42 rfl ?_
  refine x_icmp_eq dX9_as_43 (fun c43 => ?_) (fun c43 => ?_)
  · have c43 : 6 = (nI kd) := c43
    exact absurd hu (by clear hu; rw [← c43]; decide)
  · have c43 : ¬ (6 = (nI kd)) := c43
    refine x_iload_n dX9_as_46 rfl ?_
    refine x_cSi dX9_as_47 ml_X9_108 mX9_above (ct_above_6 κ.2.1 g ) rfl (Nat.le_of_ble_eq_true rfl) (by decide) (Nat.le_refl _) (Nat.le_refl _) ?_
    refine x_istore_n (lv' := [some (.ref aN), some (.int (nI q)), some (.int (nI kd)), some (.int 3)]) dX9_as_50 (xlt rfl) rfl ?_
    refine x_goto dX9_as_51 ?_
    refine x_iload_n dX9_as_37 rfl ?_
    refine x_if_lt dX9_as_38 (fun c38 => ?_) (fun c38 => ?_)
    · exact absurd c38 (by decide)
    refine x_iload_n dX9_as_41 rfl ?_
    refine x_iload_n dX9_as_42 rfl ?_
    refine x_icmp_eq dX9_as_43 (fun c43 => ?_) (fun c43 => ?_)
    · have c43 : 3 = (nI kd) := c43
      exact absurd hu (by clear hu; rw [← c43]; decide)
    · have c43 : ¬ (3 = (nI kd)) := c43
      refine x_iload_n dX9_as_46 rfl ?_
      refine x_cSi dX9_as_47 ml_X9_108 mX9_above (ct_above_3 κ.2.1 g ) rfl (Nat.le_of_ble_eq_true rfl) (by decide) (Nat.le_refl _) (Nat.le_refl _) ?_
      refine x_istore_n (lv' := [some (.ref aN), some (.int (nI q)), some (.int (nI kd)), some (.int 0)]) dX9_as_50 (xlt rfl) rfl ?_
      refine x_goto dX9_as_51 ?_
      refine x_iload_n dX9_as_37 rfl ?_
      refine x_if_lt dX9_as_38 (fun c38 => ?_) (fun c38 => ?_)
      · exact absurd c38 (by decide)
      refine x_iload_n dX9_as_41 rfl ?_
      refine x_iload_n dX9_as_42 rfl ?_
      refine x_icmp_eq dX9_as_43 (fun c43 => ?_) (fun c43 => ?_)
      · have c43 : 0 = (nI kd) := c43
        exact absurd hu (by clear hu; rw [← c43]; decide)
      · have c43 : ¬ (0 = (nI kd)) := c43
        refine x_iload_n dX9_as_46 rfl ?_
        refine x_cSi dX9_as_47 ml_X9_108 mX9_above (ct_above_0 κ.2.1 g ) rfl (Nat.le_of_ble_eq_true rfl) (by decide) (Nat.le_refl _) (Nat.le_refl _) ?_
        refine x_istore_n (lv' := [some (.ref aN), some (.int (nI q)), some (.int (nI kd)), some (.int ((-1)))]) dX9_as_50 (xlt rfl) rfl ?_
        refine x_goto dX9_as_51 ?_
        refine x_iload_n dX9_as_37 rfl ?_
        refine x_if_lt dX9_as_38 (fun c38 => ?_) (fun c38 => ?_)
        rotate_left
        · exact absurd c38 (by decide)
        refine x_iload_n dX9_as_54 rfl ?_
        refine x_if_ge dX9_as_55 (fun c55 => ?_) (fun c55 => ?_)
        · exact absurd c55 (by decide)
        refine x_aload_n dX9_as_58 rfl ?_
        refine x_ldc dX9_as_59 k_X9_111 ?_
        refine x_cVi (ws' := [(aN, .inr (9, [.ref aNs, .ref aNk, .int nkp, .ref aNf, .ref aNr, .ref aNp, .ref aNb, .ref aNa, .ref aNt, .int (nI nts), .ref aNbo, .ref aNsz, .ref aNnu, .int (nI nta), .int (nI nop), .int nbd, .int ntp, .int (nI npr), .int nnw, .int nsn, .int nwn, .ref aNl, .ref aNal, .ref aNlo, .int (nI nac), .ref aNw, .ref aNtr, .ref aNis, .ref aNbg, .ref aNow])), (aNf, .inl (g.2.1 0, 8, .inl (nIf (fnF (updN fi 2 (fi 2 + 1)))))), (aNs, .inl (g.2.1 0, 919, .inl (msF gr wk z lk sz br ru ki ma bb ce hd)))]) dX9_as_61 ml_X9_88 mX9_finds (ct_finds_2 κ.2.1 g aN aNs aNk aNf aNr aNp aNb aNa aNt aNbo aNsz aNnu aNl aNal aNlo aNw aNtr aNis aNbg aNow nts nta nop npr nac nkp nbd ntp nnw nsn nwn fi) [0, 1] rfl rfl 0 rfl rfl rfl (Nat.le_of_ble_eq_true rfl) (by decide) (Nat.le_refl _) (Nat.le_refl _) (rfl : [aN, aNf] = [aN, aNf]) rfl ?_
        refine x_goto dX9_as_64 ?_
        rw [← hQ]
        refine x_iret dX9_as_76 rfl (Nat.le_of_ble_eq_true rfl) (Nat.le_of_ble_eq_true rfl) ?_
        exact ⟨rfl, rfl⟩

-- == nas_o6 ==
set_option maxRecDepth 100000 in
set_option maxHeartbeats 4000000 in
theorem ct_nas_o6 (l : Launch) (g : XG) (aN aNs aNk aNf aNr aNp aNb aNa aNt aNbo aNsz aNnu aNl aNal aNlo aNw aNtr aNis aNbg aNow nts nta nop npr nac : Nat) (nkp nbd ntp nnw nsn nwn : Int32) (fi : Nat → Nat) (gr wk lk sz br : Nat) (z : Int32) (ru ki ma bb hd : Nat → Nat) (ce : Nat → Int32) (q kd : Nat) (hq : q < gr ∧ gr ≤ 12) (hkd : kd ≤ 7) (hki : ki q = 6) (hu : udI 6 (nI kd) = 1) : Ct l g 30 0 0 yX9_as cX9_as 4 (some .int) [.ref aN, .int (nI q), .int (nI kd)] [(aN, .inr (9, [.ref aNs, .ref aNk, .int nkp, .ref aNf, .ref aNr, .ref aNp, .ref aNb, .ref aNa, .ref aNt, .int (nI nts), .ref aNbo, .ref aNsz, .ref aNnu, .int (nI nta), .int (nI nop), .int nbd, .int ntp, .int (nI npr), .int nnw, .int nsn, .int nwn, .ref aNl, .ref aNal, .ref aNlo, .int (nI nac), .ref aNw, .ref aNtr, .ref aNis, .ref aNbg, .ref aNow])), (aNf, .inl (g.2.1 0, 8, .inl (nIf (fnF fi)))), (aNs, .inl (g.2.1 0, 919, .inl (msF gr wk z lk sz br ru ki ma bb ce hd)))] (xpi (nI (ma q)) [(aN, .inr (9, [.ref aNs, .ref aNk, .int nkp, .ref aNf, .ref aNr, .ref aNp, .ref aNb, .ref aNa, .ref aNt, .int (nI nts), .ref aNbo, .ref aNsz, .ref aNnu, .int (nI nta), .int (nI nop), .int nbd, .int ntp, .int (nI npr), .int nnw, .int nsn, .int nwn, .ref aNl, .ref aNal, .ref aNlo, .int (nI nac), .ref aNw, .ref aNtr, .ref aNis, .ref aNbg, .ref aNow])), (aNf, .inl (g.2.1 0, 8, .inl (nIf (fnF fi)))), (aNs, .inl (g.2.1 0, 919, .inl (msF gr wk z lk sz br ru ki ma bb ce hd)))]) := by
  refine Ct.ofX (lv := [some (.ref aN), some (.int (nI q)), some (.int (nI kd)), none]) (by decide) rfl (Nat.le_of_ble_eq_true rfl) (fun κ => ?_)
  generalize hQ : xQ κ g 0 0 _ = Q
  refine x_aload_n dX9_as_0 rfl ?_
  refine x_iload_n dX9_as_1 rfl ?_
  refine x_cVi0 dX9_as_2 ml_X9_105 mX9_isPeople (ct_nPeople_n κ.2.1 g aN aNs aNk aNf aNr aNp aNb aNa aNt aNbo aNsz aNnu aNl aNal aNlo aNw aNtr aNis aNbg aNow nts nta nop npr nac nkp nbd ntp nnw nsn nwn gr wk lk sz br z ru ki ma bb hd ce q (hq)) [0, 2] rfl rfl 0 rfl rfl rfl (Nat.le_of_ble_eq_true rfl) (by decide) (Nat.le_refl _) (Nat.le_refl _) ?_
  refine x_if_eq dX9_as_5 (fun c5 => ?_) (fun c5 => ?_)
  · exact absurd c5 (by decide)
  refine x_iload_n dX9_as_8 rfl ?_
  refine x_i2l dX9_as_9 ?_
  refine x_lconst 0 dX9_as_10 (by decide) ?_
  refine x_ldc2 dX9_as_11 kl_X9_96 ?_
  refine x_cSi dX9_as_14 ml_X9_98 mX9_isIn (ct_X9_isIn κ.2.1 g ((nI kd).toInt64) 0 7) rfl (Nat.le_of_ble_eq_true rfl) (by decide) (Nat.le_refl _) (Nat.le_refl _) ?_
  refine x_rei (wI (nI kd) 0 7) (inL_w (nI kd) 0 7 (by first | rfl | decide) (by first | rfl | decide)) ?_
  refine x_rei 1 (show wI (nI kd) 0 7 = 1 from wI_nat (n := kd) (a := 0) (b := 7) ⟨by omega, by omega, by omega, by omega⟩) ?_
  refine x_if_ne dX9_as_17 (fun c17 => ?_) (fun c17 => ?_)
  rotate_left
  · exact absurd c17 (by decide)
  refine x_aload_n dX9_as_27 rfl ?_
  refine x_get dX9_as_28 0 0 inX9 fl_X9_7 rfl rfl (by decide) rfl ?_
  refine x_bipush 20 dX9_as_31 (by decide) ?_
  refine x_iload_n dX9_as_33 rfl ?_
  refine x_iadd dX9_as_34 ?_
  refine x_rei (nI (20 + q)) (nI_iadd 20 q) ?_
  refine x_iald dX9_as_35 2 (20 + q) rfl (rfl) (by omega) (by decide) ?_
  refine x_rei (nI (ki q)) (msg_ki (x := q) (by omega) (by omega)) ?_
  refine x_rei (6) (congrArg nI hki) ?_
  refine x_istore_n (lv' := [some (.ref aN), some (.int (nI q)), some (.int (nI kd)), some (.int 6)]) dX9_as_36 (xlt rfl) rfl ?_
  refine x_iload_n dX9_as_37 rfl ?_
  refine x_if_lt dX9_as_38 (fun c38 => ?_) (fun c38 => ?_)
  · exact absurd c38 (by decide)
  refine x_iload_n dX9_as_41 rfl ?_
  refine x_iload_n dX9_as_42 rfl ?_
  refine x_icmp_eq dX9_as_43 (fun c43 => ?_) (fun c43 => ?_)
  · have c43 : 6 = (nI kd) := c43
    refine x_iload_n dX9_as_54 rfl ?_
    refine x_if_ge dX9_as_55 (fun c55 => ?_) (fun c55 => ?_)
    rotate_left
    · exact absurd c55 (by decide)
    refine x_aload_n dX9_as_67 rfl ?_
    refine x_get dX9_as_68 0 0 inX9 fl_X9_7 rfl rfl (by decide) rfl ?_
    refine x_bipush 32 dX9_as_71 (by decide) ?_
    refine x_iload_n dX9_as_73 rfl ?_
    refine x_iadd dX9_as_74 ?_
    refine x_rei (nI (32 + q)) (nI_iadd 32 q) ?_
    refine x_iald dX9_as_75 2 (32 + q) rfl (rfl) (by omega) (by decide) ?_
    refine x_rei (nI (ma q)) (msg_ma (x := q) (by omega) (by omega)) ?_
    rw [← hQ]
    refine x_iret dX9_as_76 rfl (Nat.le_of_ble_eq_true rfl) (Nat.le_of_ble_eq_true rfl) ?_
    exact ⟨rfl, rfl⟩
  · have c43 : ¬ (6 = (nI kd)) := c43
    refine x_iload_n dX9_as_46 rfl ?_
    refine x_cSi dX9_as_47 ml_X9_108 mX9_above (ct_above_6 κ.2.1 g ) rfl (Nat.le_of_ble_eq_true rfl) (by decide) (Nat.le_refl _) (Nat.le_refl _) ?_
    refine x_istore_n (lv' := [some (.ref aN), some (.int (nI q)), some (.int (nI kd)), some (.int 3)]) dX9_as_50 (xlt rfl) rfl ?_
    refine x_goto dX9_as_51 ?_
    refine x_iload_n dX9_as_37 rfl ?_
    refine x_if_lt dX9_as_38 (fun c38 => ?_) (fun c38 => ?_)
    · exact absurd c38 (by decide)
    refine x_iload_n dX9_as_41 rfl ?_
    refine x_iload_n dX9_as_42 rfl ?_
    refine x_icmp_eq dX9_as_43 (fun c43 => ?_) (fun c43 => ?_)
    · have c43 : 3 = (nI kd) := c43
      refine x_iload_n dX9_as_54 rfl ?_
      refine x_if_ge dX9_as_55 (fun c55 => ?_) (fun c55 => ?_)
      rotate_left
      · exact absurd c55 (by decide)
      refine x_aload_n dX9_as_67 rfl ?_
      refine x_get dX9_as_68 0 0 inX9 fl_X9_7 rfl rfl (by decide) rfl ?_
      refine x_bipush 32 dX9_as_71 (by decide) ?_
      refine x_iload_n dX9_as_73 rfl ?_
      refine x_iadd dX9_as_74 ?_
      refine x_rei (nI (32 + q)) (nI_iadd 32 q) ?_
      refine x_iald dX9_as_75 2 (32 + q) rfl (rfl) (by omega) (by decide) ?_
      refine x_rei (nI (ma q)) (msg_ma (x := q) (by omega) (by omega)) ?_
      rw [← hQ]
      refine x_iret dX9_as_76 rfl (Nat.le_of_ble_eq_true rfl) (Nat.le_of_ble_eq_true rfl) ?_
      exact ⟨rfl, rfl⟩
    · have c43 : ¬ (3 = (nI kd)) := c43
      refine x_iload_n dX9_as_46 rfl ?_
      refine x_cSi dX9_as_47 ml_X9_108 mX9_above (ct_above_3 κ.2.1 g ) rfl (Nat.le_of_ble_eq_true rfl) (by decide) (Nat.le_refl _) (Nat.le_refl _) ?_
      refine x_istore_n (lv' := [some (.ref aN), some (.int (nI q)), some (.int (nI kd)), some (.int 0)]) dX9_as_50 (xlt rfl) rfl ?_
      refine x_goto dX9_as_51 ?_
      refine x_iload_n dX9_as_37 rfl ?_
      refine x_if_lt dX9_as_38 (fun c38 => ?_) (fun c38 => ?_)
      · exact absurd c38 (by decide)
      refine x_iload_n dX9_as_41 rfl ?_
      refine x_iload_n dX9_as_42 rfl ?_
      refine x_icmp_eq dX9_as_43 (fun c43 => ?_) (fun c43 => ?_)
      · have c43 : 0 = (nI kd) := c43
        refine x_iload_n dX9_as_54 rfl ?_
        refine x_if_ge dX9_as_55 (fun c55 => ?_) (fun c55 => ?_)
        rotate_left
        · exact absurd c55 (by decide)
        refine x_aload_n dX9_as_67 rfl ?_
        refine x_get dX9_as_68 0 0 inX9 fl_X9_7 rfl rfl (by decide) rfl ?_
        refine x_bipush 32 dX9_as_71 (by decide) ?_
        refine x_iload_n dX9_as_73 rfl ?_
        refine x_iadd dX9_as_74 ?_
        refine x_rei (nI (32 + q)) (nI_iadd 32 q) ?_
        refine x_iald dX9_as_75 2 (32 + q) rfl (rfl) (by omega) (by decide) ?_
        refine x_rei (nI (ma q)) (msg_ma (x := q) (by omega) (by omega)) ?_
        rw [← hQ]
        refine x_iret dX9_as_76 rfl (Nat.le_of_ble_eq_true rfl) (Nat.le_of_ble_eq_true rfl) ?_
        exact ⟨rfl, rfl⟩
      · have c43 : ¬ (0 = (nI kd)) := c43
        refine x_iload_n dX9_as_46 rfl ?_
        refine x_cSi dX9_as_47 ml_X9_108 mX9_above (ct_above_0 κ.2.1 g ) rfl (Nat.le_of_ble_eq_true rfl) (by decide) (Nat.le_refl _) (Nat.le_refl _) ?_
        refine x_istore_n (lv' := [some (.ref aN), some (.int (nI q)), some (.int (nI kd)), some (.int ((-1)))]) dX9_as_50 (xlt rfl) rfl ?_
        refine x_goto dX9_as_51 ?_
        refine x_iload_n dX9_as_37 rfl ?_
        refine x_if_lt dX9_as_38 (fun c38 => ?_) (fun c38 => ?_)
        rotate_left
        · exact absurd c38 (by decide)
        refine x_iload_n dX9_as_54 rfl ?_
        refine x_if_ge dX9_as_55 (fun c55 => ?_) (fun c55 => ?_)
        · exact absurd c55 (by decide)
        exact absurd hu (by clear hu; simp [udI, *])

-- == nas_k7 ==
set_option maxRecDepth 100000 in
set_option maxHeartbeats 4000000 in
theorem ct_nas_k7 (l : Launch) (g : XG) (aN aNs aNk aNf aNr aNp aNb aNa aNt aNbo aNsz aNnu aNl aNal aNlo aNw aNtr aNis aNbg aNow nts nta nop npr nac : Nat) (nkp nbd ntp nnw nsn nwn : Int32) (fi : Nat → Nat) (gr wk lk sz br : Nat) (z : Int32) (ru ki ma bb hd : Nat → Nat) (ce : Nat → Int32) (q kd : Nat) (hq : q < gr ∧ gr ≤ 12) (hkd : kd ≤ 7) (hki : ki q = 7) (hu : udI 7 (nI kd) = 0) : Ct l g 30 0 0 yX9_as cX9_as 4 (some .int) [.ref aN, .int (nI q), .int (nI kd)] [(aN, .inr (9, [.ref aNs, .ref aNk, .int nkp, .ref aNf, .ref aNr, .ref aNp, .ref aNb, .ref aNa, .ref aNt, .int (nI nts), .ref aNbo, .ref aNsz, .ref aNnu, .int (nI nta), .int (nI nop), .int nbd, .int ntp, .int (nI npr), .int nnw, .int nsn, .int nwn, .ref aNl, .ref aNal, .ref aNlo, .int (nI nac), .ref aNw, .ref aNtr, .ref aNis, .ref aNbg, .ref aNow])), (aNf, .inl (g.2.1 0, 8, .inl (nIf (fnF fi)))), (aNs, .inl (g.2.1 0, 919, .inl (msF gr wk z lk sz br ru ki ma bb ce hd)))] (xpi (fndI 2) [(aN, .inr (9, [.ref aNs, .ref aNk, .int nkp, .ref aNf, .ref aNr, .ref aNp, .ref aNb, .ref aNa, .ref aNt, .int (nI nts), .ref aNbo, .ref aNsz, .ref aNnu, .int (nI nta), .int (nI nop), .int nbd, .int ntp, .int (nI npr), .int nnw, .int nsn, .int nwn, .ref aNl, .ref aNal, .ref aNlo, .int (nI nac), .ref aNw, .ref aNtr, .ref aNis, .ref aNbg, .ref aNow])), (aNf, .inl (g.2.1 0, 8, .inl (nIf (fnF (updN fi 2 (fi 2 + 1)))))), (aNs, .inl (g.2.1 0, 919, .inl (msF gr wk z lk sz br ru ki ma bb ce hd)))]) := by
  refine Ct.ofX (lv := [some (.ref aN), some (.int (nI q)), some (.int (nI kd)), none]) (by decide) rfl (Nat.le_of_ble_eq_true rfl) (fun κ => ?_)
  generalize hQ : xQ κ g 0 0 _ = Q
  refine x_aload_n dX9_as_0 rfl ?_
  refine x_iload_n dX9_as_1 rfl ?_
  refine x_cVi0 dX9_as_2 ml_X9_105 mX9_isPeople (ct_nPeople_n κ.2.1 g aN aNs aNk aNf aNr aNp aNb aNa aNt aNbo aNsz aNnu aNl aNal aNlo aNw aNtr aNis aNbg aNow nts nta nop npr nac nkp nbd ntp nnw nsn nwn gr wk lk sz br z ru ki ma bb hd ce q (hq)) [0, 2] rfl rfl 0 rfl rfl rfl (Nat.le_of_ble_eq_true rfl) (by decide) (Nat.le_refl _) (Nat.le_refl _) ?_
  refine x_if_eq dX9_as_5 (fun c5 => ?_) (fun c5 => ?_)
  · exact absurd c5 (by decide)
  refine x_iload_n dX9_as_8 rfl ?_
  refine x_i2l dX9_as_9 ?_
  refine x_lconst 0 dX9_as_10 (by decide) ?_
  refine x_ldc2 dX9_as_11 kl_X9_96 ?_
  refine x_cSi dX9_as_14 ml_X9_98 mX9_isIn (ct_X9_isIn κ.2.1 g ((nI kd).toInt64) 0 7) rfl (Nat.le_of_ble_eq_true rfl) (by decide) (Nat.le_refl _) (Nat.le_refl _) ?_
  refine x_rei (wI (nI kd) 0 7) (inL_w (nI kd) 0 7 (by first | rfl | decide) (by first | rfl | decide)) ?_
  refine x_rei 1 (show wI (nI kd) 0 7 = 1 from wI_nat (n := kd) (a := 0) (b := 7) ⟨by omega, by omega, by omega, by omega⟩) ?_
  refine x_if_ne dX9_as_17 (fun c17 => ?_) (fun c17 => ?_)
  rotate_left
  · exact absurd c17 (by decide)
  refine x_aload_n dX9_as_27 rfl ?_
  refine x_get dX9_as_28 0 0 inX9 fl_X9_7 rfl rfl (by decide) rfl ?_
  refine x_bipush 20 dX9_as_31 (by decide) ?_
  refine x_iload_n dX9_as_33 rfl ?_
  refine x_iadd dX9_as_34 ?_
  refine x_rei (nI (20 + q)) (nI_iadd 20 q) ?_
  refine x_iald dX9_as_35 2 (20 + q) rfl (rfl) (by omega) (by decide) ?_
  refine x_rei (nI (ki q)) (msg_ki (x := q) (by omega) (by omega)) ?_
  refine x_rei (7) (congrArg nI hki) ?_
  refine x_istore_n (lv' := [some (.ref aN), some (.int (nI q)), some (.int (nI kd)), some (.int 7)]) dX9_as_36 (xlt rfl) rfl ?_
  refine x_iload_n dX9_as_37 rfl ?_
  refine x_if_lt dX9_as_38 (fun c38 => ?_) (fun c38 => ?_)
  · exact absurd c38 (by decide)
  refine x_iload_n dX9_as_41 rfl ?_
  refine x_iload_n dX9_as_42 rfl ?_
  refine x_icmp_eq dX9_as_43 (fun c43 => ?_) (fun c43 => ?_)
  · have c43 : 7 = (nI kd) := c43
    exact absurd hu (by clear hu; rw [← c43]; decide)
  · have c43 : ¬ (7 = (nI kd)) := c43
    refine x_iload_n dX9_as_46 rfl ?_
    refine x_cSi dX9_as_47 ml_X9_108 mX9_above (ct_above_7 κ.2.1 g ) rfl (Nat.le_of_ble_eq_true rfl) (by decide) (Nat.le_refl _) (Nat.le_refl _) ?_
    refine x_istore_n (lv' := [some (.ref aN), some (.int (nI q)), some (.int (nI kd)), some (.int 6)]) dX9_as_50 (xlt rfl) rfl ?_
    refine x_goto dX9_as_51 ?_
    refine x_iload_n dX9_as_37 rfl ?_
    refine x_if_lt dX9_as_38 (fun c38 => ?_) (fun c38 => ?_)
    · exact absurd c38 (by decide)
    refine x_iload_n dX9_as_41 rfl ?_
    refine x_iload_n dX9_as_42 rfl ?_
    refine x_icmp_eq dX9_as_43 (fun c43 => ?_) (fun c43 => ?_)
    · have c43 : 6 = (nI kd) := c43
      exact absurd hu (by clear hu; rw [← c43]; decide)
    · have c43 : ¬ (6 = (nI kd)) := c43
      refine x_iload_n dX9_as_46 rfl ?_
      refine x_cSi dX9_as_47 ml_X9_108 mX9_above (ct_above_6 κ.2.1 g ) rfl (Nat.le_of_ble_eq_true rfl) (by decide) (Nat.le_refl _) (Nat.le_refl _) ?_
      refine x_istore_n (lv' := [some (.ref aN), some (.int (nI q)), some (.int (nI kd)), some (.int 3)]) dX9_as_50 (xlt rfl) rfl ?_
      refine x_goto dX9_as_51 ?_
      refine x_iload_n dX9_as_37 rfl ?_
      refine x_if_lt dX9_as_38 (fun c38 => ?_) (fun c38 => ?_)
      · exact absurd c38 (by decide)
      refine x_iload_n dX9_as_41 rfl ?_
      refine x_iload_n dX9_as_42 rfl ?_
      refine x_icmp_eq dX9_as_43 (fun c43 => ?_) (fun c43 => ?_)
      · have c43 : 3 = (nI kd) := c43
        exact absurd hu (by clear hu; rw [← c43]; decide)
      · have c43 : ¬ (3 = (nI kd)) := c43
        refine x_iload_n dX9_as_46 rfl ?_
        refine x_cSi dX9_as_47 ml_X9_108 mX9_above (ct_above_3 κ.2.1 g ) rfl (Nat.le_of_ble_eq_true rfl) (by decide) (Nat.le_refl _) (Nat.le_refl _) ?_
        refine x_istore_n (lv' := [some (.ref aN), some (.int (nI q)), some (.int (nI kd)), some (.int 0)]) dX9_as_50 (xlt rfl) rfl ?_
        refine x_goto dX9_as_51 ?_
        refine x_iload_n dX9_as_37 rfl ?_
        refine x_if_lt dX9_as_38 (fun c38 => ?_) (fun c38 => ?_)
        · exact absurd c38 (by decide)
        refine x_iload_n dX9_as_41 rfl ?_
        refine x_iload_n dX9_as_42 rfl ?_
        refine x_icmp_eq dX9_as_43 (fun c43 => ?_) (fun c43 => ?_)
        · have c43 : 0 = (nI kd) := c43
          exact absurd hu (by clear hu; rw [← c43]; decide)
        · have c43 : ¬ (0 = (nI kd)) := c43
          refine x_iload_n dX9_as_46 rfl ?_
          refine x_cSi dX9_as_47 ml_X9_108 mX9_above (ct_above_0 κ.2.1 g ) rfl (Nat.le_of_ble_eq_true rfl) (by decide) (Nat.le_refl _) (Nat.le_refl _) ?_
          refine x_istore_n (lv' := [some (.ref aN), some (.int (nI q)), some (.int (nI kd)), some (.int ((-1)))]) dX9_as_50 (xlt rfl) rfl ?_
          refine x_goto dX9_as_51 ?_
          refine x_iload_n dX9_as_37 rfl ?_
          refine x_if_lt dX9_as_38 (fun c38 => ?_) (fun c38 => ?_)
          rotate_left
          · exact absurd c38 (by decide)
          refine x_iload_n dX9_as_54 rfl ?_
          refine x_if_ge dX9_as_55 (fun c55 => ?_) (fun c55 => ?_)
          · exact absurd c55 (by decide)
          refine x_aload_n dX9_as_58 rfl ?_
          refine x_ldc dX9_as_59 k_X9_111 ?_
          refine x_cVi (ws' := [(aN, .inr (9, [.ref aNs, .ref aNk, .int nkp, .ref aNf, .ref aNr, .ref aNp, .ref aNb, .ref aNa, .ref aNt, .int (nI nts), .ref aNbo, .ref aNsz, .ref aNnu, .int (nI nta), .int (nI nop), .int nbd, .int ntp, .int (nI npr), .int nnw, .int nsn, .int nwn, .ref aNl, .ref aNal, .ref aNlo, .int (nI nac), .ref aNw, .ref aNtr, .ref aNis, .ref aNbg, .ref aNow])), (aNf, .inl (g.2.1 0, 8, .inl (nIf (fnF (updN fi 2 (fi 2 + 1)))))), (aNs, .inl (g.2.1 0, 919, .inl (msF gr wk z lk sz br ru ki ma bb ce hd)))]) dX9_as_61 ml_X9_88 mX9_finds (ct_finds_2 κ.2.1 g aN aNs aNk aNf aNr aNp aNb aNa aNt aNbo aNsz aNnu aNl aNal aNlo aNw aNtr aNis aNbg aNow nts nta nop npr nac nkp nbd ntp nnw nsn nwn fi) [0, 1] rfl rfl 0 rfl rfl rfl (Nat.le_of_ble_eq_true rfl) (by decide) (Nat.le_refl _) (Nat.le_refl _) (rfl : [aN, aNf] = [aN, aNf]) rfl ?_
          refine x_goto dX9_as_64 ?_
          rw [← hQ]
          refine x_iret dX9_as_76 rfl (Nat.le_of_ble_eq_true rfl) (Nat.le_of_ble_eq_true rfl) ?_
          exact ⟨rfl, rfl⟩

-- == nas_o7 ==
set_option maxRecDepth 100000 in
set_option maxHeartbeats 4000000 in
theorem ct_nas_o7 (l : Launch) (g : XG) (aN aNs aNk aNf aNr aNp aNb aNa aNt aNbo aNsz aNnu aNl aNal aNlo aNw aNtr aNis aNbg aNow nts nta nop npr nac : Nat) (nkp nbd ntp nnw nsn nwn : Int32) (fi : Nat → Nat) (gr wk lk sz br : Nat) (z : Int32) (ru ki ma bb hd : Nat → Nat) (ce : Nat → Int32) (q kd : Nat) (hq : q < gr ∧ gr ≤ 12) (hkd : kd ≤ 7) (hki : ki q = 7) (hu : udI 7 (nI kd) = 1) : Ct l g 30 0 0 yX9_as cX9_as 4 (some .int) [.ref aN, .int (nI q), .int (nI kd)] [(aN, .inr (9, [.ref aNs, .ref aNk, .int nkp, .ref aNf, .ref aNr, .ref aNp, .ref aNb, .ref aNa, .ref aNt, .int (nI nts), .ref aNbo, .ref aNsz, .ref aNnu, .int (nI nta), .int (nI nop), .int nbd, .int ntp, .int (nI npr), .int nnw, .int nsn, .int nwn, .ref aNl, .ref aNal, .ref aNlo, .int (nI nac), .ref aNw, .ref aNtr, .ref aNis, .ref aNbg, .ref aNow])), (aNf, .inl (g.2.1 0, 8, .inl (nIf (fnF fi)))), (aNs, .inl (g.2.1 0, 919, .inl (msF gr wk z lk sz br ru ki ma bb ce hd)))] (xpi (nI (ma q)) [(aN, .inr (9, [.ref aNs, .ref aNk, .int nkp, .ref aNf, .ref aNr, .ref aNp, .ref aNb, .ref aNa, .ref aNt, .int (nI nts), .ref aNbo, .ref aNsz, .ref aNnu, .int (nI nta), .int (nI nop), .int nbd, .int ntp, .int (nI npr), .int nnw, .int nsn, .int nwn, .ref aNl, .ref aNal, .ref aNlo, .int (nI nac), .ref aNw, .ref aNtr, .ref aNis, .ref aNbg, .ref aNow])), (aNf, .inl (g.2.1 0, 8, .inl (nIf (fnF fi)))), (aNs, .inl (g.2.1 0, 919, .inl (msF gr wk z lk sz br ru ki ma bb ce hd)))]) := by
  refine Ct.ofX (lv := [some (.ref aN), some (.int (nI q)), some (.int (nI kd)), none]) (by decide) rfl (Nat.le_of_ble_eq_true rfl) (fun κ => ?_)
  generalize hQ : xQ κ g 0 0 _ = Q
  refine x_aload_n dX9_as_0 rfl ?_
  refine x_iload_n dX9_as_1 rfl ?_
  refine x_cVi0 dX9_as_2 ml_X9_105 mX9_isPeople (ct_nPeople_n κ.2.1 g aN aNs aNk aNf aNr aNp aNb aNa aNt aNbo aNsz aNnu aNl aNal aNlo aNw aNtr aNis aNbg aNow nts nta nop npr nac nkp nbd ntp nnw nsn nwn gr wk lk sz br z ru ki ma bb hd ce q (hq)) [0, 2] rfl rfl 0 rfl rfl rfl (Nat.le_of_ble_eq_true rfl) (by decide) (Nat.le_refl _) (Nat.le_refl _) ?_
  refine x_if_eq dX9_as_5 (fun c5 => ?_) (fun c5 => ?_)
  · exact absurd c5 (by decide)
  refine x_iload_n dX9_as_8 rfl ?_
  refine x_i2l dX9_as_9 ?_
  refine x_lconst 0 dX9_as_10 (by decide) ?_
  refine x_ldc2 dX9_as_11 kl_X9_96 ?_
  refine x_cSi dX9_as_14 ml_X9_98 mX9_isIn (ct_X9_isIn κ.2.1 g ((nI kd).toInt64) 0 7) rfl (Nat.le_of_ble_eq_true rfl) (by decide) (Nat.le_refl _) (Nat.le_refl _) ?_
  refine x_rei (wI (nI kd) 0 7) (inL_w (nI kd) 0 7 (by first | rfl | decide) (by first | rfl | decide)) ?_
  refine x_rei 1 (show wI (nI kd) 0 7 = 1 from wI_nat (n := kd) (a := 0) (b := 7) ⟨by omega, by omega, by omega, by omega⟩) ?_
  refine x_if_ne dX9_as_17 (fun c17 => ?_) (fun c17 => ?_)
  rotate_left
  · exact absurd c17 (by decide)
  refine x_aload_n dX9_as_27 rfl ?_
  refine x_get dX9_as_28 0 0 inX9 fl_X9_7 rfl rfl (by decide) rfl ?_
  refine x_bipush 20 dX9_as_31 (by decide) ?_
  refine x_iload_n dX9_as_33 rfl ?_
  refine x_iadd dX9_as_34 ?_
  refine x_rei (nI (20 + q)) (nI_iadd 20 q) ?_
  refine x_iald dX9_as_35 2 (20 + q) rfl (rfl) (by omega) (by decide) ?_
  refine x_rei (nI (ki q)) (msg_ki (x := q) (by omega) (by omega)) ?_
  refine x_rei (7) (congrArg nI hki) ?_
  refine x_istore_n (lv' := [some (.ref aN), some (.int (nI q)), some (.int (nI kd)), some (.int 7)]) dX9_as_36 (xlt rfl) rfl ?_
  refine x_iload_n dX9_as_37 rfl ?_
  refine x_if_lt dX9_as_38 (fun c38 => ?_) (fun c38 => ?_)
  · exact absurd c38 (by decide)
  refine x_iload_n dX9_as_41 rfl ?_
  refine x_iload_n dX9_as_42 rfl ?_
  refine x_icmp_eq dX9_as_43 (fun c43 => ?_) (fun c43 => ?_)
  · have c43 : 7 = (nI kd) := c43
    refine x_iload_n dX9_as_54 rfl ?_
    refine x_if_ge dX9_as_55 (fun c55 => ?_) (fun c55 => ?_)
    rotate_left
    · exact absurd c55 (by decide)
    refine x_aload_n dX9_as_67 rfl ?_
    refine x_get dX9_as_68 0 0 inX9 fl_X9_7 rfl rfl (by decide) rfl ?_
    refine x_bipush 32 dX9_as_71 (by decide) ?_
    refine x_iload_n dX9_as_73 rfl ?_
    refine x_iadd dX9_as_74 ?_
    refine x_rei (nI (32 + q)) (nI_iadd 32 q) ?_
    refine x_iald dX9_as_75 2 (32 + q) rfl (rfl) (by omega) (by decide) ?_
    refine x_rei (nI (ma q)) (msg_ma (x := q) (by omega) (by omega)) ?_
    rw [← hQ]
    refine x_iret dX9_as_76 rfl (Nat.le_of_ble_eq_true rfl) (Nat.le_of_ble_eq_true rfl) ?_
    exact ⟨rfl, rfl⟩
  · have c43 : ¬ (7 = (nI kd)) := c43
    refine x_iload_n dX9_as_46 rfl ?_
    refine x_cSi dX9_as_47 ml_X9_108 mX9_above (ct_above_7 κ.2.1 g ) rfl (Nat.le_of_ble_eq_true rfl) (by decide) (Nat.le_refl _) (Nat.le_refl _) ?_
    refine x_istore_n (lv' := [some (.ref aN), some (.int (nI q)), some (.int (nI kd)), some (.int 6)]) dX9_as_50 (xlt rfl) rfl ?_
    refine x_goto dX9_as_51 ?_
    refine x_iload_n dX9_as_37 rfl ?_
    refine x_if_lt dX9_as_38 (fun c38 => ?_) (fun c38 => ?_)
    · exact absurd c38 (by decide)
    refine x_iload_n dX9_as_41 rfl ?_
    refine x_iload_n dX9_as_42 rfl ?_
    refine x_icmp_eq dX9_as_43 (fun c43 => ?_) (fun c43 => ?_)
    · have c43 : 6 = (nI kd) := c43
      refine x_iload_n dX9_as_54 rfl ?_
      refine x_if_ge dX9_as_55 (fun c55 => ?_) (fun c55 => ?_)
      rotate_left
      · exact absurd c55 (by decide)
      refine x_aload_n dX9_as_67 rfl ?_
      refine x_get dX9_as_68 0 0 inX9 fl_X9_7 rfl rfl (by decide) rfl ?_
      refine x_bipush 32 dX9_as_71 (by decide) ?_
      refine x_iload_n dX9_as_73 rfl ?_
      refine x_iadd dX9_as_74 ?_
      refine x_rei (nI (32 + q)) (nI_iadd 32 q) ?_
      refine x_iald dX9_as_75 2 (32 + q) rfl (rfl) (by omega) (by decide) ?_
      refine x_rei (nI (ma q)) (msg_ma (x := q) (by omega) (by omega)) ?_
      rw [← hQ]
      refine x_iret dX9_as_76 rfl (Nat.le_of_ble_eq_true rfl) (Nat.le_of_ble_eq_true rfl) ?_
      exact ⟨rfl, rfl⟩
    · have c43 : ¬ (6 = (nI kd)) := c43
      refine x_iload_n dX9_as_46 rfl ?_
      refine x_cSi dX9_as_47 ml_X9_108 mX9_above (ct_above_6 κ.2.1 g ) rfl (Nat.le_of_ble_eq_true rfl) (by decide) (Nat.le_refl _) (Nat.le_refl _) ?_
      refine x_istore_n (lv' := [some (.ref aN), some (.int (nI q)), some (.int (nI kd)), some (.int 3)]) dX9_as_50 (xlt rfl) rfl ?_
      refine x_goto dX9_as_51 ?_
      refine x_iload_n dX9_as_37 rfl ?_
      refine x_if_lt dX9_as_38 (fun c38 => ?_) (fun c38 => ?_)
      · exact absurd c38 (by decide)
      refine x_iload_n dX9_as_41 rfl ?_
      refine x_iload_n dX9_as_42 rfl ?_
      refine x_icmp_eq dX9_as_43 (fun c43 => ?_) (fun c43 => ?_)
      · have c43 : 3 = (nI kd) := c43
        refine x_iload_n dX9_as_54 rfl ?_
        refine x_if_ge dX9_as_55 (fun c55 => ?_) (fun c55 => ?_)
        rotate_left
        · exact absurd c55 (by decide)
        refine x_aload_n dX9_as_67 rfl ?_
        refine x_get dX9_as_68 0 0 inX9 fl_X9_7 rfl rfl (by decide) rfl ?_
        refine x_bipush 32 dX9_as_71 (by decide) ?_
        refine x_iload_n dX9_as_73 rfl ?_
        refine x_iadd dX9_as_74 ?_
        refine x_rei (nI (32 + q)) (nI_iadd 32 q) ?_
        refine x_iald dX9_as_75 2 (32 + q) rfl (rfl) (by omega) (by decide) ?_
        refine x_rei (nI (ma q)) (msg_ma (x := q) (by omega) (by omega)) ?_
        rw [← hQ]
        refine x_iret dX9_as_76 rfl (Nat.le_of_ble_eq_true rfl) (Nat.le_of_ble_eq_true rfl) ?_
        exact ⟨rfl, rfl⟩
      · have c43 : ¬ (3 = (nI kd)) := c43
        refine x_iload_n dX9_as_46 rfl ?_
        refine x_cSi dX9_as_47 ml_X9_108 mX9_above (ct_above_3 κ.2.1 g ) rfl (Nat.le_of_ble_eq_true rfl) (by decide) (Nat.le_refl _) (Nat.le_refl _) ?_
        refine x_istore_n (lv' := [some (.ref aN), some (.int (nI q)), some (.int (nI kd)), some (.int 0)]) dX9_as_50 (xlt rfl) rfl ?_
        refine x_goto dX9_as_51 ?_
        refine x_iload_n dX9_as_37 rfl ?_
        refine x_if_lt dX9_as_38 (fun c38 => ?_) (fun c38 => ?_)
        · exact absurd c38 (by decide)
        refine x_iload_n dX9_as_41 rfl ?_
        refine x_iload_n dX9_as_42 rfl ?_
        refine x_icmp_eq dX9_as_43 (fun c43 => ?_) (fun c43 => ?_)
        · have c43 : 0 = (nI kd) := c43
          refine x_iload_n dX9_as_54 rfl ?_
          refine x_if_ge dX9_as_55 (fun c55 => ?_) (fun c55 => ?_)
          rotate_left
          · exact absurd c55 (by decide)
          refine x_aload_n dX9_as_67 rfl ?_
          refine x_get dX9_as_68 0 0 inX9 fl_X9_7 rfl rfl (by decide) rfl ?_
          refine x_bipush 32 dX9_as_71 (by decide) ?_
          refine x_iload_n dX9_as_73 rfl ?_
          refine x_iadd dX9_as_74 ?_
          refine x_rei (nI (32 + q)) (nI_iadd 32 q) ?_
          refine x_iald dX9_as_75 2 (32 + q) rfl (rfl) (by omega) (by decide) ?_
          refine x_rei (nI (ma q)) (msg_ma (x := q) (by omega) (by omega)) ?_
          rw [← hQ]
          refine x_iret dX9_as_76 rfl (Nat.le_of_ble_eq_true rfl) (Nat.le_of_ble_eq_true rfl) ?_
          exact ⟨rfl, rfl⟩
        · have c43 : ¬ (0 = (nI kd)) := c43
          refine x_iload_n dX9_as_46 rfl ?_
          refine x_cSi dX9_as_47 ml_X9_108 mX9_above (ct_above_0 κ.2.1 g ) rfl (Nat.le_of_ble_eq_true rfl) (by decide) (Nat.le_refl _) (Nat.le_refl _) ?_
          refine x_istore_n (lv' := [some (.ref aN), some (.int (nI q)), some (.int (nI kd)), some (.int ((-1)))]) dX9_as_50 (xlt rfl) rfl ?_
          refine x_goto dX9_as_51 ?_
          refine x_iload_n dX9_as_37 rfl ?_
          refine x_if_lt dX9_as_38 (fun c38 => ?_) (fun c38 => ?_)
          rotate_left
          · exact absurd c38 (by decide)
          refine x_iload_n dX9_as_54 rfl ?_
          refine x_if_ge dX9_as_55 (fun c55 => ?_) (fun c55 => ?_)
          · exact absurd c55 (by decide)
          exact absurd hu (by clear hu; simp [udI, *])

