
-- == nworth_b ==
theorem dX9_worth_0 : xd cX9_worth 0 (.iload_n 1) 1 1 := ⟨by decide +kernel, rfl⟩
theorem dX9_worth_1 : xd cX9_worth 1 (.invokestatic 92) 3 4 := ⟨by decide +kernel, rfl⟩
theorem dX9_worth_4 : xj cX9_worth 4 (.ifCond .eq) 7 26 := ⟨22, by decide +kernel, rfl, by decide⟩
theorem dX9_worth_7 : xd cX9_worth 7 (.aload_n 0) 1 8 := ⟨by decide +kernel, rfl⟩
theorem dX9_worth_8 : xd cX9_worth 8 (.iload_n 1) 1 9 := ⟨by decide +kernel, rfl⟩
theorem dX9_worth_9 : xd cX9_worth 9 (.aload_n 0) 1 10 := ⟨by decide +kernel, rfl⟩
theorem dX9_worth_10 : xd cX9_worth 10 (.aload_n 0) 1 11 := ⟨by decide +kernel, rfl⟩
theorem dX9_worth_11 : xd cX9_worth 11 (.getfield 7) 3 14 := ⟨by decide +kernel, rfl⟩
theorem dX9_worth_14 : xd cX9_worth 14 (.bipush 17) 2 16 := ⟨by decide +kernel, rfl⟩
theorem dX9_worth_16 : xd cX9_worth 16 .iaload 1 17 := ⟨by decide +kernel, rfl⟩
theorem dX9_worth_17 : xd cX9_worth 17 (.invokevirtual 208) 3 20 := ⟨by decide +kernel, rfl⟩
theorem dX9_worth_20 : xd cX9_worth 20 (.invokevirtual 235) 3 23 := ⟨by decide +kernel, rfl⟩
theorem dX9_worth_23 : xj cX9_worth 23 .goto 26 32 := ⟨9, by decide +kernel, rfl, by decide⟩
theorem dX9_worth_26 : xd cX9_worth 26 (.aload_n 0) 1 27 := ⟨by decide +kernel, rfl⟩
theorem dX9_worth_27 : xd cX9_worth 27 (.ldc 87) 2 29 := ⟨by decide +kernel, rfl⟩
theorem dX9_worth_29 : xd cX9_worth 29 (.invokevirtual 88) 3 32 := ⟨by decide +kernel, rfl⟩
theorem dX9_worth_32 : xd cX9_worth 32 .ireturn 1 33 := ⟨by decide +kernel, rfl⟩

set_option maxRecDepth 100000 in
set_option maxHeartbeats 4000000 in
theorem ct_nworth_b (l : Launch) (g : XG) (aN aNs aNk aNf aNr aNp aNb aNa aNt aNbo aNsz aNnu aNl aNal aNlo aNw aNtr aNis aNbg aNow nts nta nop npr nac : Nat) (nkp nbd ntp nnw nsn nwn : Int32) (fi : Nat → Nat) (pl : Int32) (hb : wI pl 0 494 = 0) : Ct l g 34 0 0 yX9_worth cX9_worth 2 (some .int) [.ref aN, .int pl] [(aN, .inr (9, [.ref aNs, .ref aNk, .int nkp, .ref aNf, .ref aNr, .ref aNp, .ref aNb, .ref aNa, .ref aNt, .int (nI nts), .ref aNbo, .ref aNsz, .ref aNnu, .int (nI nta), .int (nI nop), .int nbd, .int ntp, .int (nI npr), .int nnw, .int nsn, .int nwn, .ref aNl, .ref aNal, .ref aNlo, .int (nI nac), .ref aNw, .ref aNtr, .ref aNis, .ref aNbg, .ref aNow])), (aNf, .inl (g.2.1 0, 8, .inl (nIf (fnF fi))))] (xpi (fndI 0) [(aN, .inr (9, [.ref aNs, .ref aNk, .int nkp, .ref aNf, .ref aNr, .ref aNp, .ref aNb, .ref aNa, .ref aNt, .int (nI nts), .ref aNbo, .ref aNsz, .ref aNnu, .int (nI nta), .int (nI nop), .int nbd, .int ntp, .int (nI npr), .int nnw, .int nsn, .int nwn, .ref aNl, .ref aNal, .ref aNlo, .int (nI nac), .ref aNw, .ref aNtr, .ref aNis, .ref aNbg, .ref aNow])), (aNf, .inl (g.2.1 0, 8, .inl (nIf (fnF (updN fi 0 (fi 0 + 1))))))]) := by
  refine Ct.ofX (lv := [some (.ref aN), some (.int pl)]) (by decide) rfl (Nat.le_of_ble_eq_true rfl) (fun κ => ?_)
  generalize hQ : xQ κ g 0 0 _ = Q
  refine x_iload_n dX9_worth_0 rfl ?_
  refine x_cSi dX9_worth_1 ml_X9_92 mX9_isPlace (ct_X9_isPlace κ.2.1 g pl) rfl (Nat.le_of_ble_eq_true rfl) (by decide) (Nat.le_refl _) (Nat.le_refl _) ?_
  refine x_if_eq dX9_worth_4 (fun c4 => ?_) (fun c4 => ?_)
  · have c4 : (wI pl 0 494) = 0 := c4
    refine x_aload_n dX9_worth_26 rfl ?_
    refine x_ldc dX9_worth_27 k_X9_87 ?_
    refine x_cVi (ws' := [(aN, .inr (9, [.ref aNs, .ref aNk, .int nkp, .ref aNf, .ref aNr, .ref aNp, .ref aNb, .ref aNa, .ref aNt, .int (nI nts), .ref aNbo, .ref aNsz, .ref aNnu, .int (nI nta), .int (nI nop), .int nbd, .int ntp, .int (nI npr), .int nnw, .int nsn, .int nwn, .ref aNl, .ref aNal, .ref aNlo, .int (nI nac), .ref aNw, .ref aNtr, .ref aNis, .ref aNbg, .ref aNow])), (aNf, .inl (g.2.1 0, 8, .inl (nIf (fnF (updN fi 0 (fi 0 + 1))))))]) dX9_worth_29 ml_X9_88 mX9_finds (ct_finds_0 κ.2.1 g aN aNs aNk aNf aNr aNp aNb aNa aNt aNbo aNsz aNnu aNl aNal aNlo aNw aNtr aNis aNbg aNow nts nta nop npr nac nkp nbd ntp nnw nsn nwn fi) [0, 1] rfl rfl 0 rfl rfl rfl (Nat.le_of_ble_eq_true rfl) (by decide) (Nat.le_refl _) (Nat.le_refl _) (rfl : [aN, aNf] = [aN, aNf]) rfl ?_
    rw [← hQ]
    refine x_iret dX9_worth_32 rfl (Nat.le_of_ble_eq_true rfl) (Nat.le_of_ble_eq_true rfl) ?_
    exact ⟨rfl, rfl⟩
  · have c4 : ¬ ((wI pl 0 494) = 0) := c4
    exact absurd hb c4

-- == nworth_o ==
set_option maxRecDepth 100000 in
set_option maxHeartbeats 4000000 in
theorem ct_nworth_o (l : Launch) (g : XG) (aN aNs aNk aNf aNr aNp aNb aNa aNt aNbo aNsz aNnu aNl aNal aNlo aNw aNtr aNis aNbg aNow nts nta nop npr nac : Nat) (nkp nbd nnw nsn nwn : Int32) (gr wk lk sz br : Nat) (z : Int32) (ru ki ma bb hd : Nat → Nat) (ce : Nat → Int32) (tb nli nal nlo sd : Nat → Nat) (L : Nat) (nwi : Nat → Nat) (p : Nat) (hgr : gr ≤ 12) (hki : ∀ j, ki j ≤ 7) (hma : ∀ j, ma j ≤ 99999) (hwk : wk ≤ 40) (hlat : latI ce wk = nI L) (hL : L < 4096) (hsz : sz ≤ 60) (hbb : ∀ j, bb j < 256) (hsd : ∀ p, sd p ≤ 99) (hsv : ∀ p, p < 495 → sd p = if lk = 1 then clN (txV bb sz wk L p) else 1) (hlk : lk ≤ 1) (hwo : (nnw = 1 ∧ (nsn = 1 ∨ (nsn = 0 ∧ nli = sd))) ∨ (nnw = 0 ∧ nsn = 0 ∧ nli = sd ∧ nal = crH gr ki ma hd L sd ∧ nac = toH gr ki ma hd L sd ∧ ∀ q, q < gr → nlo q = laN (ki q) (ma q) L sd)) (hwc : wnI nnw nwn = 1 ∨ (wnI nnw nwn = 0 ∧ nwi = wiF (crH gr ki ma hd L sd))) (htot : toH gr ki ma hd L sd < 2 ^ 30) (hp : p < 495) : Ct l g 34 0 0 yX9_worth cX9_worth 2 (some .int) [.ref aN, .int (nI p)] [(aN, .inr (9, [.ref aNs, .ref aNk, .int nkp, .ref aNf, .ref aNr, .ref aNp, .ref aNb, .ref aNa, .ref aNt, .int (nI nts), .ref aNbo, .ref aNsz, .ref aNnu, .int (nI nta), .int (nI nop), .int nbd, .int 0, .int (nI npr), .int nnw, .int nsn, .int nwn, .ref aNl, .ref aNal, .ref aNlo, .int (nI nac), .ref aNw, .ref aNtr, .ref aNis, .ref aNbg, .ref aNow])), (aNs, .inl (g.2.1 0, 919, .inl (msF gr wk z lk sz br ru ki ma bb ce hd))), (aNt, .inl (g.2.1 0, 60, .inl (nIf tb))), (aNa, .inl (g.2.1 0, 2475, .inl (nIf fcN))), (aNr, .inl (g.2.1 0, 495, .inl (nIf rowB))), (aNb, .inl (g.2.1 0, 4096, .inl (nIf popN))), (aNl, .inl (g.2.1 0, 495, .inl (nIf nli))), (aNal, .inl (g.2.1 0, 495, .inl (nIf nal))), (aNlo, .inl (g.2.1 0, 12, .inl (nIf nlo))), (aNw, .inl (g.2.1 0, 1485, .inl (nIf nwi)))] (fun vv_ ww_ => ∃ (zat : Nat) (zop : Nat) (zbd : Int32) (zpr : Nat) (lo2 : Nat → Nat), vv_ = some (.int (woR ru (potL ru (nI (ru 7)).toInt64 (nI (toH gr ki ma hd L sd)).toInt64) (crH gr ki ma hd L sd) p)) ∧ ww_ = [(aN, .inr (9, [.ref aNs, .ref aNk, .int nkp, .ref aNf, .ref aNr, .ref aNp, .ref aNb, .ref aNa, .ref aNt, .int (nI nts), .ref aNbo, .ref aNsz, .ref aNnu, .int (nI zat), .int (nI zop), .int zbd, .int 0, .int (nI zpr), .int 0, .int 0, .int 0, .ref aNl, .ref aNal, .ref aNlo, .int (nI (toH gr ki ma hd L sd)), .ref aNw, .ref aNtr, .ref aNis, .ref aNbg, .ref aNow])), (aNs, .inl (g.2.1 0, 919, .inl (msF gr wk z lk sz br ru ki ma bb ce hd))), (aNt, .inl (g.2.1 0, 60, .inl (nIf tb))), (aNa, .inl (g.2.1 0, 2475, .inl (nIf fcN))), (aNr, .inl (g.2.1 0, 495, .inl (nIf rowB))), (aNb, .inl (g.2.1 0, 4096, .inl (nIf popN))), (aNl, .inl (g.2.1 0, 495, .inl (nIf sd))), (aNal, .inl (g.2.1 0, 495, .inl (nIf (crH gr ki ma hd L sd)))), (aNlo, .inl (g.2.1 0, 12, .inl (nIf lo2))), (aNw, .inl (g.2.1 0, 1485, .inl (nIf (wiF (crH gr ki ma hd L sd)))))] ∧ (∀ q, q < gr → lo2 q = laN (ki q) (ma q) L sd)) := by
  refine Ct.ofX (lv := [some (.ref aN), some (.int (nI p))]) (by decide) rfl (Nat.le_of_ble_eq_true rfl) (fun κ => ?_)
  generalize hQ : xQ κ g 0 0 _ = Q
  refine x_iload_n dX9_worth_0 rfl ?_
  refine x_cSi dX9_worth_1 ml_X9_92 mX9_isPlace (ct_nPlace_n κ.2.1 g p (hp)) rfl (Nat.le_of_ble_eq_true rfl) (by decide) (Nat.le_refl _) (Nat.le_refl _) ?_
  refine x_if_eq dX9_worth_4 (fun c4 => ?_) (fun c4 => ?_)
  · exact absurd c4 (by decide)
  refine x_aload_n dX9_worth_7 rfl ?_
  refine x_iload_n dX9_worth_8 rfl ?_
  refine x_aload_n dX9_worth_9 rfl ?_
  refine x_aload_n dX9_worth_10 rfl ?_
  refine x_get dX9_worth_11 0 0 inX9 fl_X9_7 rfl rfl (by decide) rfl ?_
  refine x_bipush 17 dX9_worth_14 (by decide) ?_
  refine x_iald dX9_worth_16 1 17 rfl (rfl) (by decide) (by decide) ?_
  refine x_rei (nI (ru 7)) (msg_ru (x := 7) (by omega) (by omega)) ?_
  refine x_callV dX9_worth_17 ml_X9_208 mX9_potWith (ct_X9_potWith κ.2.1 g aN aNs aNk aNf aNr aNp aNb aNa aNt aNbo aNsz aNnu aNl aNal aNlo aNw aNtr aNis aNbg aNow nts nta nop npr nac nkp nbd nnw nsn nwn gr wk lk sz br z ru ki ma bb hd ce tb nli nal nlo sd L (ru 7) (hgr) (hki) (hma) (hwk) (hlat) (hL) (hsz) (hbb) (hsd) (hsv) (hlk) (hwo)) [0, 1, 2, 3, 4, 5, 6, 7, 8] rfl rfl 0 rfl rfl rfl (Nat.le_of_ble_eq_true rfl) (by decide) (Nat.le_refl _) (Nat.le_refl _) (fun vv ww hp => ?_)
  obtain ⟨z1, z2, z3, z4, z5, rfl, rfl, p6⟩ := hp
  refine ⟨(rfl : [aN, aNs, aNt, aNa, aNr, aNb, aNl, aNal, aNlo] = [aN, aNs, aNt, aNa, aNr, aNb, aNl, aNal, aNlo]), x_eq (lv' := [some (.ref aN), some (.int (nI p))]) (st' := [.long (potL ru (nI (ru 7)).toInt64 (nI (toH gr ki ma hd L sd)).toInt64), .int (nI p), .ref aN]) (ws' := [(aN, .inr (9, [.ref aNs, .ref aNk, .int nkp, .ref aNf, .ref aNr, .ref aNp, .ref aNb, .ref aNa, .ref aNt, .int (nI nts), .ref aNbo, .ref aNsz, .ref aNnu, .int (nI z1), .int (nI z2), .int z3, .int 0, .int (nI z4), .int 0, .int 0, .int (wnI nnw nwn), .ref aNl, .ref aNal, .ref aNlo, .int (nI (toH gr ki ma hd L sd)), .ref aNw, .ref aNtr, .ref aNis, .ref aNbg, .ref aNow])), (aNs, .inl (g.2.1 0, 919, .inl (msF gr wk z lk sz br ru ki ma bb ce hd))), (aNt, .inl (g.2.1 0, 60, .inl (nIf tb))), (aNa, .inl (g.2.1 0, 2475, .inl (nIf fcN))), (aNr, .inl (g.2.1 0, 495, .inl (nIf rowB))), (aNb, .inl (g.2.1 0, 4096, .inl (nIf popN))), (aNl, .inl (g.2.1 0, 495, .inl (nIf sd))), (aNal, .inl (g.2.1 0, 495, .inl (nIf (crH gr ki ma hd L sd)))), (aNlo, .inl (g.2.1 0, 12, .inl (nIf z5))), (aNw, .inl (g.2.1 0, 1485, .inl (nIf nwi)))]) ?_ rfl rfl rfl⟩
  refine x_cVi (ws' := [(aN, .inr (9, [.ref aNs, .ref aNk, .int nkp, .ref aNf, .ref aNr, .ref aNp, .ref aNb, .ref aNa, .ref aNt, .int (nI nts), .ref aNbo, .ref aNsz, .ref aNnu, .int (nI z1), .int (nI z2), .int z3, .int 0, .int (nI z4), .int 0, .int 0, .int 0, .ref aNl, .ref aNal, .ref aNlo, .int (nI (toH gr ki ma hd L sd)), .ref aNw, .ref aNtr, .ref aNis, .ref aNbg, .ref aNow])), (aNs, .inl (g.2.1 0, 919, .inl (msF gr wk z lk sz br ru ki ma bb ce hd))), (aNt, .inl (g.2.1 0, 60, .inl (nIf tb))), (aNa, .inl (g.2.1 0, 2475, .inl (nIf fcN))), (aNr, .inl (g.2.1 0, 495, .inl (nIf rowB))), (aNb, .inl (g.2.1 0, 4096, .inl (nIf popN))), (aNl, .inl (g.2.1 0, 495, .inl (nIf sd))), (aNal, .inl (g.2.1 0, 495, .inl (nIf (crH gr ki ma hd L sd)))), (aNlo, .inl (g.2.1 0, 12, .inl (nIf z5))), (aNw, .inl (g.2.1 0, 1485, .inl (nIf (wiF (crH gr ki ma hd L sd)))))]) dX9_worth_20 ml_X9_235 mX9_worthOf (ct_X9_worthOf κ.2.1 g aN aNs aNk aNf aNr aNp aNb aNa aNt aNbo aNsz aNnu aNl aNal aNlo aNw aNtr aNis aNbg aNow nts z1 z2 z4 (toH gr ki ma hd L sd) nkp z3 0 0 (wnI nnw nwn) (crH gr ki ma hd L sd) nwi gr wk lk sz br z ru ki ma bb hd ce p (potL ru (nI (ru 7)).toInt64 (nI (toH gr ki ma hd L sd)).toInt64) (hwc) (hp) (htot)) [0, 4, 5, 7, 9, 1] rfl rfl 0 rfl rfl rfl (Nat.le_of_ble_eq_true rfl) (by decide) (Nat.le_refl _) (Nat.le_refl _) (rfl : [aN, aNr, aNb, aNal, aNw, aNs] = [aN, aNr, aNb, aNal, aNw, aNs]) rfl ?_
  refine x_goto dX9_worth_23 ?_
  rw [← hQ]
  refine x_iret dX9_worth_32 rfl (Nat.le_of_ble_eq_true rfl) (Nat.le_of_ble_eq_true rfl) ?_
  exact ⟨_, _, _, _, _, rfl, rfl, p6⟩

-- == nbest_b ==
theorem dX9_best_0 : xd cX9_best 0 (.iload_n 1) 1 1 := ⟨by decide +kernel, rfl⟩
theorem dX9_best_1 : xd cX9_best 1 .i2l 1 2 := ⟨by decide +kernel, rfl⟩
theorem dX9_best_2 : xd cX9_best 2 (.lconst 0) 1 3 := ⟨by decide +kernel, rfl⟩
theorem dX9_best_3 : xd cX9_best 3 (.lconst 1) 1 4 := ⟨by decide +kernel, rfl⟩
theorem dX9_best_4 : xd cX9_best 4 (.invokestatic 98) 3 7 := ⟨by decide +kernel, rfl⟩
theorem dX9_best_7 : xj cX9_best 7 (.ifCond .ne) 10 17 := ⟨10, by decide +kernel, rfl, by decide⟩
theorem dX9_best_10 : xd cX9_best 10 (.aload_n 0) 1 11 := ⟨by decide +kernel, rfl⟩
theorem dX9_best_11 : xd cX9_best 11 (.ldc 87) 2 13 := ⟨by decide +kernel, rfl⟩
theorem dX9_best_13 : xd cX9_best 13 (.invokevirtual 88) 3 16 := ⟨by decide +kernel, rfl⟩
theorem dX9_best_16 : xd cX9_best 16 .ireturn 1 17 := ⟨by decide +kernel, rfl⟩
theorem dX9_best_17 : xd cX9_best 17 (.aload_n 0) 1 18 := ⟨by decide +kernel, rfl⟩
theorem dX9_best_18 : xd cX9_best 18 (.aload_n 0) 1 19 := ⟨by decide +kernel, rfl⟩
theorem dX9_best_19 : xd cX9_best 19 (.getfield 7) 3 22 := ⟨by decide +kernel, rfl⟩
theorem dX9_best_22 : xd cX9_best 22 (.bipush 17) 2 24 := ⟨by decide +kernel, rfl⟩
theorem dX9_best_24 : xd cX9_best 24 .iaload 1 25 := ⟨by decide +kernel, rfl⟩
theorem dX9_best_25 : xd cX9_best 25 (.invokevirtual 208) 3 28 := ⟨by decide +kernel, rfl⟩
theorem dX9_best_28 : xd cX9_best 28 (.lstore_n 2) 1 29 := ⟨by decide +kernel, rfl⟩
theorem dX9_best_29 : xd cX9_best 29 (.iconst 0) 1 30 := ⟨by decide +kernel, rfl⟩
theorem dX9_best_30 : xd cX9_best 30 (.istore 4) 2 32 := ⟨by decide +kernel, rfl⟩
theorem dX9_best_32 : xd cX9_best 32 (.aload_n 0) 1 33 := ⟨by decide +kernel, rfl⟩
theorem dX9_best_33 : xd cX9_best 33 (.iconst 0) 1 34 := ⟨by decide +kernel, rfl⟩
theorem dX9_best_34 : xd cX9_best 34 (.lload_n 2) 1 35 := ⟨by decide +kernel, rfl⟩
theorem dX9_best_35 : xd cX9_best 35 (.invokevirtual 235) 3 38 := ⟨by decide +kernel, rfl⟩
theorem dX9_best_38 : xd cX9_best 38 (.istore 5) 2 40 := ⟨by decide +kernel, rfl⟩
theorem dX9_best_40 : xd cX9_best 40 (.iconst 1) 1 41 := ⟨by decide +kernel, rfl⟩
theorem dX9_best_41 : xd cX9_best 41 (.istore 6) 2 43 := ⟨by decide +kernel, rfl⟩
theorem dX9_best_43 : xd cX9_best 43 (.iload 6) 2 45 := ⟨by decide +kernel, rfl⟩
theorem dX9_best_45 : xd cX9_best 45 (.sipush 495) 3 48 := ⟨by decide +kernel, rfl⟩
theorem dX9_best_48 : xj cX9_best 48 (.if_icmp .ge) 51 98 := ⟨50, by decide +kernel, rfl, by decide⟩
theorem dX9_best_51 : xd cX9_best 51 (.aload_n 0) 1 52 := ⟨by decide +kernel, rfl⟩
theorem dX9_best_52 : xd cX9_best 52 (.iload 6) 2 54 := ⟨by decide +kernel, rfl⟩
theorem dX9_best_54 : xd cX9_best 54 (.lload_n 2) 1 55 := ⟨by decide +kernel, rfl⟩
theorem dX9_best_55 : xd cX9_best 55 (.invokevirtual 235) 3 58 := ⟨by decide +kernel, rfl⟩
theorem dX9_best_58 : xd cX9_best 58 (.istore 7) 2 60 := ⟨by decide +kernel, rfl⟩
theorem dX9_best_60 : xd cX9_best 60 (.iload 7) 2 62 := ⟨by decide +kernel, rfl⟩
theorem dX9_best_62 : xd cX9_best 62 (.iload 5) 2 64 := ⟨by decide +kernel, rfl⟩
theorem dX9_best_64 : xj cX9_best 64 (.if_icmp .le) 67 72 := ⟨8, by decide +kernel, rfl, by decide⟩
theorem dX9_best_67 : xd cX9_best 67 (.iload 6) 2 69 := ⟨by decide +kernel, rfl⟩
theorem dX9_best_69 : xj cX9_best 69 .goto 72 74 := ⟨5, by decide +kernel, rfl, by decide⟩
theorem dX9_best_72 : xd cX9_best 72 (.iload 4) 2 74 := ⟨by decide +kernel, rfl⟩
theorem dX9_best_74 : xd cX9_best 74 (.istore 4) 2 76 := ⟨by decide +kernel, rfl⟩
theorem dX9_best_76 : xd cX9_best 76 (.iload 7) 2 78 := ⟨by decide +kernel, rfl⟩
theorem dX9_best_78 : xd cX9_best 78 (.iload 5) 2 80 := ⟨by decide +kernel, rfl⟩
theorem dX9_best_80 : xj cX9_best 80 (.if_icmp .le) 83 88 := ⟨8, by decide +kernel, rfl, by decide⟩
theorem dX9_best_83 : xd cX9_best 83 (.iload 7) 2 85 := ⟨by decide +kernel, rfl⟩
theorem dX9_best_85 : xj cX9_best 85 .goto 88 90 := ⟨5, by decide +kernel, rfl, by decide⟩
theorem dX9_best_88 : xd cX9_best 88 (.iload 5) 2 90 := ⟨by decide +kernel, rfl⟩
theorem dX9_best_90 : xd cX9_best 90 (.istore 5) 2 92 := ⟨by decide +kernel, rfl⟩
theorem dX9_best_92 : xd cX9_best 92 (.iinc 6 1) 3 95 := ⟨by decide +kernel, rfl⟩
theorem dX9_best_95 : xj cX9_best 95 .goto 98 43 := ⟨(-52), by decide +kernel, rfl, by decide⟩
theorem dX9_best_98 : xd cX9_best 98 (.iload_n 1) 1 99 := ⟨by decide +kernel, rfl⟩
theorem dX9_best_99 : xj cX9_best 99 (.ifCond .ne) 102 107 := ⟨8, by decide +kernel, rfl, by decide⟩
theorem dX9_best_102 : xd cX9_best 102 (.iload 4) 2 104 := ⟨by decide +kernel, rfl⟩
theorem dX9_best_104 : xj cX9_best 104 .goto 107 109 := ⟨5, by decide +kernel, rfl, by decide⟩
theorem dX9_best_107 : xd cX9_best 107 (.iload 5) 2 109 := ⟨by decide +kernel, rfl⟩
theorem dX9_best_109 : xd cX9_best 109 .ireturn 1 110 := ⟨by decide +kernel, rfl⟩

set_option maxRecDepth 100000 in
set_option maxHeartbeats 4000000 in
theorem ct_nbest_b (l : Launch) (g : XG) (aN aNs aNk aNf aNr aNp aNb aNa aNt aNbo aNsz aNnu aNl aNal aNlo aNw aNtr aNis aNbg aNow nts nta nop npr nac : Nat) (nkp nbd ntp nnw nsn nwn : Int32) (fi : Nat → Nat) (wh : Int32) (hb : wI wh 0 1 = 0) : Ct l g 34 0 0 yX9_best cX9_best 8 (some .int) [.ref aN, .int wh] [(aN, .inr (9, [.ref aNs, .ref aNk, .int nkp, .ref aNf, .ref aNr, .ref aNp, .ref aNb, .ref aNa, .ref aNt, .int (nI nts), .ref aNbo, .ref aNsz, .ref aNnu, .int (nI nta), .int (nI nop), .int nbd, .int ntp, .int (nI npr), .int nnw, .int nsn, .int nwn, .ref aNl, .ref aNal, .ref aNlo, .int (nI nac), .ref aNw, .ref aNtr, .ref aNis, .ref aNbg, .ref aNow])), (aNf, .inl (g.2.1 0, 8, .inl (nIf (fnF fi))))] (xpi (fndI 0) [(aN, .inr (9, [.ref aNs, .ref aNk, .int nkp, .ref aNf, .ref aNr, .ref aNp, .ref aNb, .ref aNa, .ref aNt, .int (nI nts), .ref aNbo, .ref aNsz, .ref aNnu, .int (nI nta), .int (nI nop), .int nbd, .int ntp, .int (nI npr), .int nnw, .int nsn, .int nwn, .ref aNl, .ref aNal, .ref aNlo, .int (nI nac), .ref aNw, .ref aNtr, .ref aNis, .ref aNbg, .ref aNow])), (aNf, .inl (g.2.1 0, 8, .inl (nIf (fnF (updN fi 0 (fi 0 + 1))))))]) := by
  refine Ct.ofX (lv := [some (.ref aN), some (.int wh), none, none, none, none, none, none]) (by decide) rfl (Nat.le_of_ble_eq_true rfl) (fun κ => ?_)
  generalize hQ : xQ κ g 0 0 _ = Q
  refine x_iload_n dX9_best_0 rfl ?_
  refine x_i2l dX9_best_1 ?_
  refine x_lconst 0 dX9_best_2 (by decide) ?_
  refine x_lconst 1 dX9_best_3 (by decide) ?_
  refine x_cSi dX9_best_4 ml_X9_98 mX9_isIn (ct_X9_isIn κ.2.1 g wh.toInt64 0 1) rfl (Nat.le_of_ble_eq_true rfl) (by decide) (Nat.le_refl _) (Nat.le_refl _) ?_
  refine x_rei (wI wh 0 1) (inL_w wh 0 1 (by first | rfl | decide) (by first | rfl | decide)) ?_
  refine x_if_ne dX9_best_7 (fun c7 => ?_) (fun c7 => ?_)
  · have c7 : ¬ ((wI wh 0 1) = 0) := c7
    exact absurd hb c7
  · have c7 : (wI wh 0 1) = 0 := c7
    refine x_aload_n dX9_best_10 rfl ?_
    refine x_ldc dX9_best_11 k_X9_87 ?_
    refine x_cVi (ws' := [(aN, .inr (9, [.ref aNs, .ref aNk, .int nkp, .ref aNf, .ref aNr, .ref aNp, .ref aNb, .ref aNa, .ref aNt, .int (nI nts), .ref aNbo, .ref aNsz, .ref aNnu, .int (nI nta), .int (nI nop), .int nbd, .int ntp, .int (nI npr), .int nnw, .int nsn, .int nwn, .ref aNl, .ref aNal, .ref aNlo, .int (nI nac), .ref aNw, .ref aNtr, .ref aNis, .ref aNbg, .ref aNow])), (aNf, .inl (g.2.1 0, 8, .inl (nIf (fnF (updN fi 0 (fi 0 + 1))))))]) dX9_best_13 ml_X9_88 mX9_finds (ct_finds_0 κ.2.1 g aN aNs aNk aNf aNr aNp aNb aNa aNt aNbo aNsz aNnu aNl aNal aNlo aNw aNtr aNis aNbg aNow nts nta nop npr nac nkp nbd ntp nnw nsn nwn fi) [0, 1] rfl rfl 0 rfl rfl rfl (Nat.le_of_ble_eq_true rfl) (by decide) (Nat.le_refl _) (Nat.le_refl _) (rfl : [aN, aNf] = [aN, aNf]) rfl ?_
    rw [← hQ]
    refine x_iret dX9_best_16 rfl (Nat.le_of_ble_eq_true rfl) (Nat.le_of_ble_eq_true rfl) ?_
    exact ⟨rfl, rfl⟩

-- == nbest_0 ==
set_option maxRecDepth 100000 in
set_option maxHeartbeats 4000000 in
theorem ct_nbest_0 (l : Launch) (g : XG) (aN aNs aNk aNf aNr aNp aNb aNa aNt aNbo aNsz aNnu aNl aNal aNlo aNw aNtr aNis aNbg aNow nts nta nop npr nac : Nat) (nkp nbd nnw nsn nwn : Int32) (gr wk lk sz br : Nat) (z : Int32) (ru ki ma bb hd : Nat → Nat) (ce : Nat → Int32) (tb nli nal nlo sd : Nat → Nat) (L : Nat) (nwi : Nat → Nat) (hgr : gr ≤ 12) (hki : ∀ j, ki j ≤ 7) (hma : ∀ j, ma j ≤ 99999) (hwk : wk ≤ 40) (hlat : latI ce wk = nI L) (hL : L < 4096) (hsz : sz ≤ 60) (hbb : ∀ j, bb j < 256) (hsd : ∀ p, sd p ≤ 99) (hsv : ∀ p, p < 495 → sd p = if lk = 1 then clN (txV bb sz wk L p) else 1) (hlk : lk ≤ 1) (hwo : (nnw = 1 ∧ (nsn = 1 ∨ (nsn = 0 ∧ nli = sd))) ∨ (nnw = 0 ∧ nsn = 0 ∧ nli = sd ∧ nal = crH gr ki ma hd L sd ∧ nac = toH gr ki ma hd L sd ∧ ∀ q, q < gr → nlo q = laN (ki q) (ma q) L sd)) (hwc : wnI nnw nwn = 1 ∨ (wnI nnw nwn = 0 ∧ nwi = wiF (crH gr ki ma hd L sd))) (htot : toH gr ki ma hd L sd < 2 ^ 30) : Ct l g 34 0 0 yX9_best cX9_best 8 (some .int) [.ref aN, .int 0] [(aN, .inr (9, [.ref aNs, .ref aNk, .int nkp, .ref aNf, .ref aNr, .ref aNp, .ref aNb, .ref aNa, .ref aNt, .int (nI nts), .ref aNbo, .ref aNsz, .ref aNnu, .int (nI nta), .int (nI nop), .int nbd, .int 0, .int (nI npr), .int nnw, .int nsn, .int nwn, .ref aNl, .ref aNal, .ref aNlo, .int (nI nac), .ref aNw, .ref aNtr, .ref aNis, .ref aNbg, .ref aNow])), (aNs, .inl (g.2.1 0, 919, .inl (msF gr wk z lk sz br ru ki ma bb ce hd))), (aNt, .inl (g.2.1 0, 60, .inl (nIf tb))), (aNa, .inl (g.2.1 0, 2475, .inl (nIf fcN))), (aNr, .inl (g.2.1 0, 495, .inl (nIf rowB))), (aNb, .inl (g.2.1 0, 4096, .inl (nIf popN))), (aNl, .inl (g.2.1 0, 495, .inl (nIf nli))), (aNal, .inl (g.2.1 0, 495, .inl (nIf nal))), (aNlo, .inl (g.2.1 0, 12, .inl (nIf nlo))), (aNw, .inl (g.2.1 0, 1485, .inl (nIf nwi)))] (fun vv_ ww_ => ∃ (zat : Nat) (zop : Nat) (zbd : Int32) (zpr : Nat) (lo2 : Nat → Nat), vv_ = some (.int (nI (bsR (woR ru (potL ru (nI (ru 7)).toInt64 (nI (toH gr ki ma hd L sd)).toInt64) (crH gr ki ma hd L sd)) 495))) ∧ ww_ = [(aN, .inr (9, [.ref aNs, .ref aNk, .int nkp, .ref aNf, .ref aNr, .ref aNp, .ref aNb, .ref aNa, .ref aNt, .int (nI nts), .ref aNbo, .ref aNsz, .ref aNnu, .int (nI zat), .int (nI zop), .int zbd, .int 0, .int (nI zpr), .int 0, .int 0, .int 0, .ref aNl, .ref aNal, .ref aNlo, .int (nI (toH gr ki ma hd L sd)), .ref aNw, .ref aNtr, .ref aNis, .ref aNbg, .ref aNow])), (aNs, .inl (g.2.1 0, 919, .inl (msF gr wk z lk sz br ru ki ma bb ce hd))), (aNt, .inl (g.2.1 0, 60, .inl (nIf tb))), (aNa, .inl (g.2.1 0, 2475, .inl (nIf fcN))), (aNr, .inl (g.2.1 0, 495, .inl (nIf rowB))), (aNb, .inl (g.2.1 0, 4096, .inl (nIf popN))), (aNl, .inl (g.2.1 0, 495, .inl (nIf sd))), (aNal, .inl (g.2.1 0, 495, .inl (nIf (crH gr ki ma hd L sd)))), (aNlo, .inl (g.2.1 0, 12, .inl (nIf lo2))), (aNw, .inl (g.2.1 0, 1485, .inl (nIf (wiF (crH gr ki ma hd L sd)))))] ∧ (∀ q, q < gr → lo2 q = laN (ki q) (ma q) L sd)) := by
  refine Ct.ofX (lv := [some (.ref aN), some (.int 0), none, none, none, none, none, none]) (by decide) rfl (Nat.le_of_ble_eq_true rfl) (fun κ => ?_)
  generalize hQ : xQ κ g 0 0 _ = Q
  refine x_iload_n dX9_best_0 rfl ?_
  refine x_i2l dX9_best_1 ?_
  refine x_lconst 0 dX9_best_2 (by decide) ?_
  refine x_lconst 1 dX9_best_3 (by decide) ?_
  refine x_cSi dX9_best_4 ml_X9_98 mX9_isIn (ct_X9_isIn κ.2.1 g ((0 : Int32).toInt64) 0 1) rfl (Nat.le_of_ble_eq_true rfl) (by decide) (Nat.le_refl _) (Nat.le_refl _) ?_
  refine x_rei (1) (by decide) ?_
  refine x_if_ne dX9_best_7 (fun c7 => ?_) (fun c7 => ?_)
  rotate_left
  · exact absurd c7 (by decide)
  refine x_aload_n dX9_best_17 rfl ?_
  refine x_aload_n dX9_best_18 rfl ?_
  refine x_get dX9_best_19 0 0 inX9 fl_X9_7 rfl rfl (by decide) rfl ?_
  refine x_bipush 17 dX9_best_22 (by decide) ?_
  refine x_iald dX9_best_24 1 17 rfl (rfl) (by decide) (by decide) ?_
  refine x_rei (nI (ru 7)) (msg_ru (x := 7) (by omega) (by omega)) ?_
  refine x_callV dX9_best_25 ml_X9_208 mX9_potWith (ct_X9_potWith κ.2.1 g aN aNs aNk aNf aNr aNp aNb aNa aNt aNbo aNsz aNnu aNl aNal aNlo aNw aNtr aNis aNbg aNow nts nta nop npr nac nkp nbd nnw nsn nwn gr wk lk sz br z ru ki ma bb hd ce tb nli nal nlo sd L (ru 7) (hgr) (hki) (hma) (hwk) (hlat) (hL) (hsz) (hbb) (hsd) (hsv) (hlk) (hwo)) [0, 1, 2, 3, 4, 5, 6, 7, 8] rfl rfl 0 rfl rfl rfl (Nat.le_of_ble_eq_true rfl) (by decide) (Nat.le_refl _) (Nat.le_refl _) (fun vv ww hp => ?_)
  obtain ⟨z1, z2, z3, z4, z5, rfl, rfl, p6⟩ := hp
  refine ⟨(rfl : [aN, aNs, aNt, aNa, aNr, aNb, aNl, aNal, aNlo] = [aN, aNs, aNt, aNa, aNr, aNb, aNl, aNal, aNlo]), x_eq (lv' := [some (.ref aN), some (.int 0), none, none, none, none, none, none]) (st' := [.long (potL ru (nI (ru 7)).toInt64 (nI (toH gr ki ma hd L sd)).toInt64)]) (ws' := [(aN, .inr (9, [.ref aNs, .ref aNk, .int nkp, .ref aNf, .ref aNr, .ref aNp, .ref aNb, .ref aNa, .ref aNt, .int (nI nts), .ref aNbo, .ref aNsz, .ref aNnu, .int (nI z1), .int (nI z2), .int z3, .int 0, .int (nI z4), .int 0, .int 0, .int (wnI nnw nwn), .ref aNl, .ref aNal, .ref aNlo, .int (nI (toH gr ki ma hd L sd)), .ref aNw, .ref aNtr, .ref aNis, .ref aNbg, .ref aNow])), (aNs, .inl (g.2.1 0, 919, .inl (msF gr wk z lk sz br ru ki ma bb ce hd))), (aNt, .inl (g.2.1 0, 60, .inl (nIf tb))), (aNa, .inl (g.2.1 0, 2475, .inl (nIf fcN))), (aNr, .inl (g.2.1 0, 495, .inl (nIf rowB))), (aNb, .inl (g.2.1 0, 4096, .inl (nIf popN))), (aNl, .inl (g.2.1 0, 495, .inl (nIf sd))), (aNal, .inl (g.2.1 0, 495, .inl (nIf (crH gr ki ma hd L sd)))), (aNlo, .inl (g.2.1 0, 12, .inl (nIf z5))), (aNw, .inl (g.2.1 0, 1485, .inl (nIf nwi)))]) ?_ rfl rfl rfl⟩
  refine x_lstore_n (lv' := [some (.ref aN), some (.int 0), some (.long (potL ru (nI (ru 7)).toInt64 (nI (toH gr ki ma hd L sd)).toInt64)), none, none, none, none, none]) dX9_best_28 (xlt rfl) rfl ?_
  refine x_iconst 0 dX9_best_29 (by decide) ?_
  refine x_istore (lv' := [some (.ref aN), some (.int 0), some (.long (potL ru (nI (ru 7)).toInt64 (nI (toH gr ki ma hd L sd)).toInt64)), none, some (.int 0), none, none, none]) dX9_best_30 (xlt rfl) rfl ?_
  refine x_aload_n dX9_best_32 rfl ?_
  refine x_iconst 0 dX9_best_33 (by decide) ?_
  refine x_lload_n dX9_best_34 rfl ?_
  refine x_cVi (ws' := [(aN, .inr (9, [.ref aNs, .ref aNk, .int nkp, .ref aNf, .ref aNr, .ref aNp, .ref aNb, .ref aNa, .ref aNt, .int (nI nts), .ref aNbo, .ref aNsz, .ref aNnu, .int (nI z1), .int (nI z2), .int z3, .int 0, .int (nI z4), .int 0, .int 0, .int 0, .ref aNl, .ref aNal, .ref aNlo, .int (nI (toH gr ki ma hd L sd)), .ref aNw, .ref aNtr, .ref aNis, .ref aNbg, .ref aNow])), (aNs, .inl (g.2.1 0, 919, .inl (msF gr wk z lk sz br ru ki ma bb ce hd))), (aNt, .inl (g.2.1 0, 60, .inl (nIf tb))), (aNa, .inl (g.2.1 0, 2475, .inl (nIf fcN))), (aNr, .inl (g.2.1 0, 495, .inl (nIf rowB))), (aNb, .inl (g.2.1 0, 4096, .inl (nIf popN))), (aNl, .inl (g.2.1 0, 495, .inl (nIf sd))), (aNal, .inl (g.2.1 0, 495, .inl (nIf (crH gr ki ma hd L sd)))), (aNlo, .inl (g.2.1 0, 12, .inl (nIf z5))), (aNw, .inl (g.2.1 0, 1485, .inl (nIf (wiF (crH gr ki ma hd L sd)))))]) dX9_best_35 ml_X9_235 mX9_worthOf (ct_X9_worthOf κ.2.1 g aN aNs aNk aNf aNr aNp aNb aNa aNt aNbo aNsz aNnu aNl aNal aNlo aNw aNtr aNis aNbg aNow nts z1 z2 z4 (toH gr ki ma hd L sd) nkp z3 0 0 (wnI nnw nwn) (crH gr ki ma hd L sd) nwi gr wk lk sz br z ru ki ma bb hd ce 0 (potL ru (nI (ru 7)).toInt64 (nI (toH gr ki ma hd L sd)).toInt64) (hwc) (by decide) (htot)) [0, 4, 5, 7, 9, 1] rfl rfl 0 rfl rfl rfl (Nat.le_of_ble_eq_true rfl) (by decide) (Nat.le_refl _) (Nat.le_refl _) (rfl : [aN, aNr, aNb, aNal, aNw, aNs] = [aN, aNr, aNb, aNal, aNw, aNs]) rfl ?_
  refine x_istore (lv' := [some (.ref aN), some (.int 0), some (.long (potL ru (nI (ru 7)).toInt64 (nI (toH gr ki ma hd L sd)).toInt64)), none, some (.int 0), some (.int (woR ru (potL ru (nI (ru 7)).toInt64 (nI (toH gr ki ma hd L sd)).toInt64) (crH gr ki ma hd L sd) 0)), none, none]) dX9_best_38 (xlt rfl) rfl ?_
  refine x_iconst 1 dX9_best_40 (by decide) ?_
  refine x_istore (lv' := [some (.ref aN), some (.int 0), some (.long (potL ru (nI (ru 7)).toInt64 (nI (toH gr ki ma hd L sd)).toInt64)), none, some (.int 0), some (.int (woR ru (potL ru (nI (ru 7)).toInt64 (nI (toH gr ki ma hd L sd)).toInt64) (crH gr ki ma hd L sd) 0)), some (.int 1), none]) dX9_best_41 (xlt rfl) rfl ?_
  have L43_7 : ∀ (i : Nat), i ≤ 495 → ∀ (bs : Nat), bs = bsR (woR ru (potL ru (nI (ru 7)).toInt64 (nI (toH gr ki ma hd L sd)).toInt64) (crH gr ki ma hd L sd)) i → ∀ (mo : Int32), mo = woR ru (potL ru (nI (ru 7)).toInt64 (nI (toH gr ki ma hd L sd)).toInt64) (crH gr ki ma hd L sd) (bsR (woR ru (potL ru (nI (ru 7)).toInt64 (nI (toH gr ki ma hd L sd)).toInt64) (crH gr ki ma hd L sd)) i) → Xs κ g 34 0 0 cX9_best yX9_best (some .int) Q 0 0 43 [some (.ref aN), some (.int 0), some (.long (potL ru (nI (ru 7)).toInt64 (nI (toH gr ki ma hd L sd)).toInt64)), none, some (.int (nI bs)), some (.int mo), some (.int (nI i)), none] [] [(aN, .inr (9, [.ref aNs, .ref aNk, .int nkp, .ref aNf, .ref aNr, .ref aNp, .ref aNb, .ref aNa, .ref aNt, .int (nI nts), .ref aNbo, .ref aNsz, .ref aNnu, .int (nI z1), .int (nI z2), .int z3, .int 0, .int (nI z4), .int 0, .int 0, .int 0, .ref aNl, .ref aNal, .ref aNlo, .int (nI (toH gr ki ma hd L sd)), .ref aNw, .ref aNtr, .ref aNis, .ref aNbg, .ref aNow])), (aNs, .inl (g.2.1 0, 919, .inl (msF gr wk z lk sz br ru ki ma bb ce hd))), (aNt, .inl (g.2.1 0, 60, .inl (nIf tb))), (aNa, .inl (g.2.1 0, 2475, .inl (nIf fcN))), (aNr, .inl (g.2.1 0, 495, .inl (nIf rowB))), (aNb, .inl (g.2.1 0, 4096, .inl (nIf popN))), (aNl, .inl (g.2.1 0, 495, .inl (nIf sd))), (aNal, .inl (g.2.1 0, 495, .inl (nIf (crH gr ki ma hd L sd)))), (aNlo, .inl (g.2.1 0, 12, .inl (nIf z5))), (aNw, .inl (g.2.1 0, 1485, .inl (nIf (wiF (crH gr ki ma hd L sd)))))] := by
    refine upTo 495 (fun i hi43 ih43 => ?_)
    intro bs ebs
    subst ebs
    intro mo emo
    subst emo
    refine x_iload dX9_best_43 rfl ?_
    refine x_sipush 495 dX9_best_45 (by decide) ?_
    refine x_icmp_ge dX9_best_48 (fun c48 => ?_) (fun c48 => ?_)
    · have c48 : 495 ≤ (nI i) := c48
      have c48n := (nI_leI (a := 495) (b := i) (by omega) (by omega)).mp c48
      have hxc48 : i = 495 := by omega
      try rw [hxc48]
      refine x_iload_n dX9_best_98 rfl ?_
      refine x_if_ne dX9_best_99 (fun c99 => ?_) (fun c99 => ?_)
      · exact absurd c99 (by decide)
      refine x_iload dX9_best_102 rfl ?_
      refine x_goto dX9_best_104 ?_
      rw [← hQ]
      refine x_iret dX9_best_109 rfl (Nat.le_of_ble_eq_true rfl) (Nat.le_of_ble_eq_true rfl) ?_
      exact ⟨_, _, _, _, _, rfl, rfl, p6⟩
    · have c48 : ¬ (495 ≤ (nI i)) := c48
      have c48n := mt (nI_leI (a := 495) (b := i) (by omega) (by omega)).mpr c48
      refine x_aload_n dX9_best_51 rfl ?_
      refine x_iload dX9_best_52 rfl ?_
      refine x_lload_n dX9_best_54 rfl ?_
      refine x_cVi (ws' := [(aN, .inr (9, [.ref aNs, .ref aNk, .int nkp, .ref aNf, .ref aNr, .ref aNp, .ref aNb, .ref aNa, .ref aNt, .int (nI nts), .ref aNbo, .ref aNsz, .ref aNnu, .int (nI z1), .int (nI z2), .int z3, .int 0, .int (nI z4), .int 0, .int 0, .int 0, .ref aNl, .ref aNal, .ref aNlo, .int (nI (toH gr ki ma hd L sd)), .ref aNw, .ref aNtr, .ref aNis, .ref aNbg, .ref aNow])), (aNs, .inl (g.2.1 0, 919, .inl (msF gr wk z lk sz br ru ki ma bb ce hd))), (aNt, .inl (g.2.1 0, 60, .inl (nIf tb))), (aNa, .inl (g.2.1 0, 2475, .inl (nIf fcN))), (aNr, .inl (g.2.1 0, 495, .inl (nIf rowB))), (aNb, .inl (g.2.1 0, 4096, .inl (nIf popN))), (aNl, .inl (g.2.1 0, 495, .inl (nIf sd))), (aNal, .inl (g.2.1 0, 495, .inl (nIf (crH gr ki ma hd L sd)))), (aNlo, .inl (g.2.1 0, 12, .inl (nIf z5))), (aNw, .inl (g.2.1 0, 1485, .inl (nIf (wiF (crH gr ki ma hd L sd)))))]) dX9_best_55 ml_X9_235 mX9_worthOf (ct_X9_worthOf κ.2.1 g aN aNs aNk aNf aNr aNp aNb aNa aNt aNbo aNsz aNnu aNl aNal aNlo aNw aNtr aNis aNbg aNow nts z1 z2 z4 (toH gr ki ma hd L sd) nkp z3 0 0 0 (crH gr ki ma hd L sd) (wiF (crH gr ki ma hd L sd)) gr wk lk sz br z ru ki ma bb hd ce i (potL ru (nI (ru 7)).toInt64 (nI (toH gr ki ma hd L sd)).toInt64) (Or.inr ⟨rfl, rfl⟩) (by omega) (htot)) [0, 4, 5, 7, 9, 1] rfl rfl 0 rfl rfl rfl (Nat.le_of_ble_eq_true rfl) (by decide) (Nat.le_refl _) (Nat.le_refl _) (rfl : [aN, aNr, aNb, aNal, aNw, aNs] = [aN, aNr, aNb, aNal, aNw, aNs]) rfl ?_
      refine x_istore (lv' := [some (.ref aN), some (.int 0), some (.long (potL ru (nI (ru 7)).toInt64 (nI (toH gr ki ma hd L sd)).toInt64)), none, some (.int (nI ((bsR (woR ru (potL ru (nI (ru 7)).toInt64 (nI (toH gr ki ma hd L sd)).toInt64) (crH gr ki ma hd L sd)) i)))), some (.int (woR ru (potL ru (nI (ru 7)).toInt64 (nI (toH gr ki ma hd L sd)).toInt64) (crH gr ki ma hd L sd) (bsR (woR ru (potL ru (nI (ru 7)).toInt64 (nI (toH gr ki ma hd L sd)).toInt64) (crH gr ki ma hd L sd)) i))), some (.int (nI i)), some (.int (woR ru (potL ru (nI (ru 7)).toInt64 (nI (toH gr ki ma hd L sd)).toInt64) (crH gr ki ma hd L sd) i))]) dX9_best_58 (xlt rfl) rfl ?_
      refine x_iload dX9_best_60 rfl ?_
      refine x_iload dX9_best_62 rfl ?_
      have J64_9 : ∀ (v8 : Nat), v8 = (if (woR ru (potL ru (nI (ru 7)).toInt64 (nI (toH gr ki ma hd L sd)).toInt64) (crH gr ki ma hd L sd) i) ≤ (woR ru (potL ru (nI (ru 7)).toInt64 (nI (toH gr ki ma hd L sd)).toInt64) (crH gr ki ma hd L sd) (bsR (woR ru (potL ru (nI (ru 7)).toInt64 (nI (toH gr ki ma hd L sd)).toInt64) (crH gr ki ma hd L sd)) i)) then (bsR (woR ru (potL ru (nI (ru 7)).toInt64 (nI (toH gr ki ma hd L sd)).toInt64) (crH gr ki ma hd L sd)) i) else i) → Xs κ g 34 0 0 cX9_best yX9_best (some .int) Q 0 0 74 [some (.ref aN), some (.int 0), some (.long (potL ru (nI (ru 7)).toInt64 (nI (toH gr ki ma hd L sd)).toInt64)), none, some (.int (nI ((bsR (woR ru (potL ru (nI (ru 7)).toInt64 (nI (toH gr ki ma hd L sd)).toInt64) (crH gr ki ma hd L sd)) i)))), some (.int (woR ru (potL ru (nI (ru 7)).toInt64 (nI (toH gr ki ma hd L sd)).toInt64) (crH gr ki ma hd L sd) (bsR (woR ru (potL ru (nI (ru 7)).toInt64 (nI (toH gr ki ma hd L sd)).toInt64) (crH gr ki ma hd L sd)) i))), some (.int (nI i)), some (.int (woR ru (potL ru (nI (ru 7)).toInt64 (nI (toH gr ki ma hd L sd)).toInt64) (crH gr ki ma hd L sd) i))] [.int (nI v8)] [(aN, .inr (9, [.ref aNs, .ref aNk, .int nkp, .ref aNf, .ref aNr, .ref aNp, .ref aNb, .ref aNa, .ref aNt, .int (nI nts), .ref aNbo, .ref aNsz, .ref aNnu, .int (nI z1), .int (nI z2), .int z3, .int 0, .int (nI z4), .int 0, .int 0, .int 0, .ref aNl, .ref aNal, .ref aNlo, .int (nI (toH gr ki ma hd L sd)), .ref aNw, .ref aNtr, .ref aNis, .ref aNbg, .ref aNow])), (aNs, .inl (g.2.1 0, 919, .inl (msF gr wk z lk sz br ru ki ma bb ce hd))), (aNt, .inl (g.2.1 0, 60, .inl (nIf tb))), (aNa, .inl (g.2.1 0, 2475, .inl (nIf fcN))), (aNr, .inl (g.2.1 0, 495, .inl (nIf rowB))), (aNb, .inl (g.2.1 0, 4096, .inl (nIf popN))), (aNl, .inl (g.2.1 0, 495, .inl (nIf sd))), (aNal, .inl (g.2.1 0, 495, .inl (nIf (crH gr ki ma hd L sd)))), (aNlo, .inl (g.2.1 0, 12, .inl (nIf z5))), (aNw, .inl (g.2.1 0, 1485, .inl (nIf (wiF (crH gr ki ma hd L sd)))))] := by
        intro v8 ev8
        refine x_istore (lv' := [some (.ref aN), some (.int 0), some (.long (potL ru (nI (ru 7)).toInt64 (nI (toH gr ki ma hd L sd)).toInt64)), none, some (.int (nI v8)), some (.int (woR ru (potL ru (nI (ru 7)).toInt64 (nI (toH gr ki ma hd L sd)).toInt64) (crH gr ki ma hd L sd) (bsR (woR ru (potL ru (nI (ru 7)).toInt64 (nI (toH gr ki ma hd L sd)).toInt64) (crH gr ki ma hd L sd)) i))), some (.int (nI i)), some (.int (woR ru (potL ru (nI (ru 7)).toInt64 (nI (toH gr ki ma hd L sd)).toInt64) (crH gr ki ma hd L sd) i))]) dX9_best_74 (xlt rfl) rfl ?_
        refine x_iload dX9_best_76 rfl ?_
        refine x_iload dX9_best_78 rfl ?_
        have J80_11 : ∀ (v10 : Int32), v10 = (if (woR ru (potL ru (nI (ru 7)).toInt64 (nI (toH gr ki ma hd L sd)).toInt64) (crH gr ki ma hd L sd) i) ≤ (woR ru (potL ru (nI (ru 7)).toInt64 (nI (toH gr ki ma hd L sd)).toInt64) (crH gr ki ma hd L sd) (bsR (woR ru (potL ru (nI (ru 7)).toInt64 (nI (toH gr ki ma hd L sd)).toInt64) (crH gr ki ma hd L sd)) i)) then woR ru (potL ru (nI (ru 7)).toInt64 (nI (toH gr ki ma hd L sd)).toInt64) (crH gr ki ma hd L sd) (bsR (woR ru (potL ru (nI (ru 7)).toInt64 (nI (toH gr ki ma hd L sd)).toInt64) (crH gr ki ma hd L sd)) i) else woR ru (potL ru (nI (ru 7)).toInt64 (nI (toH gr ki ma hd L sd)).toInt64) (crH gr ki ma hd L sd) i) → Xs κ g 34 0 0 cX9_best yX9_best (some .int) Q 0 0 90 [some (.ref aN), some (.int 0), some (.long (potL ru (nI (ru 7)).toInt64 (nI (toH gr ki ma hd L sd)).toInt64)), none, some (.int (nI v8)), some (.int (woR ru (potL ru (nI (ru 7)).toInt64 (nI (toH gr ki ma hd L sd)).toInt64) (crH gr ki ma hd L sd) (bsR (woR ru (potL ru (nI (ru 7)).toInt64 (nI (toH gr ki ma hd L sd)).toInt64) (crH gr ki ma hd L sd)) i))), some (.int (nI i)), some (.int (woR ru (potL ru (nI (ru 7)).toInt64 (nI (toH gr ki ma hd L sd)).toInt64) (crH gr ki ma hd L sd) i))] [.int v10] [(aN, .inr (9, [.ref aNs, .ref aNk, .int nkp, .ref aNf, .ref aNr, .ref aNp, .ref aNb, .ref aNa, .ref aNt, .int (nI nts), .ref aNbo, .ref aNsz, .ref aNnu, .int (nI z1), .int (nI z2), .int z3, .int 0, .int (nI z4), .int 0, .int 0, .int 0, .ref aNl, .ref aNal, .ref aNlo, .int (nI (toH gr ki ma hd L sd)), .ref aNw, .ref aNtr, .ref aNis, .ref aNbg, .ref aNow])), (aNs, .inl (g.2.1 0, 919, .inl (msF gr wk z lk sz br ru ki ma bb ce hd))), (aNt, .inl (g.2.1 0, 60, .inl (nIf tb))), (aNa, .inl (g.2.1 0, 2475, .inl (nIf fcN))), (aNr, .inl (g.2.1 0, 495, .inl (nIf rowB))), (aNb, .inl (g.2.1 0, 4096, .inl (nIf popN))), (aNl, .inl (g.2.1 0, 495, .inl (nIf sd))), (aNal, .inl (g.2.1 0, 495, .inl (nIf (crH gr ki ma hd L sd)))), (aNlo, .inl (g.2.1 0, 12, .inl (nIf z5))), (aNw, .inl (g.2.1 0, 1485, .inl (nIf (wiF (crH gr ki ma hd L sd)))))] := by
          intro v10 ev10
          refine x_istore (lv' := [some (.ref aN), some (.int 0), some (.long (potL ru (nI (ru 7)).toInt64 (nI (toH gr ki ma hd L sd)).toInt64)), none, some (.int (nI v8)), some (.int v10), some (.int (nI i)), some (.int (woR ru (potL ru (nI (ru 7)).toInt64 (nI (toH gr ki ma hd L sd)).toInt64) (crH gr ki ma hd L sd) i))]) dX9_best_90 (xlt rfl) rfl ?_
          refine x_iinc (lv' := [some (.ref aN), some (.int 0), some (.long (potL ru (nI (ru 7)).toInt64 (nI (toH gr ki ma hd L sd)).toInt64)), none, some (.int (nI v8)), some (.int v10), some (.int (nI (i + 1))), some (.int (woR ru (potL ru (nI (ru 7)).toInt64 (nI (toH gr ki ma hd L sd)).toInt64) (crH gr ki ma hd L sd) i))]) (nI (i + 1)) dX9_best_92 rfl (nI_addc i 1 rfl) rfl ?_
          refine x_goto dX9_best_95 ?_
          refine x_fgt (lv' := [some (.ref aN), some (.int 0), some (.long (potL ru (nI (ru 7)).toInt64 (nI (toH gr ki ma hd L sd)).toInt64)), none, some (.int (nI v8)), some (.int v10), some (.int (nI (i + 1))), none]) ⟨Or.inr rfl, Or.inr rfl, Or.inr rfl, Or.inl rfl, Or.inr rfl, Or.inr rfl, Or.inr rfl, Or.inl rfl, trivial⟩ ?_
          exact ih43 (by omega) v8 (by simp only [ev8]; rfl) _ (by simp only [ev10]; exact bs_most _ _)
        refine x_icmp_le dX9_best_80 (fun c80 => ?_) (fun c80 => ?_)
        · have c80 : (woR ru (potL ru (nI (ru 7)).toInt64 (nI (toH gr ki ma hd L sd)).toInt64) (crH gr ki ma hd L sd) i) ≤ (woR ru (potL ru (nI (ru 7)).toInt64 (nI (toH gr ki ma hd L sd)).toInt64) (crH gr ki ma hd L sd) (bsR (woR ru (potL ru (nI (ru 7)).toInt64 (nI (toH gr ki ma hd L sd)).toInt64) (crH gr ki ma hd L sd)) i)) := c80
          refine x_iload dX9_best_88 rfl ?_
          exact J80_11 _ (if_pos c80).symm
        · have c80 : ¬ ((woR ru (potL ru (nI (ru 7)).toInt64 (nI (toH gr ki ma hd L sd)).toInt64) (crH gr ki ma hd L sd) i) ≤ (woR ru (potL ru (nI (ru 7)).toInt64 (nI (toH gr ki ma hd L sd)).toInt64) (crH gr ki ma hd L sd) (bsR (woR ru (potL ru (nI (ru 7)).toInt64 (nI (toH gr ki ma hd L sd)).toInt64) (crH gr ki ma hd L sd)) i))) := c80
          refine x_iload dX9_best_83 rfl ?_
          refine x_goto dX9_best_85 ?_
          exact J80_11 _ (if_neg c80).symm
      refine x_icmp_le dX9_best_64 (fun c64 => ?_) (fun c64 => ?_)
      · have c64 : (woR ru (potL ru (nI (ru 7)).toInt64 (nI (toH gr ki ma hd L sd)).toInt64) (crH gr ki ma hd L sd) i) ≤ (woR ru (potL ru (nI (ru 7)).toInt64 (nI (toH gr ki ma hd L sd)).toInt64) (crH gr ki ma hd L sd) (bsR (woR ru (potL ru (nI (ru 7)).toInt64 (nI (toH gr ki ma hd L sd)).toInt64) (crH gr ki ma hd L sd)) i)) := c64
        refine x_iload dX9_best_72 rfl ?_
        exact J64_9 (bsR (woR ru (potL ru (nI (ru 7)).toInt64 (nI (toH gr ki ma hd L sd)).toInt64) (crH gr ki ma hd L sd)) i) (if_pos c64).symm
      · have c64 : ¬ ((woR ru (potL ru (nI (ru 7)).toInt64 (nI (toH gr ki ma hd L sd)).toInt64) (crH gr ki ma hd L sd) i) ≤ (woR ru (potL ru (nI (ru 7)).toInt64 (nI (toH gr ki ma hd L sd)).toInt64) (crH gr ki ma hd L sd) (bsR (woR ru (potL ru (nI (ru 7)).toInt64 (nI (toH gr ki ma hd L sd)).toInt64) (crH gr ki ma hd L sd)) i))) := c64
        refine x_iload dX9_best_67 rfl ?_
        refine x_goto dX9_best_69 ?_
        exact J64_9 i (if_neg c64).symm
  exact L43_7 1 (by omega) 0 (by simp [bsR]) _ (by simp [bsR])

-- == nbest_1 ==
set_option maxRecDepth 100000 in
set_option maxHeartbeats 4000000 in
theorem ct_nbest_1 (l : Launch) (g : XG) (aN aNs aNk aNf aNr aNp aNb aNa aNt aNbo aNsz aNnu aNl aNal aNlo aNw aNtr aNis aNbg aNow nts nta nop npr nac : Nat) (nkp nbd nnw nsn nwn : Int32) (gr wk lk sz br : Nat) (z : Int32) (ru ki ma bb hd : Nat → Nat) (ce : Nat → Int32) (tb nli nal nlo sd : Nat → Nat) (L : Nat) (nwi : Nat → Nat) (hgr : gr ≤ 12) (hki : ∀ j, ki j ≤ 7) (hma : ∀ j, ma j ≤ 99999) (hwk : wk ≤ 40) (hlat : latI ce wk = nI L) (hL : L < 4096) (hsz : sz ≤ 60) (hbb : ∀ j, bb j < 256) (hsd : ∀ p, sd p ≤ 99) (hsv : ∀ p, p < 495 → sd p = if lk = 1 then clN (txV bb sz wk L p) else 1) (hlk : lk ≤ 1) (hwo : (nnw = 1 ∧ (nsn = 1 ∨ (nsn = 0 ∧ nli = sd))) ∨ (nnw = 0 ∧ nsn = 0 ∧ nli = sd ∧ nal = crH gr ki ma hd L sd ∧ nac = toH gr ki ma hd L sd ∧ ∀ q, q < gr → nlo q = laN (ki q) (ma q) L sd)) (hwc : wnI nnw nwn = 1 ∨ (wnI nnw nwn = 0 ∧ nwi = wiF (crH gr ki ma hd L sd))) (htot : toH gr ki ma hd L sd < 2 ^ 30) : Ct l g 34 0 0 yX9_best cX9_best 8 (some .int) [.ref aN, .int 1] [(aN, .inr (9, [.ref aNs, .ref aNk, .int nkp, .ref aNf, .ref aNr, .ref aNp, .ref aNb, .ref aNa, .ref aNt, .int (nI nts), .ref aNbo, .ref aNsz, .ref aNnu, .int (nI nta), .int (nI nop), .int nbd, .int 0, .int (nI npr), .int nnw, .int nsn, .int nwn, .ref aNl, .ref aNal, .ref aNlo, .int (nI nac), .ref aNw, .ref aNtr, .ref aNis, .ref aNbg, .ref aNow])), (aNs, .inl (g.2.1 0, 919, .inl (msF gr wk z lk sz br ru ki ma bb ce hd))), (aNt, .inl (g.2.1 0, 60, .inl (nIf tb))), (aNa, .inl (g.2.1 0, 2475, .inl (nIf fcN))), (aNr, .inl (g.2.1 0, 495, .inl (nIf rowB))), (aNb, .inl (g.2.1 0, 4096, .inl (nIf popN))), (aNl, .inl (g.2.1 0, 495, .inl (nIf nli))), (aNal, .inl (g.2.1 0, 495, .inl (nIf nal))), (aNlo, .inl (g.2.1 0, 12, .inl (nIf nlo))), (aNw, .inl (g.2.1 0, 1485, .inl (nIf nwi)))] (fun vv_ ww_ => ∃ (zat : Nat) (zop : Nat) (zbd : Int32) (zpr : Nat) (lo2 : Nat → Nat), vv_ = some (.int (woR ru (potL ru (nI (ru 7)).toInt64 (nI (toH gr ki ma hd L sd)).toInt64) (crH gr ki ma hd L sd) (bsR (woR ru (potL ru (nI (ru 7)).toInt64 (nI (toH gr ki ma hd L sd)).toInt64) (crH gr ki ma hd L sd)) 495))) ∧ ww_ = [(aN, .inr (9, [.ref aNs, .ref aNk, .int nkp, .ref aNf, .ref aNr, .ref aNp, .ref aNb, .ref aNa, .ref aNt, .int (nI nts), .ref aNbo, .ref aNsz, .ref aNnu, .int (nI zat), .int (nI zop), .int zbd, .int 0, .int (nI zpr), .int 0, .int 0, .int 0, .ref aNl, .ref aNal, .ref aNlo, .int (nI (toH gr ki ma hd L sd)), .ref aNw, .ref aNtr, .ref aNis, .ref aNbg, .ref aNow])), (aNs, .inl (g.2.1 0, 919, .inl (msF gr wk z lk sz br ru ki ma bb ce hd))), (aNt, .inl (g.2.1 0, 60, .inl (nIf tb))), (aNa, .inl (g.2.1 0, 2475, .inl (nIf fcN))), (aNr, .inl (g.2.1 0, 495, .inl (nIf rowB))), (aNb, .inl (g.2.1 0, 4096, .inl (nIf popN))), (aNl, .inl (g.2.1 0, 495, .inl (nIf sd))), (aNal, .inl (g.2.1 0, 495, .inl (nIf (crH gr ki ma hd L sd)))), (aNlo, .inl (g.2.1 0, 12, .inl (nIf lo2))), (aNw, .inl (g.2.1 0, 1485, .inl (nIf (wiF (crH gr ki ma hd L sd)))))] ∧ (∀ q, q < gr → lo2 q = laN (ki q) (ma q) L sd)) := by
  refine Ct.ofX (lv := [some (.ref aN), some (.int 1), none, none, none, none, none, none]) (by decide) rfl (Nat.le_of_ble_eq_true rfl) (fun κ => ?_)
  generalize hQ : xQ κ g 0 0 _ = Q
  refine x_iload_n dX9_best_0 rfl ?_
  refine x_i2l dX9_best_1 ?_
  refine x_lconst 0 dX9_best_2 (by decide) ?_
  refine x_lconst 1 dX9_best_3 (by decide) ?_
  refine x_cSi dX9_best_4 ml_X9_98 mX9_isIn (ct_X9_isIn κ.2.1 g ((1 : Int32).toInt64) 0 1) rfl (Nat.le_of_ble_eq_true rfl) (by decide) (Nat.le_refl _) (Nat.le_refl _) ?_
  refine x_rei (1) (by decide) ?_
  refine x_if_ne dX9_best_7 (fun c7 => ?_) (fun c7 => ?_)
  rotate_left
  · exact absurd c7 (by decide)
  refine x_aload_n dX9_best_17 rfl ?_
  refine x_aload_n dX9_best_18 rfl ?_
  refine x_get dX9_best_19 0 0 inX9 fl_X9_7 rfl rfl (by decide) rfl ?_
  refine x_bipush 17 dX9_best_22 (by decide) ?_
  refine x_iald dX9_best_24 1 17 rfl (rfl) (by decide) (by decide) ?_
  refine x_rei (nI (ru 7)) (msg_ru (x := 7) (by omega) (by omega)) ?_
  refine x_callV dX9_best_25 ml_X9_208 mX9_potWith (ct_X9_potWith κ.2.1 g aN aNs aNk aNf aNr aNp aNb aNa aNt aNbo aNsz aNnu aNl aNal aNlo aNw aNtr aNis aNbg aNow nts nta nop npr nac nkp nbd nnw nsn nwn gr wk lk sz br z ru ki ma bb hd ce tb nli nal nlo sd L (ru 7) (hgr) (hki) (hma) (hwk) (hlat) (hL) (hsz) (hbb) (hsd) (hsv) (hlk) (hwo)) [0, 1, 2, 3, 4, 5, 6, 7, 8] rfl rfl 0 rfl rfl rfl (Nat.le_of_ble_eq_true rfl) (by decide) (Nat.le_refl _) (Nat.le_refl _) (fun vv ww hp => ?_)
  obtain ⟨z1, z2, z3, z4, z5, rfl, rfl, p6⟩ := hp
  refine ⟨(rfl : [aN, aNs, aNt, aNa, aNr, aNb, aNl, aNal, aNlo] = [aN, aNs, aNt, aNa, aNr, aNb, aNl, aNal, aNlo]), x_eq (lv' := [some (.ref aN), some (.int 1), none, none, none, none, none, none]) (st' := [.long (potL ru (nI (ru 7)).toInt64 (nI (toH gr ki ma hd L sd)).toInt64)]) (ws' := [(aN, .inr (9, [.ref aNs, .ref aNk, .int nkp, .ref aNf, .ref aNr, .ref aNp, .ref aNb, .ref aNa, .ref aNt, .int (nI nts), .ref aNbo, .ref aNsz, .ref aNnu, .int (nI z1), .int (nI z2), .int z3, .int 0, .int (nI z4), .int 0, .int 0, .int (wnI nnw nwn), .ref aNl, .ref aNal, .ref aNlo, .int (nI (toH gr ki ma hd L sd)), .ref aNw, .ref aNtr, .ref aNis, .ref aNbg, .ref aNow])), (aNs, .inl (g.2.1 0, 919, .inl (msF gr wk z lk sz br ru ki ma bb ce hd))), (aNt, .inl (g.2.1 0, 60, .inl (nIf tb))), (aNa, .inl (g.2.1 0, 2475, .inl (nIf fcN))), (aNr, .inl (g.2.1 0, 495, .inl (nIf rowB))), (aNb, .inl (g.2.1 0, 4096, .inl (nIf popN))), (aNl, .inl (g.2.1 0, 495, .inl (nIf sd))), (aNal, .inl (g.2.1 0, 495, .inl (nIf (crH gr ki ma hd L sd)))), (aNlo, .inl (g.2.1 0, 12, .inl (nIf z5))), (aNw, .inl (g.2.1 0, 1485, .inl (nIf nwi)))]) ?_ rfl rfl rfl⟩
  refine x_lstore_n (lv' := [some (.ref aN), some (.int 1), some (.long (potL ru (nI (ru 7)).toInt64 (nI (toH gr ki ma hd L sd)).toInt64)), none, none, none, none, none]) dX9_best_28 (xlt rfl) rfl ?_
  refine x_iconst 0 dX9_best_29 (by decide) ?_
  refine x_istore (lv' := [some (.ref aN), some (.int 1), some (.long (potL ru (nI (ru 7)).toInt64 (nI (toH gr ki ma hd L sd)).toInt64)), none, some (.int 0), none, none, none]) dX9_best_30 (xlt rfl) rfl ?_
  refine x_aload_n dX9_best_32 rfl ?_
  refine x_iconst 0 dX9_best_33 (by decide) ?_
  refine x_lload_n dX9_best_34 rfl ?_
  refine x_cVi (ws' := [(aN, .inr (9, [.ref aNs, .ref aNk, .int nkp, .ref aNf, .ref aNr, .ref aNp, .ref aNb, .ref aNa, .ref aNt, .int (nI nts), .ref aNbo, .ref aNsz, .ref aNnu, .int (nI z1), .int (nI z2), .int z3, .int 0, .int (nI z4), .int 0, .int 0, .int 0, .ref aNl, .ref aNal, .ref aNlo, .int (nI (toH gr ki ma hd L sd)), .ref aNw, .ref aNtr, .ref aNis, .ref aNbg, .ref aNow])), (aNs, .inl (g.2.1 0, 919, .inl (msF gr wk z lk sz br ru ki ma bb ce hd))), (aNt, .inl (g.2.1 0, 60, .inl (nIf tb))), (aNa, .inl (g.2.1 0, 2475, .inl (nIf fcN))), (aNr, .inl (g.2.1 0, 495, .inl (nIf rowB))), (aNb, .inl (g.2.1 0, 4096, .inl (nIf popN))), (aNl, .inl (g.2.1 0, 495, .inl (nIf sd))), (aNal, .inl (g.2.1 0, 495, .inl (nIf (crH gr ki ma hd L sd)))), (aNlo, .inl (g.2.1 0, 12, .inl (nIf z5))), (aNw, .inl (g.2.1 0, 1485, .inl (nIf (wiF (crH gr ki ma hd L sd)))))]) dX9_best_35 ml_X9_235 mX9_worthOf (ct_X9_worthOf κ.2.1 g aN aNs aNk aNf aNr aNp aNb aNa aNt aNbo aNsz aNnu aNl aNal aNlo aNw aNtr aNis aNbg aNow nts z1 z2 z4 (toH gr ki ma hd L sd) nkp z3 0 0 (wnI nnw nwn) (crH gr ki ma hd L sd) nwi gr wk lk sz br z ru ki ma bb hd ce 0 (potL ru (nI (ru 7)).toInt64 (nI (toH gr ki ma hd L sd)).toInt64) (hwc) (by decide) (htot)) [0, 4, 5, 7, 9, 1] rfl rfl 0 rfl rfl rfl (Nat.le_of_ble_eq_true rfl) (by decide) (Nat.le_refl _) (Nat.le_refl _) (rfl : [aN, aNr, aNb, aNal, aNw, aNs] = [aN, aNr, aNb, aNal, aNw, aNs]) rfl ?_
  refine x_istore (lv' := [some (.ref aN), some (.int 1), some (.long (potL ru (nI (ru 7)).toInt64 (nI (toH gr ki ma hd L sd)).toInt64)), none, some (.int 0), some (.int (woR ru (potL ru (nI (ru 7)).toInt64 (nI (toH gr ki ma hd L sd)).toInt64) (crH gr ki ma hd L sd) 0)), none, none]) dX9_best_38 (xlt rfl) rfl ?_
  refine x_iconst 1 dX9_best_40 (by decide) ?_
  refine x_istore (lv' := [some (.ref aN), some (.int 1), some (.long (potL ru (nI (ru 7)).toInt64 (nI (toH gr ki ma hd L sd)).toInt64)), none, some (.int 0), some (.int (woR ru (potL ru (nI (ru 7)).toInt64 (nI (toH gr ki ma hd L sd)).toInt64) (crH gr ki ma hd L sd) 0)), some (.int 1), none]) dX9_best_41 (xlt rfl) rfl ?_
  have L43_7 : ∀ (i : Nat), i ≤ 495 → ∀ (bs : Nat), bs = bsR (woR ru (potL ru (nI (ru 7)).toInt64 (nI (toH gr ki ma hd L sd)).toInt64) (crH gr ki ma hd L sd)) i → ∀ (mo : Int32), mo = woR ru (potL ru (nI (ru 7)).toInt64 (nI (toH gr ki ma hd L sd)).toInt64) (crH gr ki ma hd L sd) (bsR (woR ru (potL ru (nI (ru 7)).toInt64 (nI (toH gr ki ma hd L sd)).toInt64) (crH gr ki ma hd L sd)) i) → Xs κ g 34 0 0 cX9_best yX9_best (some .int) Q 0 0 43 [some (.ref aN), some (.int 1), some (.long (potL ru (nI (ru 7)).toInt64 (nI (toH gr ki ma hd L sd)).toInt64)), none, some (.int (nI bs)), some (.int mo), some (.int (nI i)), none] [] [(aN, .inr (9, [.ref aNs, .ref aNk, .int nkp, .ref aNf, .ref aNr, .ref aNp, .ref aNb, .ref aNa, .ref aNt, .int (nI nts), .ref aNbo, .ref aNsz, .ref aNnu, .int (nI z1), .int (nI z2), .int z3, .int 0, .int (nI z4), .int 0, .int 0, .int 0, .ref aNl, .ref aNal, .ref aNlo, .int (nI (toH gr ki ma hd L sd)), .ref aNw, .ref aNtr, .ref aNis, .ref aNbg, .ref aNow])), (aNs, .inl (g.2.1 0, 919, .inl (msF gr wk z lk sz br ru ki ma bb ce hd))), (aNt, .inl (g.2.1 0, 60, .inl (nIf tb))), (aNa, .inl (g.2.1 0, 2475, .inl (nIf fcN))), (aNr, .inl (g.2.1 0, 495, .inl (nIf rowB))), (aNb, .inl (g.2.1 0, 4096, .inl (nIf popN))), (aNl, .inl (g.2.1 0, 495, .inl (nIf sd))), (aNal, .inl (g.2.1 0, 495, .inl (nIf (crH gr ki ma hd L sd)))), (aNlo, .inl (g.2.1 0, 12, .inl (nIf z5))), (aNw, .inl (g.2.1 0, 1485, .inl (nIf (wiF (crH gr ki ma hd L sd)))))] := by
    refine upTo 495 (fun i hi43 ih43 => ?_)
    intro bs ebs
    subst ebs
    intro mo emo
    subst emo
    refine x_iload dX9_best_43 rfl ?_
    refine x_sipush 495 dX9_best_45 (by decide) ?_
    refine x_icmp_ge dX9_best_48 (fun c48 => ?_) (fun c48 => ?_)
    · have c48 : 495 ≤ (nI i) := c48
      have c48n := (nI_leI (a := 495) (b := i) (by omega) (by omega)).mp c48
      have hxc48 : i = 495 := by omega
      try rw [hxc48]
      refine x_iload_n dX9_best_98 rfl ?_
      refine x_if_ne dX9_best_99 (fun c99 => ?_) (fun c99 => ?_)
      rotate_left
      · exact absurd c99 (by decide)
      refine x_iload dX9_best_107 rfl ?_
      rw [← hQ]
      refine x_iret dX9_best_109 rfl (Nat.le_of_ble_eq_true rfl) (Nat.le_of_ble_eq_true rfl) ?_
      exact ⟨_, _, _, _, _, rfl, rfl, p6⟩
    · have c48 : ¬ (495 ≤ (nI i)) := c48
      have c48n := mt (nI_leI (a := 495) (b := i) (by omega) (by omega)).mpr c48
      refine x_aload_n dX9_best_51 rfl ?_
      refine x_iload dX9_best_52 rfl ?_
      refine x_lload_n dX9_best_54 rfl ?_
      refine x_cVi (ws' := [(aN, .inr (9, [.ref aNs, .ref aNk, .int nkp, .ref aNf, .ref aNr, .ref aNp, .ref aNb, .ref aNa, .ref aNt, .int (nI nts), .ref aNbo, .ref aNsz, .ref aNnu, .int (nI z1), .int (nI z2), .int z3, .int 0, .int (nI z4), .int 0, .int 0, .int 0, .ref aNl, .ref aNal, .ref aNlo, .int (nI (toH gr ki ma hd L sd)), .ref aNw, .ref aNtr, .ref aNis, .ref aNbg, .ref aNow])), (aNs, .inl (g.2.1 0, 919, .inl (msF gr wk z lk sz br ru ki ma bb ce hd))), (aNt, .inl (g.2.1 0, 60, .inl (nIf tb))), (aNa, .inl (g.2.1 0, 2475, .inl (nIf fcN))), (aNr, .inl (g.2.1 0, 495, .inl (nIf rowB))), (aNb, .inl (g.2.1 0, 4096, .inl (nIf popN))), (aNl, .inl (g.2.1 0, 495, .inl (nIf sd))), (aNal, .inl (g.2.1 0, 495, .inl (nIf (crH gr ki ma hd L sd)))), (aNlo, .inl (g.2.1 0, 12, .inl (nIf z5))), (aNw, .inl (g.2.1 0, 1485, .inl (nIf (wiF (crH gr ki ma hd L sd)))))]) dX9_best_55 ml_X9_235 mX9_worthOf (ct_X9_worthOf κ.2.1 g aN aNs aNk aNf aNr aNp aNb aNa aNt aNbo aNsz aNnu aNl aNal aNlo aNw aNtr aNis aNbg aNow nts z1 z2 z4 (toH gr ki ma hd L sd) nkp z3 0 0 0 (crH gr ki ma hd L sd) (wiF (crH gr ki ma hd L sd)) gr wk lk sz br z ru ki ma bb hd ce i (potL ru (nI (ru 7)).toInt64 (nI (toH gr ki ma hd L sd)).toInt64) (Or.inr ⟨rfl, rfl⟩) (by omega) (htot)) [0, 4, 5, 7, 9, 1] rfl rfl 0 rfl rfl rfl (Nat.le_of_ble_eq_true rfl) (by decide) (Nat.le_refl _) (Nat.le_refl _) (rfl : [aN, aNr, aNb, aNal, aNw, aNs] = [aN, aNr, aNb, aNal, aNw, aNs]) rfl ?_
      refine x_istore (lv' := [some (.ref aN), some (.int 1), some (.long (potL ru (nI (ru 7)).toInt64 (nI (toH gr ki ma hd L sd)).toInt64)), none, some (.int (nI ((bsR (woR ru (potL ru (nI (ru 7)).toInt64 (nI (toH gr ki ma hd L sd)).toInt64) (crH gr ki ma hd L sd)) i)))), some (.int (woR ru (potL ru (nI (ru 7)).toInt64 (nI (toH gr ki ma hd L sd)).toInt64) (crH gr ki ma hd L sd) (bsR (woR ru (potL ru (nI (ru 7)).toInt64 (nI (toH gr ki ma hd L sd)).toInt64) (crH gr ki ma hd L sd)) i))), some (.int (nI i)), some (.int (woR ru (potL ru (nI (ru 7)).toInt64 (nI (toH gr ki ma hd L sd)).toInt64) (crH gr ki ma hd L sd) i))]) dX9_best_58 (xlt rfl) rfl ?_
      refine x_iload dX9_best_60 rfl ?_
      refine x_iload dX9_best_62 rfl ?_
      have J64_9 : ∀ (v8 : Nat), v8 = (if (woR ru (potL ru (nI (ru 7)).toInt64 (nI (toH gr ki ma hd L sd)).toInt64) (crH gr ki ma hd L sd) i) ≤ (woR ru (potL ru (nI (ru 7)).toInt64 (nI (toH gr ki ma hd L sd)).toInt64) (crH gr ki ma hd L sd) (bsR (woR ru (potL ru (nI (ru 7)).toInt64 (nI (toH gr ki ma hd L sd)).toInt64) (crH gr ki ma hd L sd)) i)) then (bsR (woR ru (potL ru (nI (ru 7)).toInt64 (nI (toH gr ki ma hd L sd)).toInt64) (crH gr ki ma hd L sd)) i) else i) → Xs κ g 34 0 0 cX9_best yX9_best (some .int) Q 0 0 74 [some (.ref aN), some (.int 1), some (.long (potL ru (nI (ru 7)).toInt64 (nI (toH gr ki ma hd L sd)).toInt64)), none, some (.int (nI ((bsR (woR ru (potL ru (nI (ru 7)).toInt64 (nI (toH gr ki ma hd L sd)).toInt64) (crH gr ki ma hd L sd)) i)))), some (.int (woR ru (potL ru (nI (ru 7)).toInt64 (nI (toH gr ki ma hd L sd)).toInt64) (crH gr ki ma hd L sd) (bsR (woR ru (potL ru (nI (ru 7)).toInt64 (nI (toH gr ki ma hd L sd)).toInt64) (crH gr ki ma hd L sd)) i))), some (.int (nI i)), some (.int (woR ru (potL ru (nI (ru 7)).toInt64 (nI (toH gr ki ma hd L sd)).toInt64) (crH gr ki ma hd L sd) i))] [.int (nI v8)] [(aN, .inr (9, [.ref aNs, .ref aNk, .int nkp, .ref aNf, .ref aNr, .ref aNp, .ref aNb, .ref aNa, .ref aNt, .int (nI nts), .ref aNbo, .ref aNsz, .ref aNnu, .int (nI z1), .int (nI z2), .int z3, .int 0, .int (nI z4), .int 0, .int 0, .int 0, .ref aNl, .ref aNal, .ref aNlo, .int (nI (toH gr ki ma hd L sd)), .ref aNw, .ref aNtr, .ref aNis, .ref aNbg, .ref aNow])), (aNs, .inl (g.2.1 0, 919, .inl (msF gr wk z lk sz br ru ki ma bb ce hd))), (aNt, .inl (g.2.1 0, 60, .inl (nIf tb))), (aNa, .inl (g.2.1 0, 2475, .inl (nIf fcN))), (aNr, .inl (g.2.1 0, 495, .inl (nIf rowB))), (aNb, .inl (g.2.1 0, 4096, .inl (nIf popN))), (aNl, .inl (g.2.1 0, 495, .inl (nIf sd))), (aNal, .inl (g.2.1 0, 495, .inl (nIf (crH gr ki ma hd L sd)))), (aNlo, .inl (g.2.1 0, 12, .inl (nIf z5))), (aNw, .inl (g.2.1 0, 1485, .inl (nIf (wiF (crH gr ki ma hd L sd)))))] := by
        intro v8 ev8
        refine x_istore (lv' := [some (.ref aN), some (.int 1), some (.long (potL ru (nI (ru 7)).toInt64 (nI (toH gr ki ma hd L sd)).toInt64)), none, some (.int (nI v8)), some (.int (woR ru (potL ru (nI (ru 7)).toInt64 (nI (toH gr ki ma hd L sd)).toInt64) (crH gr ki ma hd L sd) (bsR (woR ru (potL ru (nI (ru 7)).toInt64 (nI (toH gr ki ma hd L sd)).toInt64) (crH gr ki ma hd L sd)) i))), some (.int (nI i)), some (.int (woR ru (potL ru (nI (ru 7)).toInt64 (nI (toH gr ki ma hd L sd)).toInt64) (crH gr ki ma hd L sd) i))]) dX9_best_74 (xlt rfl) rfl ?_
        refine x_iload dX9_best_76 rfl ?_
        refine x_iload dX9_best_78 rfl ?_
        have J80_11 : ∀ (v10 : Int32), v10 = (if (woR ru (potL ru (nI (ru 7)).toInt64 (nI (toH gr ki ma hd L sd)).toInt64) (crH gr ki ma hd L sd) i) ≤ (woR ru (potL ru (nI (ru 7)).toInt64 (nI (toH gr ki ma hd L sd)).toInt64) (crH gr ki ma hd L sd) (bsR (woR ru (potL ru (nI (ru 7)).toInt64 (nI (toH gr ki ma hd L sd)).toInt64) (crH gr ki ma hd L sd)) i)) then woR ru (potL ru (nI (ru 7)).toInt64 (nI (toH gr ki ma hd L sd)).toInt64) (crH gr ki ma hd L sd) (bsR (woR ru (potL ru (nI (ru 7)).toInt64 (nI (toH gr ki ma hd L sd)).toInt64) (crH gr ki ma hd L sd)) i) else woR ru (potL ru (nI (ru 7)).toInt64 (nI (toH gr ki ma hd L sd)).toInt64) (crH gr ki ma hd L sd) i) → Xs κ g 34 0 0 cX9_best yX9_best (some .int) Q 0 0 90 [some (.ref aN), some (.int 1), some (.long (potL ru (nI (ru 7)).toInt64 (nI (toH gr ki ma hd L sd)).toInt64)), none, some (.int (nI v8)), some (.int (woR ru (potL ru (nI (ru 7)).toInt64 (nI (toH gr ki ma hd L sd)).toInt64) (crH gr ki ma hd L sd) (bsR (woR ru (potL ru (nI (ru 7)).toInt64 (nI (toH gr ki ma hd L sd)).toInt64) (crH gr ki ma hd L sd)) i))), some (.int (nI i)), some (.int (woR ru (potL ru (nI (ru 7)).toInt64 (nI (toH gr ki ma hd L sd)).toInt64) (crH gr ki ma hd L sd) i))] [.int v10] [(aN, .inr (9, [.ref aNs, .ref aNk, .int nkp, .ref aNf, .ref aNr, .ref aNp, .ref aNb, .ref aNa, .ref aNt, .int (nI nts), .ref aNbo, .ref aNsz, .ref aNnu, .int (nI z1), .int (nI z2), .int z3, .int 0, .int (nI z4), .int 0, .int 0, .int 0, .ref aNl, .ref aNal, .ref aNlo, .int (nI (toH gr ki ma hd L sd)), .ref aNw, .ref aNtr, .ref aNis, .ref aNbg, .ref aNow])), (aNs, .inl (g.2.1 0, 919, .inl (msF gr wk z lk sz br ru ki ma bb ce hd))), (aNt, .inl (g.2.1 0, 60, .inl (nIf tb))), (aNa, .inl (g.2.1 0, 2475, .inl (nIf fcN))), (aNr, .inl (g.2.1 0, 495, .inl (nIf rowB))), (aNb, .inl (g.2.1 0, 4096, .inl (nIf popN))), (aNl, .inl (g.2.1 0, 495, .inl (nIf sd))), (aNal, .inl (g.2.1 0, 495, .inl (nIf (crH gr ki ma hd L sd)))), (aNlo, .inl (g.2.1 0, 12, .inl (nIf z5))), (aNw, .inl (g.2.1 0, 1485, .inl (nIf (wiF (crH gr ki ma hd L sd)))))] := by
          intro v10 ev10
          refine x_istore (lv' := [some (.ref aN), some (.int 1), some (.long (potL ru (nI (ru 7)).toInt64 (nI (toH gr ki ma hd L sd)).toInt64)), none, some (.int (nI v8)), some (.int v10), some (.int (nI i)), some (.int (woR ru (potL ru (nI (ru 7)).toInt64 (nI (toH gr ki ma hd L sd)).toInt64) (crH gr ki ma hd L sd) i))]) dX9_best_90 (xlt rfl) rfl ?_
          refine x_iinc (lv' := [some (.ref aN), some (.int 1), some (.long (potL ru (nI (ru 7)).toInt64 (nI (toH gr ki ma hd L sd)).toInt64)), none, some (.int (nI v8)), some (.int v10), some (.int (nI (i + 1))), some (.int (woR ru (potL ru (nI (ru 7)).toInt64 (nI (toH gr ki ma hd L sd)).toInt64) (crH gr ki ma hd L sd) i))]) (nI (i + 1)) dX9_best_92 rfl (nI_addc i 1 rfl) rfl ?_
          refine x_goto dX9_best_95 ?_
          refine x_fgt (lv' := [some (.ref aN), some (.int 1), some (.long (potL ru (nI (ru 7)).toInt64 (nI (toH gr ki ma hd L sd)).toInt64)), none, some (.int (nI v8)), some (.int v10), some (.int (nI (i + 1))), none]) ⟨Or.inr rfl, Or.inr rfl, Or.inr rfl, Or.inl rfl, Or.inr rfl, Or.inr rfl, Or.inr rfl, Or.inl rfl, trivial⟩ ?_
          exact ih43 (by omega) v8 (by simp only [ev8]; rfl) _ (by simp only [ev10]; exact bs_most _ _)
        refine x_icmp_le dX9_best_80 (fun c80 => ?_) (fun c80 => ?_)
        · have c80 : (woR ru (potL ru (nI (ru 7)).toInt64 (nI (toH gr ki ma hd L sd)).toInt64) (crH gr ki ma hd L sd) i) ≤ (woR ru (potL ru (nI (ru 7)).toInt64 (nI (toH gr ki ma hd L sd)).toInt64) (crH gr ki ma hd L sd) (bsR (woR ru (potL ru (nI (ru 7)).toInt64 (nI (toH gr ki ma hd L sd)).toInt64) (crH gr ki ma hd L sd)) i)) := c80
          refine x_iload dX9_best_88 rfl ?_
          exact J80_11 _ (if_pos c80).symm
        · have c80 : ¬ ((woR ru (potL ru (nI (ru 7)).toInt64 (nI (toH gr ki ma hd L sd)).toInt64) (crH gr ki ma hd L sd) i) ≤ (woR ru (potL ru (nI (ru 7)).toInt64 (nI (toH gr ki ma hd L sd)).toInt64) (crH gr ki ma hd L sd) (bsR (woR ru (potL ru (nI (ru 7)).toInt64 (nI (toH gr ki ma hd L sd)).toInt64) (crH gr ki ma hd L sd)) i))) := c80
          refine x_iload dX9_best_83 rfl ?_
          refine x_goto dX9_best_85 ?_
          exact J80_11 _ (if_neg c80).symm
      refine x_icmp_le dX9_best_64 (fun c64 => ?_) (fun c64 => ?_)
      · have c64 : (woR ru (potL ru (nI (ru 7)).toInt64 (nI (toH gr ki ma hd L sd)).toInt64) (crH gr ki ma hd L sd) i) ≤ (woR ru (potL ru (nI (ru 7)).toInt64 (nI (toH gr ki ma hd L sd)).toInt64) (crH gr ki ma hd L sd) (bsR (woR ru (potL ru (nI (ru 7)).toInt64 (nI (toH gr ki ma hd L sd)).toInt64) (crH gr ki ma hd L sd)) i)) := c64
        refine x_iload dX9_best_72 rfl ?_
        exact J64_9 (bsR (woR ru (potL ru (nI (ru 7)).toInt64 (nI (toH gr ki ma hd L sd)).toInt64) (crH gr ki ma hd L sd)) i) (if_pos c64).symm
      · have c64 : ¬ ((woR ru (potL ru (nI (ru 7)).toInt64 (nI (toH gr ki ma hd L sd)).toInt64) (crH gr ki ma hd L sd) i) ≤ (woR ru (potL ru (nI (ru 7)).toInt64 (nI (toH gr ki ma hd L sd)).toInt64) (crH gr ki ma hd L sd) (bsR (woR ru (potL ru (nI (ru 7)).toInt64 (nI (toH gr ki ma hd L sd)).toInt64) (crH gr ki ma hd L sd)) i))) := c64
        refine x_iload dX9_best_67 rfl ?_
        refine x_goto dX9_best_69 ?_
        exact J64_9 i (if_neg c64).symm
  exact L43_7 1 (by omega) 0 (by simp [bsR]) _ (by simp [bsR])

-- == nline_b ==
theorem dX9_line_0 : xd cX9_line 0 (.iload_n 1) 1 1 := ⟨by decide +kernel, rfl⟩
theorem dX9_line_1 : xd cX9_line 1 (.invokestatic 92) 3 4 := ⟨by decide +kernel, rfl⟩
theorem dX9_line_4 : xj cX9_line 4 (.ifCond .ne) 7 14 := ⟨10, by decide +kernel, rfl, by decide⟩
theorem dX9_line_7 : xd cX9_line 7 (.aload_n 0) 1 8 := ⟨by decide +kernel, rfl⟩
theorem dX9_line_8 : xd cX9_line 8 (.ldc 87) 2 10 := ⟨by decide +kernel, rfl⟩
theorem dX9_line_10 : xd cX9_line 10 (.invokevirtual 88) 3 13 := ⟨by decide +kernel, rfl⟩
theorem dX9_line_13 : xd cX9_line 13 .ireturn 1 14 := ⟨by decide +kernel, rfl⟩
theorem dX9_line_14 : xd cX9_line 14 (.aload_n 0) 1 15 := ⟨by decide +kernel, rfl⟩
theorem dX9_line_15 : xd cX9_line 15 (.iload_n 1) 1 16 := ⟨by decide +kernel, rfl⟩
theorem dX9_line_16 : xd cX9_line 16 (.aload_n 0) 1 17 := ⟨by decide +kernel, rfl⟩
theorem dX9_line_17 : xd cX9_line 17 (.ldc 205) 2 19 := ⟨by decide +kernel, rfl⟩
theorem dX9_line_19 : xd cX9_line 19 (.invokevirtual 208) 3 22 := ⟨by decide +kernel, rfl⟩
theorem dX9_line_22 : xd cX9_line 22 (.invokevirtual 235) 3 25 := ⟨by decide +kernel, rfl⟩
theorem dX9_line_25 : xd cX9_line 25 (.aload_n 0) 1 26 := ⟨by decide +kernel, rfl⟩
theorem dX9_line_26 : xd cX9_line 26 (.getfield 7) 3 29 := ⟨by decide +kernel, rfl⟩
theorem dX9_line_29 : xd cX9_line 29 (.bipush 10) 2 31 := ⟨by decide +kernel, rfl⟩
theorem dX9_line_31 : xd cX9_line 31 .iaload 1 32 := ⟨by decide +kernel, rfl⟩
theorem dX9_line_32 : xj cX9_line 32 (.if_icmp .ge) 35 42 := ⟨10, by decide +kernel, rfl, by decide⟩
theorem dX9_line_35 : xd cX9_line 35 (.aload_n 0) 1 36 := ⟨by decide +kernel, rfl⟩
theorem dX9_line_36 : xd cX9_line 36 (.ldc 239) 2 38 := ⟨by decide +kernel, rfl⟩
theorem dX9_line_38 : xd cX9_line 38 (.invokevirtual 88) 3 41 := ⟨by decide +kernel, rfl⟩
theorem dX9_line_41 : xd cX9_line 41 .ireturn 1 42 := ⟨by decide +kernel, rfl⟩
theorem dX9_line_42 : xd cX9_line 42 (.iconst 0) 1 43 := ⟨by decide +kernel, rfl⟩
theorem dX9_line_43 : xd cX9_line 43 (.istore_n 2) 1 44 := ⟨by decide +kernel, rfl⟩
theorem dX9_line_44 : xd cX9_line 44 (.ldc 205) 2 46 := ⟨by decide +kernel, rfl⟩
theorem dX9_line_46 : xd cX9_line 46 (.istore_n 3) 1 47 := ⟨by decide +kernel, rfl⟩
theorem dX9_line_47 : xd cX9_line 47 (.iload_n 2) 1 48 := ⟨by decide +kernel, rfl⟩
theorem dX9_line_48 : xd cX9_line 48 (.iload_n 3) 1 49 := ⟨by decide +kernel, rfl⟩
theorem dX9_line_49 : xj cX9_line 49 (.if_icmp .ge) 52 116 := ⟨67, by decide +kernel, rfl, by decide⟩
theorem dX9_line_52 : xd cX9_line 52 (.iload_n 2) 1 53 := ⟨by decide +kernel, rfl⟩
theorem dX9_line_53 : xd cX9_line 53 (.iload_n 3) 1 54 := ⟨by decide +kernel, rfl⟩
theorem dX9_line_54 : xd cX9_line 54 .iadd 1 55 := ⟨by decide +kernel, rfl⟩
theorem dX9_line_55 : xd cX9_line 55 (.iconst 2) 1 56 := ⟨by decide +kernel, rfl⟩
theorem dX9_line_56 : xd cX9_line 56 .idiv 1 57 := ⟨by decide +kernel, rfl⟩
theorem dX9_line_57 : xd cX9_line 57 (.istore 4) 2 59 := ⟨by decide +kernel, rfl⟩
theorem dX9_line_59 : xd cX9_line 59 (.aload_n 0) 1 60 := ⟨by decide +kernel, rfl⟩
theorem dX9_line_60 : xd cX9_line 60 (.iload_n 1) 1 61 := ⟨by decide +kernel, rfl⟩
theorem dX9_line_61 : xd cX9_line 61 (.aload_n 0) 1 62 := ⟨by decide +kernel, rfl⟩
theorem dX9_line_62 : xd cX9_line 62 (.iload 4) 2 64 := ⟨by decide +kernel, rfl⟩
theorem dX9_line_64 : xd cX9_line 64 (.invokevirtual 208) 3 67 := ⟨by decide +kernel, rfl⟩
theorem dX9_line_67 : xd cX9_line 67 (.invokevirtual 235) 3 70 := ⟨by decide +kernel, rfl⟩
theorem dX9_line_70 : xd cX9_line 70 (.aload_n 0) 1 71 := ⟨by decide +kernel, rfl⟩
theorem dX9_line_71 : xd cX9_line 71 (.getfield 7) 3 74 := ⟨by decide +kernel, rfl⟩
theorem dX9_line_74 : xd cX9_line 74 (.bipush 10) 2 76 := ⟨by decide +kernel, rfl⟩
theorem dX9_line_76 : xd cX9_line 76 .iaload 1 77 := ⟨by decide +kernel, rfl⟩
theorem dX9_line_77 : xj cX9_line 77 (.if_icmp .lt) 80 84 := ⟨7, by decide +kernel, rfl, by decide⟩
theorem dX9_line_80 : xd cX9_line 80 (.iconst 1) 1 81 := ⟨by decide +kernel, rfl⟩
theorem dX9_line_81 : xj cX9_line 81 .goto 84 85 := ⟨4, by decide +kernel, rfl, by decide⟩
theorem dX9_line_84 : xd cX9_line 84 (.iconst 0) 1 85 := ⟨by decide +kernel, rfl⟩
theorem dX9_line_85 : xd cX9_line 85 (.istore 5) 2 87 := ⟨by decide +kernel, rfl⟩
theorem dX9_line_87 : xd cX9_line 87 (.iload 5) 2 89 := ⟨by decide +kernel, rfl⟩
theorem dX9_line_89 : xj cX9_line 89 (.ifCond .eq) 92 97 := ⟨8, by decide +kernel, rfl, by decide⟩
theorem dX9_line_92 : xd cX9_line 92 (.iload 4) 2 94 := ⟨by decide +kernel, rfl⟩
theorem dX9_line_94 : xj cX9_line 94 .goto 97 98 := ⟨4, by decide +kernel, rfl, by decide⟩
theorem dX9_line_97 : xd cX9_line 97 (.iload_n 3) 1 98 := ⟨by decide +kernel, rfl⟩
theorem dX9_line_98 : xd cX9_line 98 (.istore_n 3) 1 99 := ⟨by decide +kernel, rfl⟩
theorem dX9_line_99 : xd cX9_line 99 (.iload 5) 2 101 := ⟨by decide +kernel, rfl⟩
theorem dX9_line_101 : xj cX9_line 101 (.ifCond .eq) 104 108 := ⟨7, by decide +kernel, rfl, by decide⟩
theorem dX9_line_104 : xd cX9_line 104 (.iload_n 2) 1 105 := ⟨by decide +kernel, rfl⟩
theorem dX9_line_105 : xj cX9_line 105 .goto 108 112 := ⟨7, by decide +kernel, rfl, by decide⟩
theorem dX9_line_108 : xd cX9_line 108 (.iload 4) 2 110 := ⟨by decide +kernel, rfl⟩
theorem dX9_line_110 : xd cX9_line 110 (.iconst 1) 1 111 := ⟨by decide +kernel, rfl⟩
theorem dX9_line_111 : xd cX9_line 111 .iadd 1 112 := ⟨by decide +kernel, rfl⟩
theorem dX9_line_112 : xd cX9_line 112 (.istore_n 2) 1 113 := ⟨by decide +kernel, rfl⟩
theorem dX9_line_113 : xj cX9_line 113 .goto 116 47 := ⟨(-66), by decide +kernel, rfl, by decide⟩
theorem dX9_line_116 : xd cX9_line 116 (.iload_n 2) 1 117 := ⟨by decide +kernel, rfl⟩
theorem dX9_line_117 : xd cX9_line 117 .ireturn 1 118 := ⟨by decide +kernel, rfl⟩

set_option maxRecDepth 100000 in
set_option maxHeartbeats 4000000 in
theorem ct_nline_b (l : Launch) (g : XG) (aN aNs aNk aNf aNr aNp aNb aNa aNt aNbo aNsz aNnu aNl aNal aNlo aNw aNtr aNis aNbg aNow nts nta nop npr nac : Nat) (nkp nbd ntp nnw nsn nwn : Int32) (fi : Nat → Nat) (pl : Int32) (hb : wI pl 0 494 = 0) : Ct l g 34 0 0 yX9_line cX9_line 6 (some .int) [.ref aN, .int pl] [(aN, .inr (9, [.ref aNs, .ref aNk, .int nkp, .ref aNf, .ref aNr, .ref aNp, .ref aNb, .ref aNa, .ref aNt, .int (nI nts), .ref aNbo, .ref aNsz, .ref aNnu, .int (nI nta), .int (nI nop), .int nbd, .int ntp, .int (nI npr), .int nnw, .int nsn, .int nwn, .ref aNl, .ref aNal, .ref aNlo, .int (nI nac), .ref aNw, .ref aNtr, .ref aNis, .ref aNbg, .ref aNow])), (aNf, .inl (g.2.1 0, 8, .inl (nIf (fnF fi))))] (xpi (fndI 0) [(aN, .inr (9, [.ref aNs, .ref aNk, .int nkp, .ref aNf, .ref aNr, .ref aNp, .ref aNb, .ref aNa, .ref aNt, .int (nI nts), .ref aNbo, .ref aNsz, .ref aNnu, .int (nI nta), .int (nI nop), .int nbd, .int ntp, .int (nI npr), .int nnw, .int nsn, .int nwn, .ref aNl, .ref aNal, .ref aNlo, .int (nI nac), .ref aNw, .ref aNtr, .ref aNis, .ref aNbg, .ref aNow])), (aNf, .inl (g.2.1 0, 8, .inl (nIf (fnF (updN fi 0 (fi 0 + 1))))))]) := by
  refine Ct.ofX (lv := [some (.ref aN), some (.int pl), none, none, none, none]) (by decide) rfl (Nat.le_of_ble_eq_true rfl) (fun κ => ?_)
  generalize hQ : xQ κ g 0 0 _ = Q
  refine x_iload_n dX9_line_0 rfl ?_
  refine x_cSi dX9_line_1 ml_X9_92 mX9_isPlace (ct_X9_isPlace κ.2.1 g pl) rfl (Nat.le_of_ble_eq_true rfl) (by decide) (Nat.le_refl _) (Nat.le_refl _) ?_
  refine x_if_ne dX9_line_4 (fun c4 => ?_) (fun c4 => ?_)
  · have c4 : ¬ ((wI pl 0 494) = 0) := c4
    exact absurd hb c4
  · have c4 : (wI pl 0 494) = 0 := c4
    refine x_aload_n dX9_line_7 rfl ?_
    refine x_ldc dX9_line_8 k_X9_87 ?_
    refine x_cVi (ws' := [(aN, .inr (9, [.ref aNs, .ref aNk, .int nkp, .ref aNf, .ref aNr, .ref aNp, .ref aNb, .ref aNa, .ref aNt, .int (nI nts), .ref aNbo, .ref aNsz, .ref aNnu, .int (nI nta), .int (nI nop), .int nbd, .int ntp, .int (nI npr), .int nnw, .int nsn, .int nwn, .ref aNl, .ref aNal, .ref aNlo, .int (nI nac), .ref aNw, .ref aNtr, .ref aNis, .ref aNbg, .ref aNow])), (aNf, .inl (g.2.1 0, 8, .inl (nIf (fnF (updN fi 0 (fi 0 + 1))))))]) dX9_line_10 ml_X9_88 mX9_finds (ct_finds_0 κ.2.1 g aN aNs aNk aNf aNr aNp aNb aNa aNt aNbo aNsz aNnu aNl aNal aNlo aNw aNtr aNis aNbg aNow nts nta nop npr nac nkp nbd ntp nnw nsn nwn fi) [0, 1] rfl rfl 0 rfl rfl rfl (Nat.le_of_ble_eq_true rfl) (by decide) (Nat.le_refl _) (Nat.le_refl _) (rfl : [aN, aNf] = [aN, aNf]) rfl ?_
    rw [← hQ]
    refine x_iret dX9_line_13 rfl (Nat.le_of_ble_eq_true rfl) (Nat.le_of_ble_eq_true rfl) ?_
    exact ⟨rfl, rfl⟩

-- == nline_n ==
set_option maxRecDepth 100000 in
set_option maxHeartbeats 4000000 in
theorem ct_nline_n (l : Launch) (g : XG) (aN aNs aNk aNf aNr aNp aNb aNa aNt aNbo aNsz aNnu aNl aNal aNlo aNw aNtr aNis aNbg aNow nts nta nop npr nac : Nat) (nkp nbd nnw nsn nwn : Int32) (gr wk lk sz br : Nat) (z : Int32) (ru ki ma bb hd : Nat → Nat) (ce : Nat → Int32) (tb nli nal nlo sd : Nat → Nat) (L : Nat) (nwi : Nat → Nat) (fi : Nat → Nat) (p : Nat) (hgr : gr ≤ 12) (hki : ∀ j, ki j ≤ 7) (hma : ∀ j, ma j ≤ 99999) (hwk : wk ≤ 40) (hlat : latI ce wk = nI L) (hL : L < 4096) (hsz : sz ≤ 60) (hbb : ∀ j, bb j < 256) (hsd : ∀ p, sd p ≤ 99) (hsv : ∀ p, p < 495 → sd p = if lk = 1 then clN (txV bb sz wk L p) else 1) (hlk : lk ≤ 1) (hwo : (nnw = 1 ∧ (nsn = 1 ∨ (nsn = 0 ∧ nli = sd))) ∨ (nnw = 0 ∧ nsn = 0 ∧ nli = sd ∧ nal = crH gr ki ma hd L sd ∧ nac = toH gr ki ma hd L sd ∧ ∀ q, q < gr → nlo q = laN (ki q) (ma q) L sd)) (hwc : wnI nnw nwn = 1 ∨ (wnI nnw nwn = 0 ∧ nwi = wiF (crH gr ki ma hd L sd))) (htot : toH gr ki ma hd L sd < 2 ^ 30) (hp : p < 495) (hl : woR ru (potL ru (nI 99999999).toInt64 (nI (toH gr ki ma hd L sd)).toInt64) (crH gr ki ma hd L sd) p < nI (ru 0)) : Ct l g 34 0 0 yX9_line cX9_line 6 (some .int) [.ref aN, .int (nI p)] [(aN, .inr (9, [.ref aNs, .ref aNk, .int nkp, .ref aNf, .ref aNr, .ref aNp, .ref aNb, .ref aNa, .ref aNt, .int (nI nts), .ref aNbo, .ref aNsz, .ref aNnu, .int (nI nta), .int (nI nop), .int nbd, .int 0, .int (nI npr), .int nnw, .int nsn, .int nwn, .ref aNl, .ref aNal, .ref aNlo, .int (nI nac), .ref aNw, .ref aNtr, .ref aNis, .ref aNbg, .ref aNow])), (aNf, .inl (g.2.1 0, 8, .inl (nIf (fnF fi)))), (aNs, .inl (g.2.1 0, 919, .inl (msF gr wk z lk sz br ru ki ma bb ce hd))), (aNt, .inl (g.2.1 0, 60, .inl (nIf tb))), (aNa, .inl (g.2.1 0, 2475, .inl (nIf fcN))), (aNr, .inl (g.2.1 0, 495, .inl (nIf rowB))), (aNb, .inl (g.2.1 0, 4096, .inl (nIf popN))), (aNl, .inl (g.2.1 0, 495, .inl (nIf nli))), (aNal, .inl (g.2.1 0, 495, .inl (nIf nal))), (aNlo, .inl (g.2.1 0, 12, .inl (nIf nlo))), (aNw, .inl (g.2.1 0, 1485, .inl (nIf nwi)))] (fun vv_ ww_ => ∃ (zat : Nat) (zop : Nat) (zbd : Int32) (zpr : Nat) (lo2 : Nat → Nat), vv_ = some (.int (fndI 3)) ∧ ww_ = [(aN, .inr (9, [.ref aNs, .ref aNk, .int nkp, .ref aNf, .ref aNr, .ref aNp, .ref aNb, .ref aNa, .ref aNt, .int (nI nts), .ref aNbo, .ref aNsz, .ref aNnu, .int (nI zat), .int (nI zop), .int zbd, .int 0, .int (nI zpr), .int 0, .int 0, .int 0, .ref aNl, .ref aNal, .ref aNlo, .int (nI (toH gr ki ma hd L sd)), .ref aNw, .ref aNtr, .ref aNis, .ref aNbg, .ref aNow])), (aNf, .inl (g.2.1 0, 8, .inl (nIf (fnF (updN fi 3 (fi 3 + 1)))))), (aNs, .inl (g.2.1 0, 919, .inl (msF gr wk z lk sz br ru ki ma bb ce hd))), (aNt, .inl (g.2.1 0, 60, .inl (nIf tb))), (aNa, .inl (g.2.1 0, 2475, .inl (nIf fcN))), (aNr, .inl (g.2.1 0, 495, .inl (nIf rowB))), (aNb, .inl (g.2.1 0, 4096, .inl (nIf popN))), (aNl, .inl (g.2.1 0, 495, .inl (nIf sd))), (aNal, .inl (g.2.1 0, 495, .inl (nIf (crH gr ki ma hd L sd)))), (aNlo, .inl (g.2.1 0, 12, .inl (nIf lo2))), (aNw, .inl (g.2.1 0, 1485, .inl (nIf (wiF (crH gr ki ma hd L sd)))))] ∧ (∀ q, q < gr → lo2 q = laN (ki q) (ma q) L sd)) := by
  refine Ct.ofX (lv := [some (.ref aN), some (.int (nI p)), none, none, none, none]) (by decide) rfl (Nat.le_of_ble_eq_true rfl) (fun κ => ?_)
  generalize hQ : xQ κ g 0 0 _ = Q
  refine x_iload_n dX9_line_0 rfl ?_
  refine x_cSi dX9_line_1 ml_X9_92 mX9_isPlace (ct_nPlace_n κ.2.1 g p (hp)) rfl (Nat.le_of_ble_eq_true rfl) (by decide) (Nat.le_refl _) (Nat.le_refl _) ?_
  refine x_if_ne dX9_line_4 (fun c4 => ?_) (fun c4 => ?_)
  rotate_left
  · exact absurd c4 (by decide)
  refine x_aload_n dX9_line_14 rfl ?_
  refine x_iload_n dX9_line_15 rfl ?_
  refine x_aload_n dX9_line_16 rfl ?_
  refine x_ldc dX9_line_17 k_X9_205 ?_
  refine x_callV dX9_line_19 ml_X9_208 mX9_potWith (ct_X9_potWith κ.2.1 g aN aNs aNk aNf aNr aNp aNb aNa aNt aNbo aNsz aNnu aNl aNal aNlo aNw aNtr aNis aNbg aNow nts nta nop npr nac nkp nbd nnw nsn nwn gr wk lk sz br z ru ki ma bb hd ce tb nli nal nlo sd L 99999999 (hgr) (hki) (hma) (hwk) (hlat) (hL) (hsz) (hbb) (hsd) (hsv) (hlk) (hwo)) [0, 2, 3, 4, 5, 6, 7, 8, 9] rfl rfl 0 rfl rfl rfl (Nat.le_of_ble_eq_true rfl) (by decide) (Nat.le_refl _) (Nat.le_refl _) (fun vv ww hp => ?_)
  obtain ⟨z1, z2, z3, z4, z5, rfl, rfl, p6⟩ := hp
  refine ⟨(rfl : [aN, aNs, aNt, aNa, aNr, aNb, aNl, aNal, aNlo] = [aN, aNs, aNt, aNa, aNr, aNb, aNl, aNal, aNlo]), x_eq (lv' := [some (.ref aN), some (.int (nI p)), none, none, none, none]) (st' := [.long (potL ru (nI 99999999).toInt64 (nI (toH gr ki ma hd L sd)).toInt64), .int (nI p), .ref aN]) (ws' := [(aN, .inr (9, [.ref aNs, .ref aNk, .int nkp, .ref aNf, .ref aNr, .ref aNp, .ref aNb, .ref aNa, .ref aNt, .int (nI nts), .ref aNbo, .ref aNsz, .ref aNnu, .int (nI z1), .int (nI z2), .int z3, .int 0, .int (nI z4), .int 0, .int 0, .int (wnI nnw nwn), .ref aNl, .ref aNal, .ref aNlo, .int (nI (toH gr ki ma hd L sd)), .ref aNw, .ref aNtr, .ref aNis, .ref aNbg, .ref aNow])), (aNf, .inl (g.2.1 0, 8, .inl (nIf (fnF fi)))), (aNs, .inl (g.2.1 0, 919, .inl (msF gr wk z lk sz br ru ki ma bb ce hd))), (aNt, .inl (g.2.1 0, 60, .inl (nIf tb))), (aNa, .inl (g.2.1 0, 2475, .inl (nIf fcN))), (aNr, .inl (g.2.1 0, 495, .inl (nIf rowB))), (aNb, .inl (g.2.1 0, 4096, .inl (nIf popN))), (aNl, .inl (g.2.1 0, 495, .inl (nIf sd))), (aNal, .inl (g.2.1 0, 495, .inl (nIf (crH gr ki ma hd L sd)))), (aNlo, .inl (g.2.1 0, 12, .inl (nIf z5))), (aNw, .inl (g.2.1 0, 1485, .inl (nIf nwi)))]) ?_ rfl rfl rfl⟩
  refine x_cVi (ws' := [(aN, .inr (9, [.ref aNs, .ref aNk, .int nkp, .ref aNf, .ref aNr, .ref aNp, .ref aNb, .ref aNa, .ref aNt, .int (nI nts), .ref aNbo, .ref aNsz, .ref aNnu, .int (nI z1), .int (nI z2), .int z3, .int 0, .int (nI z4), .int 0, .int 0, .int 0, .ref aNl, .ref aNal, .ref aNlo, .int (nI (toH gr ki ma hd L sd)), .ref aNw, .ref aNtr, .ref aNis, .ref aNbg, .ref aNow])), (aNf, .inl (g.2.1 0, 8, .inl (nIf (fnF fi)))), (aNs, .inl (g.2.1 0, 919, .inl (msF gr wk z lk sz br ru ki ma bb ce hd))), (aNt, .inl (g.2.1 0, 60, .inl (nIf tb))), (aNa, .inl (g.2.1 0, 2475, .inl (nIf fcN))), (aNr, .inl (g.2.1 0, 495, .inl (nIf rowB))), (aNb, .inl (g.2.1 0, 4096, .inl (nIf popN))), (aNl, .inl (g.2.1 0, 495, .inl (nIf sd))), (aNal, .inl (g.2.1 0, 495, .inl (nIf (crH gr ki ma hd L sd)))), (aNlo, .inl (g.2.1 0, 12, .inl (nIf z5))), (aNw, .inl (g.2.1 0, 1485, .inl (nIf (wiF (crH gr ki ma hd L sd)))))]) dX9_line_22 ml_X9_235 mX9_worthOf (ct_X9_worthOf κ.2.1 g aN aNs aNk aNf aNr aNp aNb aNa aNt aNbo aNsz aNnu aNl aNal aNlo aNw aNtr aNis aNbg aNow nts z1 z2 z4 (toH gr ki ma hd L sd) nkp z3 0 0 (wnI nnw nwn) (crH gr ki ma hd L sd) nwi gr wk lk sz br z ru ki ma bb hd ce p (potL ru (nI 99999999).toInt64 (nI (toH gr ki ma hd L sd)).toInt64) (hwc) (hp) (htot)) [0, 5, 6, 8, 10, 2] rfl rfl 0 rfl rfl rfl (Nat.le_of_ble_eq_true rfl) (by decide) (Nat.le_refl _) (Nat.le_refl _) (rfl : [aN, aNr, aNb, aNal, aNw, aNs] = [aN, aNr, aNb, aNal, aNw, aNs]) rfl ?_
  refine x_aload_n dX9_line_25 rfl ?_
  refine x_get dX9_line_26 0 0 inX9 fl_X9_7 rfl rfl (by decide) rfl ?_
  refine x_bipush 10 dX9_line_29 (by decide) ?_
  refine x_iald dX9_line_31 2 10 rfl (rfl) (by decide) (by decide) ?_
  refine x_rei (nI (ru 0)) (msg_ru (x := 0) (by omega) (by omega)) ?_
  refine x_icmp_ge dX9_line_32 (fun c32 => ?_) (fun c32 => ?_)
  · have c32 : (nI (ru 0)) ≤ (woR ru (potL ru (nI 99999999).toInt64 (nI (toH gr ki ma hd L sd)).toInt64) (crH gr ki ma hd L sd) p) := c32
    exact absurd hl (fun q => (fa_of_lt q).2.1 c32)
  · have c32 : ¬ ((nI (ru 0)) ≤ (woR ru (potL ru (nI 99999999).toInt64 (nI (toH gr ki ma hd L sd)).toInt64) (crH gr ki ma hd L sd) p)) := c32
    refine x_aload_n dX9_line_35 rfl ?_
    refine x_ldc dX9_line_36 k_X9_239 ?_
    refine x_cVi (ws' := [(aN, .inr (9, [.ref aNs, .ref aNk, .int nkp, .ref aNf, .ref aNr, .ref aNp, .ref aNb, .ref aNa, .ref aNt, .int (nI nts), .ref aNbo, .ref aNsz, .ref aNnu, .int (nI z1), .int (nI z2), .int z3, .int 0, .int (nI z4), .int 0, .int 0, .int 0, .ref aNl, .ref aNal, .ref aNlo, .int (nI (toH gr ki ma hd L sd)), .ref aNw, .ref aNtr, .ref aNis, .ref aNbg, .ref aNow])), (aNf, .inl (g.2.1 0, 8, .inl (nIf (fnF (updN fi 3 (fi 3 + 1)))))), (aNs, .inl (g.2.1 0, 919, .inl (msF gr wk z lk sz br ru ki ma bb ce hd))), (aNt, .inl (g.2.1 0, 60, .inl (nIf tb))), (aNa, .inl (g.2.1 0, 2475, .inl (nIf fcN))), (aNr, .inl (g.2.1 0, 495, .inl (nIf rowB))), (aNb, .inl (g.2.1 0, 4096, .inl (nIf popN))), (aNl, .inl (g.2.1 0, 495, .inl (nIf sd))), (aNal, .inl (g.2.1 0, 495, .inl (nIf (crH gr ki ma hd L sd)))), (aNlo, .inl (g.2.1 0, 12, .inl (nIf z5))), (aNw, .inl (g.2.1 0, 1485, .inl (nIf (wiF (crH gr ki ma hd L sd)))))]) dX9_line_38 ml_X9_88 mX9_finds (ct_finds_3 κ.2.1 g aN aNs aNk aNf aNr aNp aNb aNa aNt aNbo aNsz aNnu aNl aNal aNlo aNw aNtr aNis aNbg aNow nts z1 z2 z4 (toH gr ki ma hd L sd) nkp z3 0 0 0 0 fi) [0, 1] rfl rfl 0 rfl rfl rfl (Nat.le_of_ble_eq_true rfl) (by decide) (Nat.le_refl _) (Nat.le_refl _) (rfl : [aN, aNf] = [aN, aNf]) rfl ?_
    rw [← hQ]
    refine x_iret dX9_line_41 rfl (Nat.le_of_ble_eq_true rfl) (Nat.le_of_ble_eq_true rfl) ?_
    exact ⟨_, _, _, _, _, rfl, rfl, p6⟩

-- == nline_o ==
set_option maxRecDepth 100000 in
set_option maxHeartbeats 4000000 in
theorem ct_nline_o (l : Launch) (g : XG) (aN aNs aNk aNf aNr aNp aNb aNa aNt aNbo aNsz aNnu aNl aNal aNlo aNw aNtr aNis aNbg aNow nts nta nop npr nac : Nat) (nkp nbd nnw nsn nwn : Int32) (gr wk lk sz br : Nat) (z : Int32) (ru ki ma bb hd : Nat → Nat) (ce : Nat → Int32) (tb nli nal nlo sd : Nat → Nat) (L : Nat) (nwi : Nat → Nat) (fi : Nat → Nat) (p : Nat) (hgr : gr ≤ 12) (hki : ∀ j, ki j ≤ 7) (hma : ∀ j, ma j ≤ 99999) (hwk : wk ≤ 40) (hlat : latI ce wk = nI L) (hL : L < 4096) (hsz : sz ≤ 60) (hbb : ∀ j, bb j < 256) (hsd : ∀ p, sd p ≤ 99) (hsv : ∀ p, p < 495 → sd p = if lk = 1 then clN (txV bb sz wk L p) else 1) (hlk : lk ≤ 1) (hwo : (nnw = 1 ∧ (nsn = 1 ∨ (nsn = 0 ∧ nli = sd))) ∨ (nnw = 0 ∧ nsn = 0 ∧ nli = sd ∧ nal = crH gr ki ma hd L sd ∧ nac = toH gr ki ma hd L sd ∧ ∀ q, q < gr → nlo q = laN (ki q) (ma q) L sd)) (hwc : wnI nnw nwn = 1 ∨ (wnI nnw nwn = 0 ∧ nwi = wiF (crH gr ki ma hd L sd))) (htot : toH gr ki ma hd L sd < 2 ^ 30) (hp : p < 495) (hl : ¬ woR ru (potL ru (nI 99999999).toInt64 (nI (toH gr ki ma hd L sd)).toInt64) (crH gr ki ma hd L sd) p < nI (ru 0)) : Ct l g 34 0 0 yX9_line cX9_line 6 (some .int) [.ref aN, .int (nI p)] [(aN, .inr (9, [.ref aNs, .ref aNk, .int nkp, .ref aNf, .ref aNr, .ref aNp, .ref aNb, .ref aNa, .ref aNt, .int (nI nts), .ref aNbo, .ref aNsz, .ref aNnu, .int (nI nta), .int (nI nop), .int nbd, .int 0, .int (nI npr), .int nnw, .int nsn, .int nwn, .ref aNl, .ref aNal, .ref aNlo, .int (nI nac), .ref aNw, .ref aNtr, .ref aNis, .ref aNbg, .ref aNow])), (aNf, .inl (g.2.1 0, 8, .inl (nIf (fnF fi)))), (aNs, .inl (g.2.1 0, 919, .inl (msF gr wk z lk sz br ru ki ma bb ce hd))), (aNt, .inl (g.2.1 0, 60, .inl (nIf tb))), (aNa, .inl (g.2.1 0, 2475, .inl (nIf fcN))), (aNr, .inl (g.2.1 0, 495, .inl (nIf rowB))), (aNb, .inl (g.2.1 0, 4096, .inl (nIf popN))), (aNl, .inl (g.2.1 0, 495, .inl (nIf nli))), (aNal, .inl (g.2.1 0, 495, .inl (nIf nal))), (aNlo, .inl (g.2.1 0, 12, .inl (nIf nlo))), (aNw, .inl (g.2.1 0, 1485, .inl (nIf nwi)))] (fun vv_ ww_ => ∃ (zat : Nat) (zop : Nat) (zbd : Int32) (zpr : Nat) (lo2 : Nat → Nat), vv_ = some (.int (nI (liR ru (toH gr ki ma hd L sd) (crH gr ki ma hd L sd) p))) ∧ ww_ = [(aN, .inr (9, [.ref aNs, .ref aNk, .int nkp, .ref aNf, .ref aNr, .ref aNp, .ref aNb, .ref aNa, .ref aNt, .int (nI nts), .ref aNbo, .ref aNsz, .ref aNnu, .int (nI zat), .int (nI zop), .int zbd, .int 0, .int (nI zpr), .int 0, .int 0, .int 0, .ref aNl, .ref aNal, .ref aNlo, .int (nI (toH gr ki ma hd L sd)), .ref aNw, .ref aNtr, .ref aNis, .ref aNbg, .ref aNow])), (aNf, .inl (g.2.1 0, 8, .inl (nIf (fnF fi)))), (aNs, .inl (g.2.1 0, 919, .inl (msF gr wk z lk sz br ru ki ma bb ce hd))), (aNt, .inl (g.2.1 0, 60, .inl (nIf tb))), (aNa, .inl (g.2.1 0, 2475, .inl (nIf fcN))), (aNr, .inl (g.2.1 0, 495, .inl (nIf rowB))), (aNb, .inl (g.2.1 0, 4096, .inl (nIf popN))), (aNl, .inl (g.2.1 0, 495, .inl (nIf sd))), (aNal, .inl (g.2.1 0, 495, .inl (nIf (crH gr ki ma hd L sd)))), (aNlo, .inl (g.2.1 0, 12, .inl (nIf lo2))), (aNw, .inl (g.2.1 0, 1485, .inl (nIf (wiF (crH gr ki ma hd L sd)))))] ∧ (∀ q, q < gr → lo2 q = laN (ki q) (ma q) L sd)) := by
  refine Ct.ofX (lv := [some (.ref aN), some (.int (nI p)), none, none, none, none]) (by decide) rfl (Nat.le_of_ble_eq_true rfl) (fun κ => ?_)
  generalize hQ : xQ κ g 0 0 _ = Q
  refine x_iload_n dX9_line_0 rfl ?_
  refine x_cSi dX9_line_1 ml_X9_92 mX9_isPlace (ct_nPlace_n κ.2.1 g p (hp)) rfl (Nat.le_of_ble_eq_true rfl) (by decide) (Nat.le_refl _) (Nat.le_refl _) ?_
  refine x_if_ne dX9_line_4 (fun c4 => ?_) (fun c4 => ?_)
  rotate_left
  · exact absurd c4 (by decide)
  refine x_aload_n dX9_line_14 rfl ?_
  refine x_iload_n dX9_line_15 rfl ?_
  refine x_aload_n dX9_line_16 rfl ?_
  refine x_ldc dX9_line_17 k_X9_205 ?_
  refine x_callV dX9_line_19 ml_X9_208 mX9_potWith (ct_X9_potWith κ.2.1 g aN aNs aNk aNf aNr aNp aNb aNa aNt aNbo aNsz aNnu aNl aNal aNlo aNw aNtr aNis aNbg aNow nts nta nop npr nac nkp nbd nnw nsn nwn gr wk lk sz br z ru ki ma bb hd ce tb nli nal nlo sd L 99999999 (hgr) (hki) (hma) (hwk) (hlat) (hL) (hsz) (hbb) (hsd) (hsv) (hlk) (hwo)) [0, 2, 3, 4, 5, 6, 7, 8, 9] rfl rfl 0 rfl rfl rfl (Nat.le_of_ble_eq_true rfl) (by decide) (Nat.le_refl _) (Nat.le_refl _) (fun vv ww hp => ?_)
  obtain ⟨z1, z2, z3, z4, z5, rfl, rfl, p6⟩ := hp
  refine ⟨(rfl : [aN, aNs, aNt, aNa, aNr, aNb, aNl, aNal, aNlo] = [aN, aNs, aNt, aNa, aNr, aNb, aNl, aNal, aNlo]), x_eq (lv' := [some (.ref aN), some (.int (nI p)), none, none, none, none]) (st' := [.long (potL ru (nI 99999999).toInt64 (nI (toH gr ki ma hd L sd)).toInt64), .int (nI p), .ref aN]) (ws' := [(aN, .inr (9, [.ref aNs, .ref aNk, .int nkp, .ref aNf, .ref aNr, .ref aNp, .ref aNb, .ref aNa, .ref aNt, .int (nI nts), .ref aNbo, .ref aNsz, .ref aNnu, .int (nI z1), .int (nI z2), .int z3, .int 0, .int (nI z4), .int 0, .int 0, .int (wnI nnw nwn), .ref aNl, .ref aNal, .ref aNlo, .int (nI (toH gr ki ma hd L sd)), .ref aNw, .ref aNtr, .ref aNis, .ref aNbg, .ref aNow])), (aNf, .inl (g.2.1 0, 8, .inl (nIf (fnF fi)))), (aNs, .inl (g.2.1 0, 919, .inl (msF gr wk z lk sz br ru ki ma bb ce hd))), (aNt, .inl (g.2.1 0, 60, .inl (nIf tb))), (aNa, .inl (g.2.1 0, 2475, .inl (nIf fcN))), (aNr, .inl (g.2.1 0, 495, .inl (nIf rowB))), (aNb, .inl (g.2.1 0, 4096, .inl (nIf popN))), (aNl, .inl (g.2.1 0, 495, .inl (nIf sd))), (aNal, .inl (g.2.1 0, 495, .inl (nIf (crH gr ki ma hd L sd)))), (aNlo, .inl (g.2.1 0, 12, .inl (nIf z5))), (aNw, .inl (g.2.1 0, 1485, .inl (nIf nwi)))]) ?_ rfl rfl rfl⟩
  refine x_cVi (ws' := [(aN, .inr (9, [.ref aNs, .ref aNk, .int nkp, .ref aNf, .ref aNr, .ref aNp, .ref aNb, .ref aNa, .ref aNt, .int (nI nts), .ref aNbo, .ref aNsz, .ref aNnu, .int (nI z1), .int (nI z2), .int z3, .int 0, .int (nI z4), .int 0, .int 0, .int 0, .ref aNl, .ref aNal, .ref aNlo, .int (nI (toH gr ki ma hd L sd)), .ref aNw, .ref aNtr, .ref aNis, .ref aNbg, .ref aNow])), (aNf, .inl (g.2.1 0, 8, .inl (nIf (fnF fi)))), (aNs, .inl (g.2.1 0, 919, .inl (msF gr wk z lk sz br ru ki ma bb ce hd))), (aNt, .inl (g.2.1 0, 60, .inl (nIf tb))), (aNa, .inl (g.2.1 0, 2475, .inl (nIf fcN))), (aNr, .inl (g.2.1 0, 495, .inl (nIf rowB))), (aNb, .inl (g.2.1 0, 4096, .inl (nIf popN))), (aNl, .inl (g.2.1 0, 495, .inl (nIf sd))), (aNal, .inl (g.2.1 0, 495, .inl (nIf (crH gr ki ma hd L sd)))), (aNlo, .inl (g.2.1 0, 12, .inl (nIf z5))), (aNw, .inl (g.2.1 0, 1485, .inl (nIf (wiF (crH gr ki ma hd L sd)))))]) dX9_line_22 ml_X9_235 mX9_worthOf (ct_X9_worthOf κ.2.1 g aN aNs aNk aNf aNr aNp aNb aNa aNt aNbo aNsz aNnu aNl aNal aNlo aNw aNtr aNis aNbg aNow nts z1 z2 z4 (toH gr ki ma hd L sd) nkp z3 0 0 (wnI nnw nwn) (crH gr ki ma hd L sd) nwi gr wk lk sz br z ru ki ma bb hd ce p (potL ru (nI 99999999).toInt64 (nI (toH gr ki ma hd L sd)).toInt64) (hwc) (hp) (htot)) [0, 5, 6, 8, 10, 2] rfl rfl 0 rfl rfl rfl (Nat.le_of_ble_eq_true rfl) (by decide) (Nat.le_refl _) (Nat.le_refl _) (rfl : [aN, aNr, aNb, aNal, aNw, aNs] = [aN, aNr, aNb, aNal, aNw, aNs]) rfl ?_
  refine x_aload_n dX9_line_25 rfl ?_
  refine x_get dX9_line_26 0 0 inX9 fl_X9_7 rfl rfl (by decide) rfl ?_
  refine x_bipush 10 dX9_line_29 (by decide) ?_
  refine x_iald dX9_line_31 2 10 rfl (rfl) (by decide) (by decide) ?_
  refine x_rei (nI (ru 0)) (msg_ru (x := 0) (by omega) (by omega)) ?_
  refine x_icmp_ge dX9_line_32 (fun c32 => ?_) (fun c32 => ?_)
  · have c32 : (nI (ru 0)) ≤ (woR ru (potL ru (nI 99999999).toInt64 (nI (toH gr ki ma hd L sd)).toInt64) (crH gr ki ma hd L sd) p) := c32
    refine x_iconst 0 dX9_line_42 (by decide) ?_
    refine x_istore_n (lv' := [some (.ref aN), some (.int (nI p)), some (.int 0), none, none, none]) dX9_line_43 (xlt rfl) rfl ?_
    refine x_ldc dX9_line_44 k_X9_205 ?_
    refine x_istore_n (lv' := [some (.ref aN), some (.int (nI p)), some (.int 0), some (.int 99999999), none, none]) dX9_line_46 (xlt rfl) rfl ?_
    have L47_7 : ∀ (i : Nat), i ≤ 32 → ∀ (lo : Nat), lo = (hvI (liP ru (toH gr ki ma hd L sd) (crH gr ki ma hd L sd) p) (0, 99999999) i).1 → ∀ (hg : Nat), hg = (hvI (liP ru (toH gr ki ma hd L sd) (crH gr ki ma hd L sd) p) (0, 99999999) i).2 → Xs κ g 34 0 0 cX9_line yX9_line (some .int) Q 0 0 47 [some (.ref aN), some (.int (nI p)), some (.int (nI lo)), some (.int (nI hg)), none, none] [] [(aN, .inr (9, [.ref aNs, .ref aNk, .int nkp, .ref aNf, .ref aNr, .ref aNp, .ref aNb, .ref aNa, .ref aNt, .int (nI nts), .ref aNbo, .ref aNsz, .ref aNnu, .int (nI z1), .int (nI z2), .int z3, .int 0, .int (nI z4), .int 0, .int 0, .int 0, .ref aNl, .ref aNal, .ref aNlo, .int (nI (toH gr ki ma hd L sd)), .ref aNw, .ref aNtr, .ref aNis, .ref aNbg, .ref aNow])), (aNf, .inl (g.2.1 0, 8, .inl (nIf (fnF fi)))), (aNs, .inl (g.2.1 0, 919, .inl (msF gr wk z lk sz br ru ki ma bb ce hd))), (aNt, .inl (g.2.1 0, 60, .inl (nIf tb))), (aNa, .inl (g.2.1 0, 2475, .inl (nIf fcN))), (aNr, .inl (g.2.1 0, 495, .inl (nIf rowB))), (aNb, .inl (g.2.1 0, 4096, .inl (nIf popN))), (aNl, .inl (g.2.1 0, 495, .inl (nIf sd))), (aNal, .inl (g.2.1 0, 495, .inl (nIf (crH gr ki ma hd L sd)))), (aNlo, .inl (g.2.1 0, 12, .inl (nIf z5))), (aNw, .inl (g.2.1 0, 1485, .inl (nIf (wiF (crH gr ki ma hd L sd)))))] := by
      refine upTo 32 (fun i hi47 ih47 => ?_)
      intro lo elo
      subst elo
      intro hg ehg
      subst ehg
      have hle := hvI_le (liP ru (toH gr ki ma hd L sd) (crH gr ki ma hd L sd) p) (0, 99999999) 99999999 ⟨by decide, Nat.le_refl _⟩ i
      refine x_iload_n dX9_line_47 rfl ?_
      refine x_iload_n dX9_line_48 rfl ?_
      refine x_icmp_ge dX9_line_49 (fun c49 => ?_) (fun c49 => ?_)
      · have c49 : (nI (((hvI (liP ru (toH gr ki ma hd L sd) (crH gr ki ma hd L sd) p) (0, 99999999) i).2))) ≤ (nI (((hvI (liP ru (toH gr ki ma hd L sd) (crH gr ki ma hd L sd) p) (0, 99999999) i).1))) := c49
        have c49n := (nI_leI (a := ((hvI (liP ru (toH gr ki ma hd L sd) (crH gr ki ma hd L sd) p) (0, 99999999) i).2)) (b := ((hvI (liP ru (toH gr ki ma hd L sd) (crH gr ki ma hd L sd) p) (0, 99999999) i).1)) (by omega) (by omega)).mp c49
        refine x_iload_n dX9_line_116 rfl ?_
        rw [← hQ]
        refine x_iret dX9_line_117 rfl (Nat.le_of_ble_eq_true rfl) (Nat.le_of_ble_eq_true rfl) ?_
        rw [liR, ← hv_end1 (i := i) (by omega) hi47]
        exact ⟨_, _, _, _, _, rfl, rfl, p6⟩
      · have c49 : ¬ ((nI (((hvI (liP ru (toH gr ki ma hd L sd) (crH gr ki ma hd L sd) p) (0, 99999999) i).2))) ≤ (nI (((hvI (liP ru (toH gr ki ma hd L sd) (crH gr ki ma hd L sd) p) (0, 99999999) i).1)))) := c49
        have c49n := mt (nI_leI (a := ((hvI (liP ru (toH gr ki ma hd L sd) (crH gr ki ma hd L sd) p) (0, 99999999) i).2)) (b := ((hvI (liP ru (toH gr ki ma hd L sd) (crH gr ki ma hd L sd) p) (0, 99999999) i).1)) (by omega) (by omega)).mpr c49
        have hgo := hv_go (P := liP ru (toH gr ki ma hd L sd) (crH gr ki ma hd L sd) p) hi47 (by omega)
        refine x_iload_n dX9_line_52 rfl ?_
        refine x_iload_n dX9_line_53 rfl ?_
        refine x_iadd dX9_line_54 ?_
        refine x_rei (nI (((hvI (liP ru (toH gr ki ma hd L sd) (crH gr ki ma hd L sd) p) (0, 99999999) i).1) + ((hvI (liP ru (toH gr ki ma hd L sd) (crH gr ki ma hd L sd) p) (0, 99999999) i).2))) (nI_iadd ((hvI (liP ru (toH gr ki ma hd L sd) (crH gr ki ma hd L sd) p) (0, 99999999) i).1) ((hvI (liP ru (toH gr ki ma hd L sd) (crH gr ki ma hd L sd) p) (0, 99999999) i).2)) ?_
        refine x_iconst 2 dX9_line_55 (by decide) ?_
        refine x_idiv dX9_line_56 (by decide) ?_
        refine x_rei (nI (((hvI (liP ru (toH gr ki ma hd L sd) (crH gr ki ma hd L sd) p) (0, 99999999) i).1 + (hvI (liP ru (toH gr ki ma hd L sd) (crH gr ki ma hd L sd) p) (0, 99999999) i).2) / 2)) (nI_idiv (b := 2) (by omega) (by decide)) ?_
        refine x_istore (lv' := [some (.ref aN), some (.int (nI p)), some (.int (nI (((hvI (liP ru (toH gr ki ma hd L sd) (crH gr ki ma hd L sd) p) (0, 99999999) i).1)))), some (.int (nI (((hvI (liP ru (toH gr ki ma hd L sd) (crH gr ki ma hd L sd) p) (0, 99999999) i).2)))), some (.int (nI (((hvI (liP ru (toH gr ki ma hd L sd) (crH gr ki ma hd L sd) p) (0, 99999999) i).1 + (hvI (liP ru (toH gr ki ma hd L sd) (crH gr ki ma hd L sd) p) (0, 99999999) i).2) / 2))), none]) dX9_line_57 (xlt rfl) rfl ?_
        refine x_aload_n dX9_line_59 rfl ?_
        refine x_iload_n dX9_line_60 rfl ?_
        refine x_aload_n dX9_line_61 rfl ?_
        refine x_iload dX9_line_62 rfl ?_
        refine x_cVl0 dX9_line_64 ml_X9_208 mX9_potWith (ct_pot_o κ.2.1 g aN aNs aNk aNf aNr aNp aNb aNa aNt aNbo aNsz aNnu aNl aNal aNlo aNw aNtr aNis aNbg aNow nts z1 z2 z4 (toH gr ki ma hd L sd) nkp z3 0 0 0 gr wk lk sz br z ru ki ma bb hd ce (((hvI (liP ru (toH gr ki ma hd L sd) (crH gr ki ma hd L sd) p) (0, 99999999) i).1 + (hvI (liP ru (toH gr ki ma hd L sd) (crH gr ki ma hd L sd) p) (0, 99999999) i).2) / 2)) [0, 2] rfl rfl 0 rfl rfl rfl (Nat.le_of_ble_eq_true rfl) (by decide) (Nat.le_refl _) (Nat.le_refl _) ?_
        refine x_cVi (ws' := [(aN, .inr (9, [.ref aNs, .ref aNk, .int nkp, .ref aNf, .ref aNr, .ref aNp, .ref aNb, .ref aNa, .ref aNt, .int (nI nts), .ref aNbo, .ref aNsz, .ref aNnu, .int (nI z1), .int (nI z2), .int z3, .int 0, .int (nI z4), .int 0, .int 0, .int 0, .ref aNl, .ref aNal, .ref aNlo, .int (nI (toH gr ki ma hd L sd)), .ref aNw, .ref aNtr, .ref aNis, .ref aNbg, .ref aNow])), (aNf, .inl (g.2.1 0, 8, .inl (nIf (fnF fi)))), (aNs, .inl (g.2.1 0, 919, .inl (msF gr wk z lk sz br ru ki ma bb ce hd))), (aNt, .inl (g.2.1 0, 60, .inl (nIf tb))), (aNa, .inl (g.2.1 0, 2475, .inl (nIf fcN))), (aNr, .inl (g.2.1 0, 495, .inl (nIf rowB))), (aNb, .inl (g.2.1 0, 4096, .inl (nIf popN))), (aNl, .inl (g.2.1 0, 495, .inl (nIf sd))), (aNal, .inl (g.2.1 0, 495, .inl (nIf (crH gr ki ma hd L sd)))), (aNlo, .inl (g.2.1 0, 12, .inl (nIf z5))), (aNw, .inl (g.2.1 0, 1485, .inl (nIf (wiF (crH gr ki ma hd L sd)))))]) dX9_line_67 ml_X9_235 mX9_worthOf (ct_X9_worthOf κ.2.1 g aN aNs aNk aNf aNr aNp aNb aNa aNt aNbo aNsz aNnu aNl aNal aNlo aNw aNtr aNis aNbg aNow nts z1 z2 z4 (toH gr ki ma hd L sd) nkp z3 0 0 0 (crH gr ki ma hd L sd) (wiF (crH gr ki ma hd L sd)) gr wk lk sz br z ru ki ma bb hd ce p (potL ru (nI (((hvI (liP ru (toH gr ki ma hd L sd) (crH gr ki ma hd L sd) p) (0, 99999999) i).1 + (hvI (liP ru (toH gr ki ma hd L sd) (crH gr ki ma hd L sd) p) (0, 99999999) i).2) / 2)).toInt64 (nI (toH gr ki ma hd L sd)).toInt64) (Or.inr ⟨rfl, rfl⟩) (hp) (htot)) [0, 5, 6, 8, 10, 2] rfl rfl 0 rfl rfl rfl (Nat.le_of_ble_eq_true rfl) (by decide) (Nat.le_refl _) (Nat.le_refl _) (rfl : [aN, aNr, aNb, aNal, aNw, aNs] = [aN, aNr, aNb, aNal, aNw, aNs]) rfl ?_
        refine x_aload_n dX9_line_70 rfl ?_
        refine x_get dX9_line_71 0 0 inX9 fl_X9_7 rfl rfl (by decide) rfl ?_
        refine x_bipush 10 dX9_line_74 (by decide) ?_
        refine x_iald dX9_line_76 2 10 rfl (rfl) (by decide) (by decide) ?_
        refine x_rei (nI (ru 0)) (msg_ru (x := 0) (by omega) (by omega)) ?_
        have J77_9 : ∀ (v8 : Int32), v8 = (if (woR ru (potL ru (nI (((hvI (liP ru (toH gr ki ma hd L sd) (crH gr ki ma hd L sd) p) (0, 99999999) i).1 + (hvI (liP ru (toH gr ki ma hd L sd) (crH gr ki ma hd L sd) p) (0, 99999999) i).2) / 2)).toInt64 (nI (toH gr ki ma hd L sd)).toInt64) (crH gr ki ma hd L sd) p) < (nI (ru 0)) then 0 else 1) → Xs κ g 34 0 0 cX9_line yX9_line (some .int) Q 0 0 85 [some (.ref aN), some (.int (nI p)), some (.int (nI (((hvI (liP ru (toH gr ki ma hd L sd) (crH gr ki ma hd L sd) p) (0, 99999999) i).1)))), some (.int (nI (((hvI (liP ru (toH gr ki ma hd L sd) (crH gr ki ma hd L sd) p) (0, 99999999) i).2)))), some (.int (nI (((hvI (liP ru (toH gr ki ma hd L sd) (crH gr ki ma hd L sd) p) (0, 99999999) i).1 + (hvI (liP ru (toH gr ki ma hd L sd) (crH gr ki ma hd L sd) p) (0, 99999999) i).2) / 2))), none] [.int v8] [(aN, .inr (9, [.ref aNs, .ref aNk, .int nkp, .ref aNf, .ref aNr, .ref aNp, .ref aNb, .ref aNa, .ref aNt, .int (nI nts), .ref aNbo, .ref aNsz, .ref aNnu, .int (nI z1), .int (nI z2), .int z3, .int 0, .int (nI z4), .int 0, .int 0, .int 0, .ref aNl, .ref aNal, .ref aNlo, .int (nI (toH gr ki ma hd L sd)), .ref aNw, .ref aNtr, .ref aNis, .ref aNbg, .ref aNow])), (aNf, .inl (g.2.1 0, 8, .inl (nIf (fnF fi)))), (aNs, .inl (g.2.1 0, 919, .inl (msF gr wk z lk sz br ru ki ma bb ce hd))), (aNt, .inl (g.2.1 0, 60, .inl (nIf tb))), (aNa, .inl (g.2.1 0, 2475, .inl (nIf fcN))), (aNr, .inl (g.2.1 0, 495, .inl (nIf rowB))), (aNb, .inl (g.2.1 0, 4096, .inl (nIf popN))), (aNl, .inl (g.2.1 0, 495, .inl (nIf sd))), (aNal, .inl (g.2.1 0, 495, .inl (nIf (crH gr ki ma hd L sd)))), (aNlo, .inl (g.2.1 0, 12, .inl (nIf z5))), (aNw, .inl (g.2.1 0, 1485, .inl (nIf (wiF (crH gr ki ma hd L sd)))))] := by
          intro v8 ev8
          refine x_istore (lv' := [some (.ref aN), some (.int (nI p)), some (.int (nI (((hvI (liP ru (toH gr ki ma hd L sd) (crH gr ki ma hd L sd) p) (0, 99999999) i).1)))), some (.int (nI (((hvI (liP ru (toH gr ki ma hd L sd) (crH gr ki ma hd L sd) p) (0, 99999999) i).2)))), some (.int (nI (((hvI (liP ru (toH gr ki ma hd L sd) (crH gr ki ma hd L sd) p) (0, 99999999) i).1 + (hvI (liP ru (toH gr ki ma hd L sd) (crH gr ki ma hd L sd) p) (0, 99999999) i).2) / 2))), some (.int v8)]) dX9_line_85 (xlt rfl) rfl ?_
          refine x_iload dX9_line_87 rfl ?_
          have J89_11 : ∀ (v10 : Nat), v10 = (if v8 = 0 then ((hvI (liP ru (toH gr ki ma hd L sd) (crH gr ki ma hd L sd) p) (0, 99999999) i).2) else ((hvI (liP ru (toH gr ki ma hd L sd) (crH gr ki ma hd L sd) p) (0, 99999999) i).1 + (hvI (liP ru (toH gr ki ma hd L sd) (crH gr ki ma hd L sd) p) (0, 99999999) i).2) / 2) → Xs κ g 34 0 0 cX9_line yX9_line (some .int) Q 0 0 98 [some (.ref aN), some (.int (nI p)), some (.int (nI (((hvI (liP ru (toH gr ki ma hd L sd) (crH gr ki ma hd L sd) p) (0, 99999999) i).1)))), some (.int (nI (((hvI (liP ru (toH gr ki ma hd L sd) (crH gr ki ma hd L sd) p) (0, 99999999) i).2)))), some (.int (nI (((hvI (liP ru (toH gr ki ma hd L sd) (crH gr ki ma hd L sd) p) (0, 99999999) i).1 + (hvI (liP ru (toH gr ki ma hd L sd) (crH gr ki ma hd L sd) p) (0, 99999999) i).2) / 2))), some (.int v8)] [.int (nI v10)] [(aN, .inr (9, [.ref aNs, .ref aNk, .int nkp, .ref aNf, .ref aNr, .ref aNp, .ref aNb, .ref aNa, .ref aNt, .int (nI nts), .ref aNbo, .ref aNsz, .ref aNnu, .int (nI z1), .int (nI z2), .int z3, .int 0, .int (nI z4), .int 0, .int 0, .int 0, .ref aNl, .ref aNal, .ref aNlo, .int (nI (toH gr ki ma hd L sd)), .ref aNw, .ref aNtr, .ref aNis, .ref aNbg, .ref aNow])), (aNf, .inl (g.2.1 0, 8, .inl (nIf (fnF fi)))), (aNs, .inl (g.2.1 0, 919, .inl (msF gr wk z lk sz br ru ki ma bb ce hd))), (aNt, .inl (g.2.1 0, 60, .inl (nIf tb))), (aNa, .inl (g.2.1 0, 2475, .inl (nIf fcN))), (aNr, .inl (g.2.1 0, 495, .inl (nIf rowB))), (aNb, .inl (g.2.1 0, 4096, .inl (nIf popN))), (aNl, .inl (g.2.1 0, 495, .inl (nIf sd))), (aNal, .inl (g.2.1 0, 495, .inl (nIf (crH gr ki ma hd L sd)))), (aNlo, .inl (g.2.1 0, 12, .inl (nIf z5))), (aNw, .inl (g.2.1 0, 1485, .inl (nIf (wiF (crH gr ki ma hd L sd)))))] := by
            intro v10 ev10
            refine x_istore_n (lv' := [some (.ref aN), some (.int (nI p)), some (.int (nI (((hvI (liP ru (toH gr ki ma hd L sd) (crH gr ki ma hd L sd) p) (0, 99999999) i).1)))), some (.int (nI v10)), some (.int (nI (((hvI (liP ru (toH gr ki ma hd L sd) (crH gr ki ma hd L sd) p) (0, 99999999) i).1 + (hvI (liP ru (toH gr ki ma hd L sd) (crH gr ki ma hd L sd) p) (0, 99999999) i).2) / 2))), some (.int v8)]) dX9_line_98 (xlt rfl) rfl ?_
            refine x_iload dX9_line_99 rfl ?_
            have J101_13 : ∀ (v12 : Nat), v12 = (if v8 = 0 then (((hvI (liP ru (toH gr ki ma hd L sd) (crH gr ki ma hd L sd) p) (0, 99999999) i).1 + (hvI (liP ru (toH gr ki ma hd L sd) (crH gr ki ma hd L sd) p) (0, 99999999) i).2) / 2) + 1 else ((hvI (liP ru (toH gr ki ma hd L sd) (crH gr ki ma hd L sd) p) (0, 99999999) i).1)) → Xs κ g 34 0 0 cX9_line yX9_line (some .int) Q 0 0 112 [some (.ref aN), some (.int (nI p)), some (.int (nI (((hvI (liP ru (toH gr ki ma hd L sd) (crH gr ki ma hd L sd) p) (0, 99999999) i).1)))), some (.int (nI v10)), some (.int (nI (((hvI (liP ru (toH gr ki ma hd L sd) (crH gr ki ma hd L sd) p) (0, 99999999) i).1 + (hvI (liP ru (toH gr ki ma hd L sd) (crH gr ki ma hd L sd) p) (0, 99999999) i).2) / 2))), some (.int v8)] [.int (nI v12)] [(aN, .inr (9, [.ref aNs, .ref aNk, .int nkp, .ref aNf, .ref aNr, .ref aNp, .ref aNb, .ref aNa, .ref aNt, .int (nI nts), .ref aNbo, .ref aNsz, .ref aNnu, .int (nI z1), .int (nI z2), .int z3, .int 0, .int (nI z4), .int 0, .int 0, .int 0, .ref aNl, .ref aNal, .ref aNlo, .int (nI (toH gr ki ma hd L sd)), .ref aNw, .ref aNtr, .ref aNis, .ref aNbg, .ref aNow])), (aNf, .inl (g.2.1 0, 8, .inl (nIf (fnF fi)))), (aNs, .inl (g.2.1 0, 919, .inl (msF gr wk z lk sz br ru ki ma bb ce hd))), (aNt, .inl (g.2.1 0, 60, .inl (nIf tb))), (aNa, .inl (g.2.1 0, 2475, .inl (nIf fcN))), (aNr, .inl (g.2.1 0, 495, .inl (nIf rowB))), (aNb, .inl (g.2.1 0, 4096, .inl (nIf popN))), (aNl, .inl (g.2.1 0, 495, .inl (nIf sd))), (aNal, .inl (g.2.1 0, 495, .inl (nIf (crH gr ki ma hd L sd)))), (aNlo, .inl (g.2.1 0, 12, .inl (nIf z5))), (aNw, .inl (g.2.1 0, 1485, .inl (nIf (wiF (crH gr ki ma hd L sd)))))] := by
              intro v12 ev12
              refine x_istore_n (lv' := [some (.ref aN), some (.int (nI p)), some (.int (nI v12)), some (.int (nI v10)), some (.int (nI (((hvI (liP ru (toH gr ki ma hd L sd) (crH gr ki ma hd L sd) p) (0, 99999999) i).1 + (hvI (liP ru (toH gr ki ma hd L sd) (crH gr ki ma hd L sd) p) (0, 99999999) i).2) / 2))), some (.int v8)]) dX9_line_112 (xlt rfl) rfl ?_
              refine x_goto dX9_line_113 ?_
              refine x_fgt (lv' := [some (.ref aN), some (.int (nI p)), some (.int (nI v12)), some (.int (nI v10)), none, none]) ⟨Or.inr rfl, Or.inr rfl, Or.inr rfl, Or.inr rfl, Or.inl rfl, Or.inl rfl, trivial⟩ ?_
              exact ih47 (by omega) v12 (by simp only [ev12, ev8]; exact hv_lo (by omega) (dec_if _)) v10 (by simp only [ev10, ev8]; exact hv_hi (by omega) (dec_if _))
            refine x_if_eq dX9_line_101 (fun c101 => ?_) (fun c101 => ?_)
            · have c101 : v8 = 0 := c101
              refine x_iload dX9_line_108 rfl ?_
              refine x_iconst 1 dX9_line_110 (by decide) ?_
              refine x_iadd dX9_line_111 ?_
              refine x_rei (nI ((((hvI (liP ru (toH gr ki ma hd L sd) (crH gr ki ma hd L sd) p) (0, 99999999) i).1 + (hvI (liP ru (toH gr ki ma hd L sd) (crH gr ki ma hd L sd) p) (0, 99999999) i).2) / 2) + 1)) (nI_addc (((hvI (liP ru (toH gr ki ma hd L sd) (crH gr ki ma hd L sd) p) (0, 99999999) i).1 + (hvI (liP ru (toH gr ki ma hd L sd) (crH gr ki ma hd L sd) p) (0, 99999999) i).2) / 2) 1 rfl) ?_
              exact J101_13 ((((hvI (liP ru (toH gr ki ma hd L sd) (crH gr ki ma hd L sd) p) (0, 99999999) i).1 + (hvI (liP ru (toH gr ki ma hd L sd) (crH gr ki ma hd L sd) p) (0, 99999999) i).2) / 2) + 1) (if_pos c101).symm
            · have c101 : ¬ (v8 = 0) := c101
              refine x_iload_n dX9_line_104 rfl ?_
              refine x_goto dX9_line_105 ?_
              exact J101_13 ((hvI (liP ru (toH gr ki ma hd L sd) (crH gr ki ma hd L sd) p) (0, 99999999) i).1) (if_neg c101).symm
          refine x_if_eq dX9_line_89 (fun c89 => ?_) (fun c89 => ?_)
          · have c89 : v8 = 0 := c89
            refine x_iload_n dX9_line_97 rfl ?_
            exact J89_11 ((hvI (liP ru (toH gr ki ma hd L sd) (crH gr ki ma hd L sd) p) (0, 99999999) i).2) (if_pos c89).symm
          · have c89 : ¬ (v8 = 0) := c89
            refine x_iload dX9_line_92 rfl ?_
            refine x_goto dX9_line_94 ?_
            exact J89_11 (((hvI (liP ru (toH gr ki ma hd L sd) (crH gr ki ma hd L sd) p) (0, 99999999) i).1 + (hvI (liP ru (toH gr ki ma hd L sd) (crH gr ki ma hd L sd) p) (0, 99999999) i).2) / 2) (if_neg c89).symm
        refine x_icmp_lt dX9_line_77 (fun c77 => ?_) (fun c77 => ?_)
        · have c77 : (woR ru (potL ru (nI (((hvI (liP ru (toH gr ki ma hd L sd) (crH gr ki ma hd L sd) p) (0, 99999999) i).1 + (hvI (liP ru (toH gr ki ma hd L sd) (crH gr ki ma hd L sd) p) (0, 99999999) i).2) / 2)).toInt64 (nI (toH gr ki ma hd L sd)).toInt64) (crH gr ki ma hd L sd) p) < (nI (ru 0)) := c77
          refine x_iconst 0 dX9_line_84 (by decide) ?_
          exact J77_9 _ (if_pos c77).symm
        · have c77 : ¬ ((woR ru (potL ru (nI (((hvI (liP ru (toH gr ki ma hd L sd) (crH gr ki ma hd L sd) p) (0, 99999999) i).1 + (hvI (liP ru (toH gr ki ma hd L sd) (crH gr ki ma hd L sd) p) (0, 99999999) i).2) / 2)).toInt64 (nI (toH gr ki ma hd L sd)).toInt64) (crH gr ki ma hd L sd) p) < (nI (ru 0))) := c77
          refine x_iconst 1 dX9_line_80 (by decide) ?_
          refine x_goto dX9_line_81 ?_
          exact J77_9 _ (if_neg c77).symm
    exact L47_7 0 (Nat.zero_le _) 0 (by rfl) 99999999 (by rfl)
  · have c32 : ¬ ((nI (ru 0)) ≤ (woR ru (potL ru (nI 99999999).toInt64 (nI (toH gr ki ma hd L sd)).toInt64) (crH gr ki ma hd L sd) p)) := c32
    exact absurd (fa_of_nle c32) hl

-- == X9_rarest ==
theorem dX9_rarest_0 : xd cX9_rarest 0 (.iconst (-1)) 1 1 := ⟨by decide +kernel, rfl⟩
theorem dX9_rarest_1 : xd cX9_rarest 1 (.istore_n 1) 1 2 := ⟨by decide +kernel, rfl⟩
theorem dX9_rarest_2 : xd cX9_rarest 2 (.iconst 0) 1 3 := ⟨by decide +kernel, rfl⟩
theorem dX9_rarest_3 : xd cX9_rarest 3 (.istore_n 2) 1 4 := ⟨by decide +kernel, rfl⟩
theorem dX9_rarest_4 : xd cX9_rarest 4 (.iload_n 2) 1 5 := ⟨by decide +kernel, rfl⟩
theorem dX9_rarest_5 : xd cX9_rarest 5 (.sipush 495) 3 8 := ⟨by decide +kernel, rfl⟩
theorem dX9_rarest_8 : xj cX9_rarest 8 (.if_icmp .ge) 11 51 := ⟨43, by decide +kernel, rfl, by decide⟩
theorem dX9_rarest_11 : xd cX9_rarest 11 (.aload_n 0) 1 12 := ⟨by decide +kernel, rfl⟩
theorem dX9_rarest_12 : xd cX9_rarest 12 (.getfield 69) 3 15 := ⟨by decide +kernel, rfl⟩
theorem dX9_rarest_15 : xd cX9_rarest 15 (.iload_n 2) 1 16 := ⟨by decide +kernel, rfl⟩
theorem dX9_rarest_16 : xd cX9_rarest 16 .baload 1 17 := ⟨by decide +kernel, rfl⟩
theorem dX9_rarest_17 : xj cX9_rarest 17 (.ifCond .ne) 20 43 := ⟨26, by decide +kernel, rfl, by decide⟩
theorem dX9_rarest_20 : xd cX9_rarest 20 (.iload_n 1) 1 21 := ⟨by decide +kernel, rfl⟩
theorem dX9_rarest_21 : xj cX9_rarest 21 (.ifCond .lt) 24 39 := ⟨18, by decide +kernel, rfl, by decide⟩
theorem dX9_rarest_24 : xd cX9_rarest 24 (.aload_n 0) 1 25 := ⟨by decide +kernel, rfl⟩
theorem dX9_rarest_25 : xd cX9_rarest 25 (.getfield 66) 3 28 := ⟨by decide +kernel, rfl⟩
theorem dX9_rarest_28 : xd cX9_rarest 28 (.iload_n 2) 1 29 := ⟨by decide +kernel, rfl⟩
theorem dX9_rarest_29 : xd cX9_rarest 29 .iaload 1 30 := ⟨by decide +kernel, rfl⟩
theorem dX9_rarest_30 : xd cX9_rarest 30 (.aload_n 0) 1 31 := ⟨by decide +kernel, rfl⟩
theorem dX9_rarest_31 : xd cX9_rarest 31 (.getfield 66) 3 34 := ⟨by decide +kernel, rfl⟩
theorem dX9_rarest_34 : xd cX9_rarest 34 (.iload_n 1) 1 35 := ⟨by decide +kernel, rfl⟩
theorem dX9_rarest_35 : xd cX9_rarest 35 .iaload 1 36 := ⟨by decide +kernel, rfl⟩
theorem dX9_rarest_36 : xj cX9_rarest 36 (.if_icmp .ge) 39 43 := ⟨7, by decide +kernel, rfl, by decide⟩
theorem dX9_rarest_39 : xd cX9_rarest 39 (.iload_n 2) 1 40 := ⟨by decide +kernel, rfl⟩
theorem dX9_rarest_40 : xj cX9_rarest 40 .goto 43 44 := ⟨4, by decide +kernel, rfl, by decide⟩
theorem dX9_rarest_43 : xd cX9_rarest 43 (.iload_n 1) 1 44 := ⟨by decide +kernel, rfl⟩
theorem dX9_rarest_44 : xd cX9_rarest 44 (.istore_n 1) 1 45 := ⟨by decide +kernel, rfl⟩
theorem dX9_rarest_45 : xd cX9_rarest 45 (.iinc 2 1) 3 48 := ⟨by decide +kernel, rfl⟩
theorem dX9_rarest_48 : xj cX9_rarest 48 .goto 51 4 := ⟨(-44), by decide +kernel, rfl, by decide⟩
theorem dX9_rarest_51 : xd cX9_rarest 51 (.iload_n 1) 1 52 := ⟨by decide +kernel, rfl⟩
theorem dX9_rarest_52 : xd cX9_rarest 52 .ireturn 1 53 := ⟨by decide +kernel, rfl⟩

set_option maxRecDepth 100000 in
set_option maxHeartbeats 4000000 in
theorem ct_X9_rarest (l : Launch) (g : XG) (aN aNs aNk aNf aNr aNp aNb aNa aNt aNbo aNsz aNnu aNl aNal aNlo aNw aNtr aNis aNbg aNow nts nta nop npr nac : Nat) (nkp nbd ntp nnw nsn nwn : Int32) (nis : Nat → Int32) (ntr : Nat → Nat) (htr : ∀ p, ntr p < 2 ^ 31) : Ct l g 1 0 0 yX9_rarest cX9_rarest 3 (some .int) [.ref aN] [(aN, .inr (9, [.ref aNs, .ref aNk, .int nkp, .ref aNf, .ref aNr, .ref aNp, .ref aNb, .ref aNa, .ref aNt, .int (nI nts), .ref aNbo, .ref aNsz, .ref aNnu, .int (nI nta), .int (nI nop), .int nbd, .int ntp, .int (nI npr), .int nnw, .int nsn, .int nwn, .ref aNl, .ref aNal, .ref aNlo, .int (nI nac), .ref aNw, .ref aNtr, .ref aNis, .ref aNbg, .ref aNow])), (aNis, .inl (g.2.1 3, 495, .inl nis)), (aNtr, .inl (g.2.1 0, 495, .inl (nIf ntr)))] (xpi (rbI (raN nis ntr 495)) [(aN, .inr (9, [.ref aNs, .ref aNk, .int nkp, .ref aNf, .ref aNr, .ref aNp, .ref aNb, .ref aNa, .ref aNt, .int (nI nts), .ref aNbo, .ref aNsz, .ref aNnu, .int (nI nta), .int (nI nop), .int nbd, .int ntp, .int (nI npr), .int nnw, .int nsn, .int nwn, .ref aNl, .ref aNal, .ref aNlo, .int (nI nac), .ref aNw, .ref aNtr, .ref aNis, .ref aNbg, .ref aNow])), (aNis, .inl (g.2.1 3, 495, .inl nis)), (aNtr, .inl (g.2.1 0, 495, .inl (nIf ntr)))]) := by
  refine Ct.ofX (lv := [some (.ref aN), none, none]) (by decide) rfl (Nat.le_of_ble_eq_true rfl) (fun κ => ?_)
  generalize hQ : xQ κ g 0 0 _ = Q
  refine x_iconst (-1) dX9_rarest_0 (by decide) ?_
  refine x_istore_n (lv' := [some (.ref aN), some (.int ((-1))), none]) dX9_rarest_1 (xlt rfl) rfl ?_
  refine x_iconst 0 dX9_rarest_2 (by decide) ?_
  refine x_istore_n (lv' := [some (.ref aN), some (.int ((-1))), some (.int 0)]) dX9_rarest_3 (xlt rfl) rfl ?_
  have L4_1 : ∀ (i : Nat), i ≤ 495 → ∀ (bq : Int32), bq = rbI (raN nis ntr i) → Xs κ g 1 0 0 cX9_rarest yX9_rarest (some .int) Q 0 0 4 [some (.ref aN), some (.int bq), some (.int (nI i))] [] [(aN, .inr (9, [.ref aNs, .ref aNk, .int nkp, .ref aNf, .ref aNr, .ref aNp, .ref aNb, .ref aNa, .ref aNt, .int (nI nts), .ref aNbo, .ref aNsz, .ref aNnu, .int (nI nta), .int (nI nop), .int nbd, .int ntp, .int (nI npr), .int nnw, .int nsn, .int nwn, .ref aNl, .ref aNal, .ref aNlo, .int (nI nac), .ref aNw, .ref aNtr, .ref aNis, .ref aNbg, .ref aNow])), (aNis, .inl (g.2.1 3, 495, .inl nis)), (aNtr, .inl (g.2.1 0, 495, .inl (nIf ntr)))] := by
    refine upTo 495 (fun i hi4 ih4 => ?_)
    intro bq ebq
    subst ebq
    have hrl := raN_le nis ntr i hi4
    have ht1 := htr i
    have ht2 := htr (raN nis ntr i)
    refine x_iload_n dX9_rarest_4 rfl ?_
    refine x_sipush 495 dX9_rarest_5 (by decide) ?_
    refine x_icmp_ge dX9_rarest_8 (fun c8 => ?_) (fun c8 => ?_)
    · have c8 : 495 ≤ (nI i) := c8
      have c8n := (nI_leI (a := 495) (b := i) (by omega) (by omega)).mp c8
      have hxc8 : i = 495 := by omega
      try rw [hxc8]
      refine x_iload_n dX9_rarest_51 rfl ?_
      rw [← hQ]
      refine x_iret dX9_rarest_52 rfl (Nat.le_of_ble_eq_true rfl) (Nat.le_of_ble_eq_true rfl) ?_
      exact ⟨rfl, rfl⟩
    · have c8 : ¬ (495 ≤ (nI i)) := c8
      have c8n := mt (nI_leI (a := 495) (b := i) (by omega) (by omega)).mpr c8
      refine x_aload_n dX9_rarest_11 rfl ?_
      refine x_get dX9_rarest_12 0 27 inX9 fl_X9_69 rfl rfl (by decide) rfl ?_
      refine x_iload_n dX9_rarest_15 rfl ?_
      refine x_zald dX9_rarest_16 1 i rfl (rfl) (by omega) (by decide) ?_
      refine x_if_ne dX9_rarest_17 (fun c17 => ?_) (fun c17 => ?_)
      · have c17 : ¬ ((nis i) = 0) := c17
        refine x_iload_n dX9_rarest_43 rfl ?_
        refine x_istore_n (lv' := [some (.ref aN), some (.int (rbI (raN nis ntr i))), some (.int (nI i))]) dX9_rarest_44 (xlt rfl) rfl ?_
        refine x_iinc (lv' := [some (.ref aN), some (.int (rbI (raN nis ntr i))), some (.int (nI (i + 1)))]) (nI (i + 1)) dX9_rarest_45 rfl (nI_addc i 1 rfl) rfl ?_
        refine x_goto dX9_rarest_48 ?_
        exact ih4 (by omega) _ (by first | exact ra_t1 c17 hrb (by omega) | exact ra_t2 c17 (by omega) (by omega) | exact ra_k1 c17 | exact ra_k2 hrb (by omega))
      · have c17 : (nis i) = 0 := c17
        by_cases hrb : raN nis ntr i < 495
        rw [show rbI (raN nis ntr i) = nI (raN nis ntr i) from if_pos hrb]
        rotate_left
        rw [show rbI (raN nis ntr i) = -1 from if_neg hrb]
        rotate_left
        · skip
          refine x_eq (lv' := [some (.ref aN), some (.int (nI (raN nis ntr i))), some (.int (nI i))]) (st' := []) (ws' := [(aN, .inr (9, [.ref aNs, .ref aNk, .int nkp, .ref aNf, .ref aNr, .ref aNp, .ref aNb, .ref aNa, .ref aNt, .int (nI nts), .ref aNbo, .ref aNsz, .ref aNnu, .int (nI nta), .int (nI nop), .int nbd, .int ntp, .int (nI npr), .int nnw, .int nsn, .int nwn, .ref aNl, .ref aNal, .ref aNlo, .int (nI nac), .ref aNw, .ref aNtr, .ref aNis, .ref aNbg, .ref aNow])), (aNis, .inl (g.2.1 3, 495, .inl nis)), (aNtr, .inl (g.2.1 0, 495, .inl (nIf ntr)))]) ?_ rfl rfl rfl
          refine x_iload_n dX9_rarest_20 rfl ?_
          refine x_if_lt dX9_rarest_21 (fun c21 => ?_) (fun c21 => ?_)
          · have c21 : (nI (raN nis ntr i)) < 0 := c21
            have c21n := (nI_ltI (a := (raN nis ntr i)) (b := 0) (by omega) (by omega)).mp c21
            exact absurd c21n (by omega)
          · have c21 : ¬ ((nI (raN nis ntr i)) < 0) := c21
            have c21n := mt (nI_ltI (a := (raN nis ntr i)) (b := 0) (by omega) (by omega)).mpr c21
            refine x_aload_n dX9_rarest_24 rfl ?_
            refine x_get dX9_rarest_25 0 26 inX9 fl_X9_66 rfl rfl (by decide) rfl ?_
            refine x_iload_n dX9_rarest_28 rfl ?_
            refine x_iald dX9_rarest_29 2 i rfl (rfl) (by omega) (by decide) ?_
            refine x_aload_n dX9_rarest_30 rfl ?_
            refine x_get dX9_rarest_31 0 26 inX9 fl_X9_66 rfl rfl (by decide) rfl ?_
            refine x_iload_n dX9_rarest_34 rfl ?_
            refine x_iald dX9_rarest_35 2 (raN nis ntr i) rfl (rfl) (by omega) (by decide) ?_
            refine x_icmp_ge dX9_rarest_36 (fun c36 => ?_) (fun c36 => ?_)
            · have c36 : (nI (ntr (raN nis ntr i))) ≤ (nI (ntr i)) := c36
              have c36n := (nI_leI (a := (ntr (raN nis ntr i))) (b := (ntr i)) (by omega) (by omega)).mp c36
              refine x_iload_n dX9_rarest_43 rfl ?_
              refine x_istore_n (lv' := [some (.ref aN), some (.int (nI (raN nis ntr i))), some (.int (nI i))]) dX9_rarest_44 (xlt rfl) rfl ?_
              refine x_iinc (lv' := [some (.ref aN), some (.int (nI (raN nis ntr i))), some (.int (nI (i + 1)))]) (nI (i + 1)) dX9_rarest_45 rfl (nI_addc i 1 rfl) rfl ?_
              refine x_goto dX9_rarest_48 ?_
              exact ih4 (by omega) _ (by first | exact ra_t1 c17 hrb (by omega) | exact ra_t2 c17 (by omega) (by omega) | exact ra_k1 c17 | exact ra_k2 hrb (by omega))
            · have c36 : ¬ ((nI (ntr (raN nis ntr i))) ≤ (nI (ntr i))) := c36
              have c36n := mt (nI_leI (a := (ntr (raN nis ntr i))) (b := (ntr i)) (by omega) (by omega)).mpr c36
              refine x_iload_n dX9_rarest_39 rfl ?_
              refine x_goto dX9_rarest_40 ?_
              refine x_istore_n (lv' := [some (.ref aN), some (.int (nI i)), some (.int (nI i))]) dX9_rarest_44 (xlt rfl) rfl ?_
              refine x_iinc (lv' := [some (.ref aN), some (.int (nI i)), some (.int (nI (i + 1)))]) (nI (i + 1)) dX9_rarest_45 rfl (nI_addc i 1 rfl) rfl ?_
              refine x_goto dX9_rarest_48 ?_
              exact ih4 (by omega) _ (by first | exact ra_t1 c17 hrb (by omega) | exact ra_t2 c17 (by omega) (by omega) | exact ra_k1 c17 | exact ra_k2 hrb (by omega))
        · skip
          refine x_eq (lv' := [some (.ref aN), some (.int ((-1))), some (.int (nI i))]) (st' := []) (ws' := [(aN, .inr (9, [.ref aNs, .ref aNk, .int nkp, .ref aNf, .ref aNr, .ref aNp, .ref aNb, .ref aNa, .ref aNt, .int (nI nts), .ref aNbo, .ref aNsz, .ref aNnu, .int (nI nta), .int (nI nop), .int nbd, .int ntp, .int (nI npr), .int nnw, .int nsn, .int nwn, .ref aNl, .ref aNal, .ref aNlo, .int (nI nac), .ref aNw, .ref aNtr, .ref aNis, .ref aNbg, .ref aNow])), (aNis, .inl (g.2.1 3, 495, .inl nis)), (aNtr, .inl (g.2.1 0, 495, .inl (nIf ntr)))]) ?_ rfl rfl rfl
          refine x_iload_n dX9_rarest_20 rfl ?_
          refine x_if_lt dX9_rarest_21 (fun c21 => ?_) (fun c21 => ?_)
          rotate_left
          · exact absurd c21 (by decide)
          refine x_iload_n dX9_rarest_39 rfl ?_
          refine x_goto dX9_rarest_40 ?_
          refine x_istore_n (lv' := [some (.ref aN), some (.int (nI i)), some (.int (nI i))]) dX9_rarest_44 (xlt rfl) rfl ?_
          refine x_iinc (lv' := [some (.ref aN), some (.int (nI i)), some (.int (nI (i + 1)))]) (nI (i + 1)) dX9_rarest_45 rfl (nI_addc i 1 rfl) rfl ?_
          refine x_goto dX9_rarest_48 ?_
          exact ih4 (by omega) _ (by first | exact ra_t1 c17 hrb (by omega) | exact ra_t2 c17 (by omega) (by omega) | exact ra_k1 c17 | exact ra_k2 hrb (by omega))
  exact L4_1 0 (Nat.zero_le _) _ (by rfl)

-- == X9_begins ==
theorem dX9_begins_0 : xd cX9_begins 0 (.aload_n 0) 1 1 := ⟨by decide +kernel, rfl⟩
theorem dX9_begins_1 : xd cX9_begins 1 (.invokevirtual 198) 3 4 := ⟨by decide +kernel, rfl⟩
theorem dX9_begins_4 : xd cX9_begins 4 (.iconst 0) 1 5 := ⟨by decide +kernel, rfl⟩
theorem dX9_begins_5 : xd cX9_begins 5 (.istore_n 1) 1 6 := ⟨by decide +kernel, rfl⟩
theorem dX9_begins_6 : xd cX9_begins 6 (.iload_n 1) 1 7 := ⟨by decide +kernel, rfl⟩
theorem dX9_begins_7 : xd cX9_begins 7 (.sipush 495) 3 10 := ⟨by decide +kernel, rfl⟩
theorem dX9_begins_10 : xj cX9_begins 10 (.if_icmp .ge) 13 38 := ⟨28, by decide +kernel, rfl, by decide⟩
theorem dX9_begins_13 : xd cX9_begins 13 (.aload_n 0) 1 14 := ⟨by decide +kernel, rfl⟩
theorem dX9_begins_14 : xd cX9_begins 14 (.getfield 66) 3 17 := ⟨by decide +kernel, rfl⟩
theorem dX9_begins_17 : xd cX9_begins 17 (.iload_n 1) 1 18 := ⟨by decide +kernel, rfl⟩
theorem dX9_begins_18 : xd cX9_begins 18 (.aload_n 0) 1 19 := ⟨by decide +kernel, rfl⟩
theorem dX9_begins_19 : xd cX9_begins 19 (.getfield 57) 3 22 := ⟨by decide +kernel, rfl⟩
theorem dX9_begins_22 : xd cX9_begins 22 (.iload_n 1) 1 23 := ⟨by decide +kernel, rfl⟩
theorem dX9_begins_23 : xd cX9_begins 23 .iaload 1 24 := ⟨by decide +kernel, rfl⟩
theorem dX9_begins_24 : xd cX9_begins 24 .iastore 1 25 := ⟨by decide +kernel, rfl⟩
theorem dX9_begins_25 : xd cX9_begins 25 (.aload_n 0) 1 26 := ⟨by decide +kernel, rfl⟩
theorem dX9_begins_26 : xd cX9_begins 26 (.getfield 69) 3 29 := ⟨by decide +kernel, rfl⟩
theorem dX9_begins_29 : xd cX9_begins 29 (.iload_n 1) 1 30 := ⟨by decide +kernel, rfl⟩
theorem dX9_begins_30 : xd cX9_begins 30 (.iconst 0) 1 31 := ⟨by decide +kernel, rfl⟩
theorem dX9_begins_31 : xd cX9_begins 31 .bastore 1 32 := ⟨by decide +kernel, rfl⟩
theorem dX9_begins_32 : xd cX9_begins 32 (.iinc 1 1) 3 35 := ⟨by decide +kernel, rfl⟩
theorem dX9_begins_35 : xj cX9_begins 35 .goto 38 6 := ⟨(-29), by decide +kernel, rfl, by decide⟩
theorem dX9_begins_38 : xd cX9_begins 38 .return_ 1 39 := ⟨by decide +kernel, rfl⟩

set_option maxRecDepth 100000 in
set_option maxHeartbeats 4000000 in
theorem ct_X9_begins (l : Launch) (g : XG) (aN aNs aNk aNf aNr aNp aNb aNa aNt aNbo aNsz aNnu aNl aNal aNlo aNw aNtr aNis aNbg aNow nts nta nop npr nac : Nat) (nkp nbd nnw nsn nwn : Int32) (gr wk lk sz br : Nat) (z : Int32) (ru ki ma bb hd : Nat → Nat) (ce : Nat → Int32) (tb nli nal nlo sd : Nat → Nat) (L : Nat) (ntr : Nat → Nat) (nis : Nat → Int32) (hgr : gr ≤ 12) (hki : ∀ j, ki j ≤ 7) (hma : ∀ j, ma j ≤ 99999) (hwk : wk ≤ 40) (hlat : latI ce wk = nI L) (hL : L < 4096) (hsz : sz ≤ 60) (hbb : ∀ j, bb j < 256) (hsd : ∀ p, sd p ≤ 99) (hsv : ∀ p, p < 495 → sd p = if lk = 1 then clN (txV bb sz wk L p) else 1) (hlk : lk ≤ 1) (hwo : (nnw = 1 ∧ (nsn = 1 ∨ (nsn = 0 ∧ nli = sd))) ∨ (nnw = 0 ∧ nsn = 0 ∧ nli = sd ∧ nal = crH gr ki ma hd L sd ∧ nac = toH gr ki ma hd L sd ∧ ∀ q, q < gr → nlo q = laN (ki q) (ma q) L sd)) : Ct l g 28 0 0 yX9_begins cX9_begins 2 none [.ref aN] [(aN, .inr (9, [.ref aNs, .ref aNk, .int nkp, .ref aNf, .ref aNr, .ref aNp, .ref aNb, .ref aNa, .ref aNt, .int (nI nts), .ref aNbo, .ref aNsz, .ref aNnu, .int (nI nta), .int (nI nop), .int nbd, .int 0, .int (nI npr), .int nnw, .int nsn, .int nwn, .ref aNl, .ref aNal, .ref aNlo, .int (nI nac), .ref aNw, .ref aNtr, .ref aNis, .ref aNbg, .ref aNow])), (aNs, .inl (g.2.1 0, 919, .inl (msF gr wk z lk sz br ru ki ma bb ce hd))), (aNt, .inl (g.2.1 0, 60, .inl (nIf tb))), (aNa, .inl (g.2.1 0, 2475, .inl (nIf fcN))), (aNr, .inl (g.2.1 0, 495, .inl (nIf rowB))), (aNb, .inl (g.2.1 0, 4096, .inl (nIf popN))), (aNl, .inl (g.2.1 0, 495, .inl (nIf nli))), (aNal, .inl (g.2.1 0, 495, .inl (nIf nal))), (aNlo, .inl (g.2.1 0, 12, .inl (nIf nlo))), (aNtr, .inl (g.2.1 0, 495, .inl (nIf ntr))), (aNis, .inl (g.2.1 3, 495, .inl nis))] (fun vv_ ww_ => ∃ (zat : Nat) (zop : Nat) (zbd : Int32) (zpr : Nat) (lo2 : Nat → Nat), vv_ = none ∧ ww_ = [(aN, .inr (9, [.ref aNs, .ref aNk, .int nkp, .ref aNf, .ref aNr, .ref aNp, .ref aNb, .ref aNa, .ref aNt, .int (nI nts), .ref aNbo, .ref aNsz, .ref aNnu, .int (nI zat), .int (nI zop), .int zbd, .int 0, .int (nI zpr), .int 0, .int 0, .int (wnI nnw nwn), .ref aNl, .ref aNal, .ref aNlo, .int (nI (toH gr ki ma hd L sd)), .ref aNw, .ref aNtr, .ref aNis, .ref aNbg, .ref aNow])), (aNs, .inl (g.2.1 0, 919, .inl (msF gr wk z lk sz br ru ki ma bb ce hd))), (aNt, .inl (g.2.1 0, 60, .inl (nIf tb))), (aNa, .inl (g.2.1 0, 2475, .inl (nIf fcN))), (aNr, .inl (g.2.1 0, 495, .inl (nIf rowB))), (aNb, .inl (g.2.1 0, 4096, .inl (nIf popN))), (aNl, .inl (g.2.1 0, 495, .inl (nIf sd))), (aNal, .inl (g.2.1 0, 495, .inl (nIf (crH gr ki ma hd L sd)))), (aNlo, .inl (g.2.1 0, 12, .inl (nIf lo2))), (aNtr, .inl (g.2.1 0, 495, .inl (nIf (crH gr ki ma hd L sd)))), (aNis, .inl (g.2.1 3, 495, .inl (fun _ => 0)))] ∧ (∀ q, q < gr → lo2 q = laN (ki q) (ma q) L sd)) := by
  refine Ct.ofX (lv := [some (.ref aN), none]) (by decide) rfl (Nat.le_of_ble_eq_true rfl) (fun κ => ?_)
  generalize hQ : xQ κ g 0 0 _ = Q
  refine x_aload_n dX9_begins_0 rfl ?_
  refine x_callV dX9_begins_1 ml_X9_198 mX9_works (ct_X9_works κ.2.1 g aN aNs aNk aNf aNr aNp aNb aNa aNt aNbo aNsz aNnu aNl aNal aNlo aNw aNtr aNis aNbg aNow nts nta nop npr nac nkp nbd nnw nsn nwn gr wk lk sz br z ru ki ma bb hd ce tb nli nal nlo sd L (hgr) (hki) (hma) (hwk) (hlat) (hL) (hsz) (hbb) (hsd) (hsv) (hlk) (hwo)) [0, 1, 2, 3, 4, 5, 6, 7, 8] rfl rfl 0 rfl rfl rfl (Nat.le_of_ble_eq_true rfl) (by decide) (Nat.le_refl _) (Nat.le_refl _) (fun vv ww hp => ?_)
  obtain ⟨z1, z2, z3, z4, z5, rfl, rfl, p6⟩ := hp
  refine ⟨(rfl : [aN, aNs, aNt, aNa, aNr, aNb, aNl, aNal, aNlo] = [aN, aNs, aNt, aNa, aNr, aNb, aNl, aNal, aNlo]), x_eq (lv' := [some (.ref aN), none]) (st' := []) (ws' := [(aN, .inr (9, [.ref aNs, .ref aNk, .int nkp, .ref aNf, .ref aNr, .ref aNp, .ref aNb, .ref aNa, .ref aNt, .int (nI nts), .ref aNbo, .ref aNsz, .ref aNnu, .int (nI z1), .int (nI z2), .int z3, .int 0, .int (nI z4), .int 0, .int 0, .int (wnI nnw nwn), .ref aNl, .ref aNal, .ref aNlo, .int (nI (toH gr ki ma hd L sd)), .ref aNw, .ref aNtr, .ref aNis, .ref aNbg, .ref aNow])), (aNs, .inl (g.2.1 0, 919, .inl (msF gr wk z lk sz br ru ki ma bb ce hd))), (aNt, .inl (g.2.1 0, 60, .inl (nIf tb))), (aNa, .inl (g.2.1 0, 2475, .inl (nIf fcN))), (aNr, .inl (g.2.1 0, 495, .inl (nIf rowB))), (aNb, .inl (g.2.1 0, 4096, .inl (nIf popN))), (aNl, .inl (g.2.1 0, 495, .inl (nIf sd))), (aNal, .inl (g.2.1 0, 495, .inl (nIf (crH gr ki ma hd L sd)))), (aNlo, .inl (g.2.1 0, 12, .inl (nIf z5))), (aNtr, .inl (g.2.1 0, 495, .inl (nIf ntr))), (aNis, .inl (g.2.1 3, 495, .inl nis))]) ?_ rfl rfl rfl⟩
  refine x_iconst 0 dX9_begins_4 (by decide) ?_
  refine x_istore_n (lv' := [some (.ref aN), some (.int 0)]) dX9_begins_5 (xlt rfl) rfl ?_
  have L6_7 : ∀ (i : Nat), i ≤ 495 → ∀ (tf : Nat → Nat), tf = fillT i (crH gr ki ma hd L sd) ntr → ∀ (ig : Nat → Int32), ig = fillT i (fun _ => 0) nis → Xs κ g 28 0 0 cX9_begins yX9_begins none Q 0 0 6 [some (.ref aN), some (.int (nI i))] [] [(aN, .inr (9, [.ref aNs, .ref aNk, .int nkp, .ref aNf, .ref aNr, .ref aNp, .ref aNb, .ref aNa, .ref aNt, .int (nI nts), .ref aNbo, .ref aNsz, .ref aNnu, .int (nI z1), .int (nI z2), .int z3, .int 0, .int (nI z4), .int 0, .int 0, .int (wnI nnw nwn), .ref aNl, .ref aNal, .ref aNlo, .int (nI (toH gr ki ma hd L sd)), .ref aNw, .ref aNtr, .ref aNis, .ref aNbg, .ref aNow])), (aNs, .inl (g.2.1 0, 919, .inl (msF gr wk z lk sz br ru ki ma bb ce hd))), (aNt, .inl (g.2.1 0, 60, .inl (nIf tb))), (aNa, .inl (g.2.1 0, 2475, .inl (nIf fcN))), (aNr, .inl (g.2.1 0, 495, .inl (nIf rowB))), (aNb, .inl (g.2.1 0, 4096, .inl (nIf popN))), (aNl, .inl (g.2.1 0, 495, .inl (nIf sd))), (aNal, .inl (g.2.1 0, 495, .inl (nIf (crH gr ki ma hd L sd)))), (aNlo, .inl (g.2.1 0, 12, .inl (nIf z5))), (aNtr, .inl (g.2.1 0, 495, .inl (nIf tf))), (aNis, .inl (g.2.1 3, 495, .inl ig))] := by
    refine upTo 495 (fun i hi6 ih6 => ?_)
    intro tf etf
    subst etf
    intro ig eig
    subst eig
    refine x_iload_n dX9_begins_6 rfl ?_
    refine x_sipush 495 dX9_begins_7 (by decide) ?_
    refine x_icmp_ge dX9_begins_10 (fun c10 => ?_) (fun c10 => ?_)
    · have c10 : 495 ≤ (nI i) := c10
      have c10n := (nI_leI (a := 495) (b := i) (by omega) (by omega)).mp c10
      have hxc10 : i = 495 := by omega
      try rw [hxc10]
      refine x_funi (ws' := [(aN, .inr (9, [.ref aNs, .ref aNk, .int nkp, .ref aNf, .ref aNr, .ref aNp, .ref aNb, .ref aNa, .ref aNt, .int (nI nts), .ref aNbo, .ref aNsz, .ref aNnu, .int (nI z1), .int (nI z2), .int z3, .int 0, .int (nI z4), .int 0, .int 0, .int (wnI nnw nwn), .ref aNl, .ref aNal, .ref aNlo, .int (nI (toH gr ki ma hd L sd)), .ref aNw, .ref aNtr, .ref aNis, .ref aNbg, .ref aNow])), (aNs, .inl (g.2.1 0, 919, .inl (msF gr wk z lk sz br ru ki ma bb ce hd))), (aNt, .inl (g.2.1 0, 60, .inl (nIf tb))), (aNa, .inl (g.2.1 0, 2475, .inl (nIf fcN))), (aNr, .inl (g.2.1 0, 495, .inl (nIf rowB))), (aNb, .inl (g.2.1 0, 4096, .inl (nIf popN))), (aNl, .inl (g.2.1 0, 495, .inl (nIf sd))), (aNal, .inl (g.2.1 0, 495, .inl (nIf (crH gr ki ma hd L sd)))), (aNlo, .inl (g.2.1 0, 12, .inl (nIf z5))), (aNtr, .inl (g.2.1 0, 495, .inl (nIf (crH gr ki ma hd L sd)))), (aNis, .inl (g.2.1 3, 495, .inl (fillT 495 (fun _ => 0) nis)))]) (q0 := 9) rfl (fun j hj => congrArg nI (fillT_in _ _ hj)) rfl ?_
      refine x_funi (ws' := [(aN, .inr (9, [.ref aNs, .ref aNk, .int nkp, .ref aNf, .ref aNr, .ref aNp, .ref aNb, .ref aNa, .ref aNt, .int (nI nts), .ref aNbo, .ref aNsz, .ref aNnu, .int (nI z1), .int (nI z2), .int z3, .int 0, .int (nI z4), .int 0, .int 0, .int (wnI nnw nwn), .ref aNl, .ref aNal, .ref aNlo, .int (nI (toH gr ki ma hd L sd)), .ref aNw, .ref aNtr, .ref aNis, .ref aNbg, .ref aNow])), (aNs, .inl (g.2.1 0, 919, .inl (msF gr wk z lk sz br ru ki ma bb ce hd))), (aNt, .inl (g.2.1 0, 60, .inl (nIf tb))), (aNa, .inl (g.2.1 0, 2475, .inl (nIf fcN))), (aNr, .inl (g.2.1 0, 495, .inl (nIf rowB))), (aNb, .inl (g.2.1 0, 4096, .inl (nIf popN))), (aNl, .inl (g.2.1 0, 495, .inl (nIf sd))), (aNal, .inl (g.2.1 0, 495, .inl (nIf (crH gr ki ma hd L sd)))), (aNlo, .inl (g.2.1 0, 12, .inl (nIf z5))), (aNtr, .inl (g.2.1 0, 495, .inl (nIf (crH gr ki ma hd L sd)))), (aNis, .inl (g.2.1 3, 495, .inl (fun _ => 0)))]) (q0 := 10) rfl (fun j hj => fillT_in _ _ hj) rfl ?_
      rw [← hQ]
      refine x_vret dX9_begins_38 rfl (Nat.le_of_ble_eq_true rfl) (Nat.le_of_ble_eq_true rfl) ?_
      exact ⟨_, _, _, _, _, rfl, rfl, p6⟩
    · have c10 : ¬ (495 ≤ (nI i)) := c10
      have c10n := mt (nI_leI (a := 495) (b := i) (by omega) (by omega)).mpr c10
      refine x_aload_n dX9_begins_13 rfl ?_
      refine x_get dX9_begins_14 0 26 inX9 fl_X9_66 rfl rfl (by decide) rfl ?_
      refine x_iload_n dX9_begins_17 rfl ?_
      refine x_aload_n dX9_begins_18 rfl ?_
      refine x_get dX9_begins_19 0 22 inX9 fl_X9_57 rfl rfl (by decide) rfl ?_
      refine x_iload_n dX9_begins_22 rfl ?_
      refine x_iald dX9_begins_23 7 i rfl (rfl) (by omega) (by decide) ?_
      refine x_rei (nI ((crH gr ki ma hd L sd) i)) rfl ?_
      refine x_iast (ws' := [(aN, .inr (9, [.ref aNs, .ref aNk, .int nkp, .ref aNf, .ref aNr, .ref aNp, .ref aNb, .ref aNa, .ref aNt, .int (nI nts), .ref aNbo, .ref aNsz, .ref aNnu, .int (nI z1), .int (nI z2), .int z3, .int 0, .int (nI z4), .int 0, .int 0, .int (wnI nnw nwn), .ref aNl, .ref aNal, .ref aNlo, .int (nI (toH gr ki ma hd L sd)), .ref aNw, .ref aNtr, .ref aNis, .ref aNbg, .ref aNow])), (aNs, .inl (g.2.1 0, 919, .inl (msF gr wk z lk sz br ru ki ma bb ce hd))), (aNt, .inl (g.2.1 0, 60, .inl (nIf tb))), (aNa, .inl (g.2.1 0, 2475, .inl (nIf fcN))), (aNr, .inl (g.2.1 0, 495, .inl (nIf rowB))), (aNb, .inl (g.2.1 0, 4096, .inl (nIf popN))), (aNl, .inl (g.2.1 0, 495, .inl (nIf sd))), (aNal, .inl (g.2.1 0, 495, .inl (nIf (crH gr ki ma hd L sd)))), (aNlo, .inl (g.2.1 0, 12, .inl (nIf z5))), (aNtr, .inl (g.2.1 0, 495, .inl (nIf (updN (fillT i (crH gr ki ma hd L sd) ntr) i ((crH gr ki ma hd L sd) i))))), (aNis, .inl (g.2.1 3, 495, .inl (fillT i (fun _ => 0) nis)))]) dX9_begins_24 9 i rfl (rfl) (by omega) (by decide) (by rw [upd_nIf]; rfl) ?_
      refine x_aload_n dX9_begins_25 rfl ?_
      refine x_get dX9_begins_26 0 27 inX9 fl_X9_69 rfl rfl (by decide) rfl ?_
      refine x_iload_n dX9_begins_29 rfl ?_
      refine x_iconst 0 dX9_begins_30 (by decide) ?_
      refine x_zast (ws' := [(aN, .inr (9, [.ref aNs, .ref aNk, .int nkp, .ref aNf, .ref aNr, .ref aNp, .ref aNb, .ref aNa, .ref aNt, .int (nI nts), .ref aNbo, .ref aNsz, .ref aNnu, .int (nI z1), .int (nI z2), .int z3, .int 0, .int (nI z4), .int 0, .int 0, .int (wnI nnw nwn), .ref aNl, .ref aNal, .ref aNlo, .int (nI (toH gr ki ma hd L sd)), .ref aNw, .ref aNtr, .ref aNis, .ref aNbg, .ref aNow])), (aNs, .inl (g.2.1 0, 919, .inl (msF gr wk z lk sz br ru ki ma bb ce hd))), (aNt, .inl (g.2.1 0, 60, .inl (nIf tb))), (aNa, .inl (g.2.1 0, 2475, .inl (nIf fcN))), (aNr, .inl (g.2.1 0, 495, .inl (nIf rowB))), (aNb, .inl (g.2.1 0, 4096, .inl (nIf popN))), (aNl, .inl (g.2.1 0, 495, .inl (nIf sd))), (aNal, .inl (g.2.1 0, 495, .inl (nIf (crH gr ki ma hd L sd)))), (aNlo, .inl (g.2.1 0, 12, .inl (nIf z5))), (aNtr, .inl (g.2.1 0, 495, .inl (nIf (updN (fillT i (crH gr ki ma hd L sd) ntr) i ((crH gr ki ma hd L sd) i))))), (aNis, .inl (g.2.1 3, 495, .inl (upd (fillT i (fun _ => 0) nis) i (vp_nar .boolean 0))))]) dX9_begins_31 10 i rfl (rfl) (by omega) (by decide) rfl ?_
      refine x_iinc (lv' := [some (.ref aN), some (.int (nI (i + 1)))]) (nI (i + 1)) dX9_begins_32 rfl (nI_addc i 1 rfl) rfl ?_
      refine x_goto dX9_begins_35 ?_
      exact ih6 (by omega) (updN (fillT i (crH gr ki ma hd L sd) ntr) i ((crH gr ki ma hd L sd) i)) (by exact fillT_updN i (crH gr ki ma hd L sd) ntr) _ (by exact fillT_upd i (fun _ => 0) nis)
  exact L6_7 0 (Nat.zero_le _) ntr (by exact (fillT_0 _ _).symm) _ (by exact (fillT_0 _ _).symm)

-- == nseek_b ==
theorem dX9_seek_0 : xd cX9_seek 0 (.iload_n 1) 1 1 := ⟨by decide +kernel, rfl⟩
theorem dX9_seek_1 : xd cX9_seek 1 .i2l 1 2 := ⟨by decide +kernel, rfl⟩
theorem dX9_seek_2 : xd cX9_seek 2 (.lconst 1) 1 3 := ⟨by decide +kernel, rfl⟩
theorem dX9_seek_3 : xd cX9_seek 3 (.ldc2_w 246) 3 6 := ⟨by decide +kernel, rfl⟩
theorem dX9_seek_6 : xd cX9_seek 6 (.invokestatic 98) 3 9 := ⟨by decide +kernel, rfl⟩
theorem dX9_seek_9 : xj cX9_seek 9 (.ifCond .eq) 12 22 := ⟨13, by decide +kernel, rfl, by decide⟩
theorem dX9_seek_12 : xd cX9_seek 12 (.iload_n 2) 1 13 := ⟨by decide +kernel, rfl⟩
theorem dX9_seek_13 : xd cX9_seek 13 .i2l 1 14 := ⟨by decide +kernel, rfl⟩
theorem dX9_seek_14 : xd cX9_seek 14 (.lconst 0) 1 15 := ⟨by decide +kernel, rfl⟩
theorem dX9_seek_15 : xd cX9_seek 15 (.lconst 1) 1 16 := ⟨by decide +kernel, rfl⟩
theorem dX9_seek_16 : xd cX9_seek 16 (.invokestatic 98) 3 19 := ⟨by decide +kernel, rfl⟩
theorem dX9_seek_19 : xj cX9_seek 19 (.ifCond .ne) 22 29 := ⟨10, by decide +kernel, rfl, by decide⟩
theorem dX9_seek_22 : xd cX9_seek 22 (.aload_n 0) 1 23 := ⟨by decide +kernel, rfl⟩
theorem dX9_seek_23 : xd cX9_seek 23 (.ldc 87) 2 25 := ⟨by decide +kernel, rfl⟩
theorem dX9_seek_25 : xd cX9_seek 25 (.invokevirtual 88) 3 28 := ⟨by decide +kernel, rfl⟩
theorem dX9_seek_28 : xd cX9_seek 28 .ireturn 1 29 := ⟨by decide +kernel, rfl⟩
theorem dX9_seek_29 : xd cX9_seek 29 (.aload_n 0) 1 30 := ⟨by decide +kernel, rfl⟩
theorem dX9_seek_30 : xd cX9_seek 30 (.invokevirtual 240) 3 33 := ⟨by decide +kernel, rfl⟩
theorem dX9_seek_33 : xd cX9_seek 33 (.iconst 0) 1 34 := ⟨by decide +kernel, rfl⟩
theorem dX9_seek_34 : xd cX9_seek 34 (.istore_n 3) 1 35 := ⟨by decide +kernel, rfl⟩
theorem dX9_seek_35 : xd cX9_seek 35 (.iconst 0) 1 36 := ⟨by decide +kernel, rfl⟩
theorem dX9_seek_36 : xd cX9_seek 36 (.istore 4) 2 38 := ⟨by decide +kernel, rfl⟩
theorem dX9_seek_38 : xd cX9_seek 38 (.iload 4) 2 40 := ⟨by decide +kernel, rfl⟩
theorem dX9_seek_40 : xd cX9_seek 40 (.iload_n 1) 1 41 := ⟨by decide +kernel, rfl⟩
theorem dX9_seek_41 : xj cX9_seek 41 (.if_icmp .ge) 44 92 := ⟨51, by decide +kernel, rfl, by decide⟩
theorem dX9_seek_44 : xd cX9_seek 44 (.aload_n 0) 1 45 := ⟨by decide +kernel, rfl⟩
theorem dX9_seek_45 : xd cX9_seek 45 (.invokevirtual 243) 3 48 := ⟨by decide +kernel, rfl⟩
theorem dX9_seek_48 : xd cX9_seek 48 (.istore 5) 2 50 := ⟨by decide +kernel, rfl⟩
theorem dX9_seek_50 : xd cX9_seek 50 (.iload_n 3) 1 51 := ⟨by decide +kernel, rfl⟩
theorem dX9_seek_51 : xd cX9_seek 51 (.aload_n 0) 1 52 := ⟨by decide +kernel, rfl⟩
theorem dX9_seek_52 : xd cX9_seek 52 (.getfield 66) 3 55 := ⟨by decide +kernel, rfl⟩
theorem dX9_seek_55 : xd cX9_seek 55 (.iload 5) 2 57 := ⟨by decide +kernel, rfl⟩
theorem dX9_seek_57 : xd cX9_seek 57 .iaload 1 58 := ⟨by decide +kernel, rfl⟩
theorem dX9_seek_58 : xd cX9_seek 58 (.aload_n 0) 1 59 := ⟨by decide +kernel, rfl⟩
theorem dX9_seek_59 : xd cX9_seek 59 (.getfield 57) 3 62 := ⟨by decide +kernel, rfl⟩
theorem dX9_seek_62 : xd cX9_seek 62 (.iload 5) 2 64 := ⟨by decide +kernel, rfl⟩
theorem dX9_seek_64 : xd cX9_seek 64 .iaload 1 65 := ⟨by decide +kernel, rfl⟩
theorem dX9_seek_65 : xj cX9_seek 65 (.if_icmp .ne) 68 72 := ⟨7, by decide +kernel, rfl, by decide⟩
theorem dX9_seek_68 : xd cX9_seek 68 (.iconst 1) 1 69 := ⟨by decide +kernel, rfl⟩
theorem dX9_seek_69 : xj cX9_seek 69 .goto 72 73 := ⟨4, by decide +kernel, rfl, by decide⟩
theorem dX9_seek_72 : xd cX9_seek 72 (.iconst 0) 1 73 := ⟨by decide +kernel, rfl⟩
theorem dX9_seek_73 : xd cX9_seek 73 .iadd 1 74 := ⟨by decide +kernel, rfl⟩
theorem dX9_seek_74 : xd cX9_seek 74 (.istore_n 3) 1 75 := ⟨by decide +kernel, rfl⟩
theorem dX9_seek_75 : xd cX9_seek 75 (.aload_n 0) 1 76 := ⟨by decide +kernel, rfl⟩
theorem dX9_seek_76 : xd cX9_seek 76 (.getfield 66) 3 79 := ⟨by decide +kernel, rfl⟩
theorem dX9_seek_79 : xd cX9_seek 79 (.iload 5) 2 81 := ⟨by decide +kernel, rfl⟩
theorem dX9_seek_81 : xd cX9_seek 81 .dup2 1 82 := ⟨by decide +kernel, rfl⟩
theorem dX9_seek_82 : xd cX9_seek 82 .iaload 1 83 := ⟨by decide +kernel, rfl⟩
theorem dX9_seek_83 : xd cX9_seek 83 (.iconst 1) 1 84 := ⟨by decide +kernel, rfl⟩
theorem dX9_seek_84 : xd cX9_seek 84 .iadd 1 85 := ⟨by decide +kernel, rfl⟩
theorem dX9_seek_85 : xd cX9_seek 85 .iastore 1 86 := ⟨by decide +kernel, rfl⟩
theorem dX9_seek_86 : xd cX9_seek 86 (.iinc 4 1) 3 89 := ⟨by decide +kernel, rfl⟩
theorem dX9_seek_89 : xj cX9_seek 89 .goto 92 38 := ⟨(-51), by decide +kernel, rfl, by decide⟩
theorem dX9_seek_92 : xd cX9_seek 92 (.iload_n 2) 1 93 := ⟨by decide +kernel, rfl⟩
theorem dX9_seek_93 : xj cX9_seek 93 (.ifCond .ne) 96 108 := ⟨15, by decide +kernel, rfl, by decide⟩
theorem dX9_seek_96 : xd cX9_seek 96 (.aload_n 0) 1 97 := ⟨by decide +kernel, rfl⟩
theorem dX9_seek_97 : xd cX9_seek 97 (.getfield 66) 3 100 := ⟨by decide +kernel, rfl⟩
theorem dX9_seek_100 : xd cX9_seek 100 (.aload_n 0) 1 101 := ⟨by decide +kernel, rfl⟩
theorem dX9_seek_101 : xd cX9_seek 101 (.invokevirtual 243) 3 104 := ⟨by decide +kernel, rfl⟩
theorem dX9_seek_104 : xd cX9_seek 104 .iaload 1 105 := ⟨by decide +kernel, rfl⟩
theorem dX9_seek_105 : xj cX9_seek 105 .goto 108 109 := ⟨4, by decide +kernel, rfl, by decide⟩
theorem dX9_seek_108 : xd cX9_seek 108 (.iload_n 3) 1 109 := ⟨by decide +kernel, rfl⟩
theorem dX9_seek_109 : xd cX9_seek 109 .ireturn 1 110 := ⟨by decide +kernel, rfl⟩

set_option maxRecDepth 100000 in
set_option maxHeartbeats 4000000 in
theorem ct_nseek_b (l : Launch) (g : XG) (aN aNs aNk aNf aNr aNp aNb aNa aNt aNbo aNsz aNnu aNl aNal aNlo aNw aNtr aNis aNbg aNow nts nta nop npr nac : Nat) (nkp nbd ntp nnw nsn nwn : Int32) (fi : Nat → Nat) (m wh : Int32) (hb : wI m 1 200 = 0 ∨ wI wh 0 1 = 0) : Ct l g 34 0 0 yX9_seek cX9_seek 6 (some .int) [.ref aN, .int m, .int wh] [(aN, .inr (9, [.ref aNs, .ref aNk, .int nkp, .ref aNf, .ref aNr, .ref aNp, .ref aNb, .ref aNa, .ref aNt, .int (nI nts), .ref aNbo, .ref aNsz, .ref aNnu, .int (nI nta), .int (nI nop), .int nbd, .int ntp, .int (nI npr), .int nnw, .int nsn, .int nwn, .ref aNl, .ref aNal, .ref aNlo, .int (nI nac), .ref aNw, .ref aNtr, .ref aNis, .ref aNbg, .ref aNow])), (aNf, .inl (g.2.1 0, 8, .inl (nIf (fnF fi))))] (xpi (fndI 0) [(aN, .inr (9, [.ref aNs, .ref aNk, .int nkp, .ref aNf, .ref aNr, .ref aNp, .ref aNb, .ref aNa, .ref aNt, .int (nI nts), .ref aNbo, .ref aNsz, .ref aNnu, .int (nI nta), .int (nI nop), .int nbd, .int ntp, .int (nI npr), .int nnw, .int nsn, .int nwn, .ref aNl, .ref aNal, .ref aNlo, .int (nI nac), .ref aNw, .ref aNtr, .ref aNis, .ref aNbg, .ref aNow])), (aNf, .inl (g.2.1 0, 8, .inl (nIf (fnF (updN fi 0 (fi 0 + 1))))))]) := by
  refine Ct.ofX (lv := [some (.ref aN), some (.int m), some (.int wh), none, none, none]) (by decide) rfl (Nat.le_of_ble_eq_true rfl) (fun κ => ?_)
  generalize hQ : xQ κ g 0 0 _ = Q
  refine x_iload_n dX9_seek_0 rfl ?_
  refine x_i2l dX9_seek_1 ?_
  refine x_lconst 1 dX9_seek_2 (by decide) ?_
  refine x_ldc2 dX9_seek_3 kl_X9_246 ?_
  refine x_cSi dX9_seek_6 ml_X9_98 mX9_isIn (ct_X9_isIn κ.2.1 g m.toInt64 1 200) rfl (Nat.le_of_ble_eq_true rfl) (by decide) (Nat.le_refl _) (Nat.le_refl _) ?_
  refine x_rei (wI m 1 200) (inL_w m 1 200 (by first | rfl | decide) (by first | rfl | decide)) ?_
  refine x_if_eq dX9_seek_9 (fun c9 => ?_) (fun c9 => ?_)
  · have c9 : (wI m 1 200) = 0 := c9
    refine x_aload_n dX9_seek_22 rfl ?_
    refine x_ldc dX9_seek_23 k_X9_87 ?_
    refine x_cVi (ws' := [(aN, .inr (9, [.ref aNs, .ref aNk, .int nkp, .ref aNf, .ref aNr, .ref aNp, .ref aNb, .ref aNa, .ref aNt, .int (nI nts), .ref aNbo, .ref aNsz, .ref aNnu, .int (nI nta), .int (nI nop), .int nbd, .int ntp, .int (nI npr), .int nnw, .int nsn, .int nwn, .ref aNl, .ref aNal, .ref aNlo, .int (nI nac), .ref aNw, .ref aNtr, .ref aNis, .ref aNbg, .ref aNow])), (aNf, .inl (g.2.1 0, 8, .inl (nIf (fnF (updN fi 0 (fi 0 + 1))))))]) dX9_seek_25 ml_X9_88 mX9_finds (ct_finds_0 κ.2.1 g aN aNs aNk aNf aNr aNp aNb aNa aNt aNbo aNsz aNnu aNl aNal aNlo aNw aNtr aNis aNbg aNow nts nta nop npr nac nkp nbd ntp nnw nsn nwn fi) [0, 1] rfl rfl 0 rfl rfl rfl (Nat.le_of_ble_eq_true rfl) (by decide) (Nat.le_refl _) (Nat.le_refl _) (rfl : [aN, aNf] = [aN, aNf]) rfl ?_
    rw [← hQ]
    refine x_iret dX9_seek_28 rfl (Nat.le_of_ble_eq_true rfl) (Nat.le_of_ble_eq_true rfl) ?_
    exact ⟨rfl, rfl⟩
  · have c9 : ¬ ((wI m 1 200) = 0) := c9
    refine x_iload_n dX9_seek_12 rfl ?_
    refine x_i2l dX9_seek_13 ?_
    refine x_lconst 0 dX9_seek_14 (by decide) ?_
    refine x_lconst 1 dX9_seek_15 (by decide) ?_
    refine x_cSi dX9_seek_16 ml_X9_98 mX9_isIn (ct_X9_isIn κ.2.1 g wh.toInt64 0 1) rfl (Nat.le_of_ble_eq_true rfl) (by decide) (Nat.le_refl _) (Nat.le_refl _) ?_
    refine x_rei (wI wh 0 1) (inL_w wh 0 1 (by first | rfl | decide) (by first | rfl | decide)) ?_
    refine x_if_ne dX9_seek_19 (fun c19 => ?_) (fun c19 => ?_)
    · have c19 : ¬ ((wI wh 0 1) = 0) := c19
      exact absurd (hb.resolve_left c9) c19
    · have c19 : (wI wh 0 1) = 0 := c19
      refine x_aload_n dX9_seek_22 rfl ?_
      refine x_ldc dX9_seek_23 k_X9_87 ?_
      refine x_cVi (ws' := [(aN, .inr (9, [.ref aNs, .ref aNk, .int nkp, .ref aNf, .ref aNr, .ref aNp, .ref aNb, .ref aNa, .ref aNt, .int (nI nts), .ref aNbo, .ref aNsz, .ref aNnu, .int (nI nta), .int (nI nop), .int nbd, .int ntp, .int (nI npr), .int nnw, .int nsn, .int nwn, .ref aNl, .ref aNal, .ref aNlo, .int (nI nac), .ref aNw, .ref aNtr, .ref aNis, .ref aNbg, .ref aNow])), (aNf, .inl (g.2.1 0, 8, .inl (nIf (fnF (updN fi 0 (fi 0 + 1))))))]) dX9_seek_25 ml_X9_88 mX9_finds (ct_finds_0 κ.2.1 g aN aNs aNk aNf aNr aNp aNb aNa aNt aNbo aNsz aNnu aNl aNal aNlo aNw aNtr aNis aNbg aNow nts nta nop npr nac nkp nbd ntp nnw nsn nwn fi) [0, 1] rfl rfl 0 rfl rfl rfl (Nat.le_of_ble_eq_true rfl) (by decide) (Nat.le_refl _) (Nat.le_refl _) (rfl : [aN, aNf] = [aN, aNf]) rfl ?_
      rw [← hQ]
      refine x_iret dX9_seek_28 rfl (Nat.le_of_ble_eq_true rfl) (Nat.le_of_ble_eq_true rfl) ?_
      exact ⟨rfl, rfl⟩

-- == nseek_0 ==
set_option maxRecDepth 100000 in
set_option maxHeartbeats 4000000 in
theorem ct_nseek_0 (l : Launch) (g : XG) (aN aNs aNk aNf aNr aNp aNb aNa aNt aNbo aNsz aNnu aNl aNal aNlo aNw aNtr aNis aNbg aNow nts nta nop npr nac : Nat) (nkp nbd nnw nsn nwn : Int32) (gr wk lk sz br : Nat) (z : Int32) (ru ki ma bb hd : Nat → Nat) (ce : Nat → Int32) (tb nli nal nlo sd : Nat → Nat) (L : Nat) (ntr : Nat → Nat) (nis : Nat → Int32) (m : Nat) (hgr : gr ≤ 12) (hki : ∀ j, ki j ≤ 7) (hma : ∀ j, ma j ≤ 99999) (hwk : wk ≤ 40) (hlat : latI ce wk = nI L) (hL : L < 4096) (hsz : sz ≤ 60) (hbb : ∀ j, bb j < 256) (hsd : ∀ p, sd p ≤ 99) (hsv : ∀ p, p < 495 → sd p = if lk = 1 then clN (txV bb sz wk L p) else 1) (hlk : lk ≤ 1) (hwo : (nnw = 1 ∧ (nsn = 1 ∨ (nsn = 0 ∧ nli = sd))) ∨ (nnw = 0 ∧ nsn = 0 ∧ nli = sd ∧ nal = crH gr ki ma hd L sd ∧ nac = toH gr ki ma hd L sd ∧ ∀ q, q < gr → nlo q = laN (ki q) (ma q) L sd)) (hcb : ∀ p, crH gr ki ma hd L sd p ≤ 2 ^ 30) (hm : 1 ≤ m ∧ m ≤ 200) : Ct l g 34 0 0 yX9_seek cX9_seek 6 (some .int) [.ref aN, .int (nI m), .int 0] [(aN, .inr (9, [.ref aNs, .ref aNk, .int nkp, .ref aNf, .ref aNr, .ref aNp, .ref aNb, .ref aNa, .ref aNt, .int (nI nts), .ref aNbo, .ref aNsz, .ref aNnu, .int (nI nta), .int (nI nop), .int nbd, .int 0, .int (nI npr), .int nnw, .int nsn, .int nwn, .ref aNl, .ref aNal, .ref aNlo, .int (nI nac), .ref aNw, .ref aNtr, .ref aNis, .ref aNbg, .ref aNow])), (aNs, .inl (g.2.1 0, 919, .inl (msF gr wk z lk sz br ru ki ma bb ce hd))), (aNt, .inl (g.2.1 0, 60, .inl (nIf tb))), (aNa, .inl (g.2.1 0, 2475, .inl (nIf fcN))), (aNr, .inl (g.2.1 0, 495, .inl (nIf rowB))), (aNb, .inl (g.2.1 0, 4096, .inl (nIf popN))), (aNl, .inl (g.2.1 0, 495, .inl (nIf nli))), (aNal, .inl (g.2.1 0, 495, .inl (nIf nal))), (aNlo, .inl (g.2.1 0, 12, .inl (nIf nlo))), (aNtr, .inl (g.2.1 0, 495, .inl (nIf ntr))), (aNis, .inl (g.2.1 3, 495, .inl nis))] (fun vv_ ww_ => ∃ (zat : Nat) (zop : Nat) (zbd : Int32) (zpr : Nat) (lo2 : Nat → Nat), vv_ = some (.int (nI (skT (crH gr ki ma hd L sd) m (lsT (skT (crH gr ki ma hd L sd) m) 495)))) ∧ ww_ = [(aN, .inr (9, [.ref aNs, .ref aNk, .int nkp, .ref aNf, .ref aNr, .ref aNp, .ref aNb, .ref aNa, .ref aNt, .int (nI nts), .ref aNbo, .ref aNsz, .ref aNnu, .int (nI zat), .int (nI zop), .int zbd, .int 0, .int (nI zpr), .int 0, .int 0, .int (wnI nnw nwn), .ref aNl, .ref aNal, .ref aNlo, .int (nI (toH gr ki ma hd L sd)), .ref aNw, .ref aNtr, .ref aNis, .ref aNbg, .ref aNow])), (aNs, .inl (g.2.1 0, 919, .inl (msF gr wk z lk sz br ru ki ma bb ce hd))), (aNt, .inl (g.2.1 0, 60, .inl (nIf tb))), (aNa, .inl (g.2.1 0, 2475, .inl (nIf fcN))), (aNr, .inl (g.2.1 0, 495, .inl (nIf rowB))), (aNb, .inl (g.2.1 0, 4096, .inl (nIf popN))), (aNl, .inl (g.2.1 0, 495, .inl (nIf sd))), (aNal, .inl (g.2.1 0, 495, .inl (nIf (crH gr ki ma hd L sd)))), (aNlo, .inl (g.2.1 0, 12, .inl (nIf lo2))), (aNtr, .inl (g.2.1 0, 495, .inl (nIf (skT (crH gr ki ma hd L sd) m)))), (aNis, .inl (g.2.1 3, 495, .inl (fun _ => 0)))] ∧ (∀ q, q < gr → lo2 q = laN (ki q) (ma q) L sd)) := by
  refine Ct.ofX (lv := [some (.ref aN), some (.int (nI m)), some (.int 0), none, none, none]) (by decide) rfl (Nat.le_of_ble_eq_true rfl) (fun κ => ?_)
  generalize hQ : xQ κ g 0 0 _ = Q
  refine x_iload_n dX9_seek_0 rfl ?_
  refine x_i2l dX9_seek_1 ?_
  refine x_lconst 1 dX9_seek_2 (by decide) ?_
  refine x_ldc2 dX9_seek_3 kl_X9_246 ?_
  refine x_cSi dX9_seek_6 ml_X9_98 mX9_isIn (ct_X9_isIn κ.2.1 g ((nI m).toInt64) 1 200) rfl (Nat.le_of_ble_eq_true rfl) (by decide) (Nat.le_refl _) (Nat.le_refl _) ?_
  refine x_rei (wI (nI m) 1 200) (inL_w (nI m) 1 200 (by first | rfl | decide) (by first | rfl | decide)) ?_
  refine x_rei 1 (show wI (nI m) 1 200 = 1 from wI_nat (n := m) (a := 1) (b := 200) ⟨by omega, by omega, by omega, by omega⟩) ?_
  refine x_if_eq dX9_seek_9 (fun c9 => ?_) (fun c9 => ?_)
  · exact absurd c9 (by decide)
  refine x_iload_n dX9_seek_12 rfl ?_
  refine x_i2l dX9_seek_13 ?_
  refine x_lconst 0 dX9_seek_14 (by decide) ?_
  refine x_lconst 1 dX9_seek_15 (by decide) ?_
  refine x_cSi dX9_seek_16 ml_X9_98 mX9_isIn (ct_X9_isIn κ.2.1 g ((0 : Int32).toInt64) 0 1) rfl (Nat.le_of_ble_eq_true rfl) (by decide) (Nat.le_refl _) (Nat.le_refl _) ?_
  refine x_rei (1) (by decide) ?_
  refine x_if_ne dX9_seek_19 (fun c19 => ?_) (fun c19 => ?_)
  rotate_left
  · exact absurd c19 (by decide)
  refine x_aload_n dX9_seek_29 rfl ?_
  refine x_callV dX9_seek_30 ml_X9_240 mX9_begins (ct_X9_begins κ.2.1 g aN aNs aNk aNf aNr aNp aNb aNa aNt aNbo aNsz aNnu aNl aNal aNlo aNw aNtr aNis aNbg aNow nts nta nop npr nac nkp nbd nnw nsn nwn gr wk lk sz br z ru ki ma bb hd ce tb nli nal nlo sd L ntr nis (hgr) (hki) (hma) (hwk) (hlat) (hL) (hsz) (hbb) (hsd) (hsv) (hlk) (hwo)) [0, 1, 2, 3, 4, 5, 6, 7, 8, 9, 10] rfl rfl 0 rfl rfl rfl (Nat.le_of_ble_eq_true rfl) (by decide) (Nat.le_refl _) (Nat.le_refl _) (fun vv ww hp => ?_)
  obtain ⟨z1, z2, z3, z4, z5, rfl, rfl, p6⟩ := hp
  refine ⟨(rfl : [aN, aNs, aNt, aNa, aNr, aNb, aNl, aNal, aNlo, aNtr, aNis] = [aN, aNs, aNt, aNa, aNr, aNb, aNl, aNal, aNlo, aNtr, aNis]), x_eq (lv' := [some (.ref aN), some (.int (nI m)), some (.int 0), none, none, none]) (st' := []) (ws' := [(aN, .inr (9, [.ref aNs, .ref aNk, .int nkp, .ref aNf, .ref aNr, .ref aNp, .ref aNb, .ref aNa, .ref aNt, .int (nI nts), .ref aNbo, .ref aNsz, .ref aNnu, .int (nI z1), .int (nI z2), .int z3, .int 0, .int (nI z4), .int 0, .int 0, .int (wnI nnw nwn), .ref aNl, .ref aNal, .ref aNlo, .int (nI (toH gr ki ma hd L sd)), .ref aNw, .ref aNtr, .ref aNis, .ref aNbg, .ref aNow])), (aNs, .inl (g.2.1 0, 919, .inl (msF gr wk z lk sz br ru ki ma bb ce hd))), (aNt, .inl (g.2.1 0, 60, .inl (nIf tb))), (aNa, .inl (g.2.1 0, 2475, .inl (nIf fcN))), (aNr, .inl (g.2.1 0, 495, .inl (nIf rowB))), (aNb, .inl (g.2.1 0, 4096, .inl (nIf popN))), (aNl, .inl (g.2.1 0, 495, .inl (nIf sd))), (aNal, .inl (g.2.1 0, 495, .inl (nIf (crH gr ki ma hd L sd)))), (aNlo, .inl (g.2.1 0, 12, .inl (nIf z5))), (aNtr, .inl (g.2.1 0, 495, .inl (nIf (crH gr ki ma hd L sd)))), (aNis, .inl (g.2.1 3, 495, .inl (fun _ => 0)))]) ?_ rfl rfl rfl⟩
  refine x_iconst 0 dX9_seek_33 (by decide) ?_
  refine x_istore_n (lv' := [some (.ref aN), some (.int (nI m)), some (.int 0), some (.int 0), none, none]) dX9_seek_34 (xlt rfl) rfl ?_
  refine x_iconst 0 dX9_seek_35 (by decide) ?_
  refine x_istore (lv' := [some (.ref aN), some (.int (nI m)), some (.int 0), some (.int 0), some (.int 0), none]) dX9_seek_36 (xlt rfl) rfl ?_
  have L38_7 : ∀ (i : Nat), i ≤ m → ∀ (df : Nat), df = dfN (crH gr ki ma hd L sd) i → ∀ (tq : Nat → Nat), tq = skT (crH gr ki ma hd L sd) i → Xs κ g 34 0 0 cX9_seek yX9_seek (some .int) Q 0 0 38 [some (.ref aN), some (.int (nI m)), some (.int 0), some (.int (nI df)), some (.int (nI i)), none] [] [(aN, .inr (9, [.ref aNs, .ref aNk, .int nkp, .ref aNf, .ref aNr, .ref aNp, .ref aNb, .ref aNa, .ref aNt, .int (nI nts), .ref aNbo, .ref aNsz, .ref aNnu, .int (nI z1), .int (nI z2), .int z3, .int 0, .int (nI z4), .int 0, .int 0, .int (wnI nnw nwn), .ref aNl, .ref aNal, .ref aNlo, .int (nI (toH gr ki ma hd L sd)), .ref aNw, .ref aNtr, .ref aNis, .ref aNbg, .ref aNow])), (aNs, .inl (g.2.1 0, 919, .inl (msF gr wk z lk sz br ru ki ma bb ce hd))), (aNt, .inl (g.2.1 0, 60, .inl (nIf tb))), (aNa, .inl (g.2.1 0, 2475, .inl (nIf fcN))), (aNr, .inl (g.2.1 0, 495, .inl (nIf rowB))), (aNb, .inl (g.2.1 0, 4096, .inl (nIf popN))), (aNl, .inl (g.2.1 0, 495, .inl (nIf sd))), (aNal, .inl (g.2.1 0, 495, .inl (nIf (crH gr ki ma hd L sd)))), (aNlo, .inl (g.2.1 0, 12, .inl (nIf z5))), (aNtr, .inl (g.2.1 0, 495, .inl (nIf tq))), (aNis, .inl (g.2.1 3, 495, .inl (fun _ => 0)))] := by
    refine upTo m (fun i hi38 ih38 => ?_)
    intro df edf
    subst edf
    intro tq etq
    subst etq
    refine x_iload dX9_seek_38 rfl ?_
    refine x_iload_n dX9_seek_40 rfl ?_
    refine x_icmp_ge dX9_seek_41 (fun c41 => ?_) (fun c41 => ?_)
    · have c41 : (nI m) ≤ (nI i) := c41
      have c41n := (nI_leI (a := m) (b := i) (by omega) (by omega)).mp c41
      have hxc41 : i = m := by omega
      try rw [hxc41]
      refine x_iload_n dX9_seek_92 rfl ?_
      refine x_if_ne dX9_seek_93 (fun c93 => ?_) (fun c93 => ?_)
      · exact absurd c93 (by decide)
      refine x_aload_n dX9_seek_96 rfl ?_
      refine x_get dX9_seek_97 0 26 inX9 fl_X9_66 rfl rfl (by decide) rfl ?_
      refine x_aload_n dX9_seek_100 rfl ?_
      refine x_cVi0 dX9_seek_101 ml_X9_243 mX9_rarest (ct_X9_rarest κ.2.1 g aN aNs aNk aNf aNr aNp aNb aNa aNt aNbo aNsz aNnu aNl aNal aNlo aNw aNtr aNis aNbg aNow nts z1 z2 z4 (toH gr ki ma hd L sd) nkp z3 0 0 0 (wnI nnw nwn) (fun _ => 0) (skT (crH gr ki ma hd L sd) m) (fun p => by have := skT_le _ hcb m p; omega)) [0, 10, 9] rfl rfl 0 rfl rfl rfl (Nat.le_of_ble_eq_true rfl) (by decide) (Nat.le_refl _) (Nat.le_refl _) ?_
      refine x_rei (nI (lsT (skT (crH gr ki ma hd L sd) m) 495)) (ra_sk _ hcb (by omega)) ?_
      refine x_iald dX9_seek_104 9 (lsT (skT (crH gr ki ma hd L sd) m) 495) rfl (rfl) (lsT_lt _ (by decide) (Nat.le_refl _)) (by decide) ?_
      refine x_goto dX9_seek_105 ?_
      rw [← hQ]
      refine x_iret dX9_seek_109 rfl (Nat.le_of_ble_eq_true rfl) (Nat.le_of_ble_eq_true rfl) ?_
      exact ⟨_, _, _, _, _, rfl, rfl, p6⟩
    · have c41 : ¬ ((nI m) ≤ (nI i)) := c41
      have c41n := mt (nI_leI (a := m) (b := i) (by omega) (by omega)).mpr c41
      refine x_aload_n dX9_seek_44 rfl ?_
      refine x_cVi0 dX9_seek_45 ml_X9_243 mX9_rarest (ct_X9_rarest κ.2.1 g aN aNs aNk aNf aNr aNp aNb aNa aNt aNbo aNsz aNnu aNl aNal aNlo aNw aNtr aNis aNbg aNow nts z1 z2 z4 (toH gr ki ma hd L sd) nkp z3 0 0 0 (wnI nnw nwn) (fun _ => 0) (skT (crH gr ki ma hd L sd) i) (fun p => by have := skT_le _ hcb i p; omega)) [0, 10, 9] rfl rfl 0 rfl rfl rfl (Nat.le_of_ble_eq_true rfl) (by decide) (Nat.le_refl _) (Nat.le_refl _) ?_
      refine x_rei (nI (lsT (skT (crH gr ki ma hd L sd) i) 495)) (ra_sk _ hcb (by omega)) ?_
      refine x_istore (lv' := [some (.ref aN), some (.int (nI m)), some (.int 0), some (.int (nI ((dfN (crH gr ki ma hd L sd) i)))), some (.int (nI i)), some (.int (nI (lsT (skT (crH gr ki ma hd L sd) i) 495)))]) dX9_seek_48 (xlt rfl) rfl ?_
      refine x_iload_n dX9_seek_50 rfl ?_
      refine x_aload_n dX9_seek_51 rfl ?_
      refine x_get dX9_seek_52 0 26 inX9 fl_X9_66 rfl rfl (by decide) rfl ?_
      refine x_iload dX9_seek_55 rfl ?_
      refine x_iald dX9_seek_57 9 (lsT (skT (crH gr ki ma hd L sd) i) 495) rfl (rfl) (lsT_lt _ (by decide) (Nat.le_refl _)) (by decide) ?_
      refine x_aload_n dX9_seek_58 rfl ?_
      refine x_get dX9_seek_59 0 22 inX9 fl_X9_57 rfl rfl (by decide) rfl ?_
      refine x_iload dX9_seek_62 rfl ?_
      refine x_iald dX9_seek_64 7 (lsT (skT (crH gr ki ma hd L sd) i) 495) rfl (rfl) (lsT_lt _ (by decide) (Nat.le_refl _)) (by decide) ?_
      have J65_9 : ∀ (v8 : Int32), v8 = (if (nI ((skT (crH gr ki ma hd L sd) i) (lsT (skT (crH gr ki ma hd L sd) i) 495))) = (nI ((crH gr ki ma hd L sd) (lsT (skT (crH gr ki ma hd L sd) i) 495))) then 1 else 0) → Xs κ g 34 0 0 cX9_seek yX9_seek (some .int) Q 0 0 73 [some (.ref aN), some (.int (nI m)), some (.int 0), some (.int (nI ((dfN (crH gr ki ma hd L sd) i)))), some (.int (nI i)), some (.int (nI (lsT (skT (crH gr ki ma hd L sd) i) 495)))] [.int v8, .int (nI ((dfN (crH gr ki ma hd L sd) i)))] [(aN, .inr (9, [.ref aNs, .ref aNk, .int nkp, .ref aNf, .ref aNr, .ref aNp, .ref aNb, .ref aNa, .ref aNt, .int (nI nts), .ref aNbo, .ref aNsz, .ref aNnu, .int (nI z1), .int (nI z2), .int z3, .int 0, .int (nI z4), .int 0, .int 0, .int (wnI nnw nwn), .ref aNl, .ref aNal, .ref aNlo, .int (nI (toH gr ki ma hd L sd)), .ref aNw, .ref aNtr, .ref aNis, .ref aNbg, .ref aNow])), (aNs, .inl (g.2.1 0, 919, .inl (msF gr wk z lk sz br ru ki ma bb ce hd))), (aNt, .inl (g.2.1 0, 60, .inl (nIf tb))), (aNa, .inl (g.2.1 0, 2475, .inl (nIf fcN))), (aNr, .inl (g.2.1 0, 495, .inl (nIf rowB))), (aNb, .inl (g.2.1 0, 4096, .inl (nIf popN))), (aNl, .inl (g.2.1 0, 495, .inl (nIf sd))), (aNal, .inl (g.2.1 0, 495, .inl (nIf (crH gr ki ma hd L sd)))), (aNlo, .inl (g.2.1 0, 12, .inl (nIf z5))), (aNtr, .inl (g.2.1 0, 495, .inl (nIf (skT (crH gr ki ma hd L sd) i)))), (aNis, .inl (g.2.1 3, 495, .inl (fun _ => 0)))] := by
        intro v8 ev8
        refine x_rei (nI (if nI (skT (crH gr ki ma hd L sd) i (lsT (skT (crH gr ki ma hd L sd) i) 495)) = nI ((crH gr ki ma hd L sd) (lsT (skT (crH gr ki ma hd L sd) i) 495)) then 1 else 0)) (by simp only [ev8]; split <;> rfl) ?_
        refine x_iadd dX9_seek_73 ?_
        refine x_rei (nI ((dfN (crH gr ki ma hd L sd) i) + (if nI (skT (crH gr ki ma hd L sd) i (lsT (skT (crH gr ki ma hd L sd) i) 495)) = nI ((crH gr ki ma hd L sd) (lsT (skT (crH gr ki ma hd L sd) i) 495)) then 1 else 0))) (nI_iadd (dfN (crH gr ki ma hd L sd) i) (if nI (skT (crH gr ki ma hd L sd) i (lsT (skT (crH gr ki ma hd L sd) i) 495)) = nI ((crH gr ki ma hd L sd) (lsT (skT (crH gr ki ma hd L sd) i) 495)) then 1 else 0)) ?_
        refine x_istore_n (lv' := [some (.ref aN), some (.int (nI m)), some (.int 0), some (.int (nI ((dfN (crH gr ki ma hd L sd) i) + (if nI (skT (crH gr ki ma hd L sd) i (lsT (skT (crH gr ki ma hd L sd) i) 495)) = nI ((crH gr ki ma hd L sd) (lsT (skT (crH gr ki ma hd L sd) i) 495)) then 1 else 0)))), some (.int (nI i)), some (.int (nI (lsT (skT (crH gr ki ma hd L sd) i) 495)))]) dX9_seek_74 (xlt rfl) rfl ?_
        refine x_aload_n dX9_seek_75 rfl ?_
        refine x_get dX9_seek_76 0 26 inX9 fl_X9_66 rfl rfl (by decide) rfl ?_
        refine x_iload dX9_seek_79 rfl ?_
        refine x_dup2 dX9_seek_81 rfl rfl ?_
        refine x_iald dX9_seek_82 9 (lsT (skT (crH gr ki ma hd L sd) i) 495) rfl (rfl) (lsT_lt _ (by decide) (Nat.le_refl _)) (by decide) ?_
        refine x_iconst 1 dX9_seek_83 (by decide) ?_
        refine x_iadd dX9_seek_84 ?_
        refine x_rei (nI (((skT (crH gr ki ma hd L sd) i) (lsT (skT (crH gr ki ma hd L sd) i) 495)) + 1)) (nI_addc ((skT (crH gr ki ma hd L sd) i) (lsT (skT (crH gr ki ma hd L sd) i) 495)) 1 rfl) ?_
        refine x_rei (nI (((skT (crH gr ki ma hd L sd) i) (lsT (skT (crH gr ki ma hd L sd) i) 495)) + 1)) rfl ?_
        refine x_iast (ws' := [(aN, .inr (9, [.ref aNs, .ref aNk, .int nkp, .ref aNf, .ref aNr, .ref aNp, .ref aNb, .ref aNa, .ref aNt, .int (nI nts), .ref aNbo, .ref aNsz, .ref aNnu, .int (nI z1), .int (nI z2), .int z3, .int 0, .int (nI z4), .int 0, .int 0, .int (wnI nnw nwn), .ref aNl, .ref aNal, .ref aNlo, .int (nI (toH gr ki ma hd L sd)), .ref aNw, .ref aNtr, .ref aNis, .ref aNbg, .ref aNow])), (aNs, .inl (g.2.1 0, 919, .inl (msF gr wk z lk sz br ru ki ma bb ce hd))), (aNt, .inl (g.2.1 0, 60, .inl (nIf tb))), (aNa, .inl (g.2.1 0, 2475, .inl (nIf fcN))), (aNr, .inl (g.2.1 0, 495, .inl (nIf rowB))), (aNb, .inl (g.2.1 0, 4096, .inl (nIf popN))), (aNl, .inl (g.2.1 0, 495, .inl (nIf sd))), (aNal, .inl (g.2.1 0, 495, .inl (nIf (crH gr ki ma hd L sd)))), (aNlo, .inl (g.2.1 0, 12, .inl (nIf z5))), (aNtr, .inl (g.2.1 0, 495, .inl (nIf (updN (skT (crH gr ki ma hd L sd) i) (lsT (skT (crH gr ki ma hd L sd) i) 495) (((skT (crH gr ki ma hd L sd) i) (lsT (skT (crH gr ki ma hd L sd) i) 495)) + 1))))), (aNis, .inl (g.2.1 3, 495, .inl (fun _ => 0)))]) dX9_seek_85 9 (lsT (skT (crH gr ki ma hd L sd) i) 495) rfl (rfl) (lsT_lt _ (by decide) (Nat.le_refl _)) (by decide) (by rw [upd_nIf]; rfl) ?_
        refine x_iinc (lv' := [some (.ref aN), some (.int (nI m)), some (.int 0), some (.int (nI ((dfN (crH gr ki ma hd L sd) i) + (if nI (skT (crH gr ki ma hd L sd) i (lsT (skT (crH gr ki ma hd L sd) i) 495)) = nI ((crH gr ki ma hd L sd) (lsT (skT (crH gr ki ma hd L sd) i) 495)) then 1 else 0)))), some (.int (nI (i + 1))), some (.int (nI (lsT (skT (crH gr ki ma hd L sd) i) 495)))]) (nI (i + 1)) dX9_seek_86 rfl (nI_addc i 1 rfl) rfl ?_
        refine x_goto dX9_seek_89 ?_
        refine x_fgt (lv' := [some (.ref aN), some (.int (nI m)), some (.int 0), some (.int (nI ((dfN (crH gr ki ma hd L sd) i) + (if nI (skT (crH gr ki ma hd L sd) i (lsT (skT (crH gr ki ma hd L sd) i) 495)) = nI ((crH gr ki ma hd L sd) (lsT (skT (crH gr ki ma hd L sd) i) 495)) then 1 else 0)))), some (.int (nI (i + 1))), none]) ⟨Or.inr rfl, Or.inr rfl, Or.inr rfl, Or.inr rfl, Or.inr rfl, Or.inl rfl, trivial⟩ ?_
        exact ih38 (by omega) ((dfN (crH gr ki ma hd L sd) i) + (if nI (skT (crH gr ki ma hd L sd) i (lsT (skT (crH gr ki ma hd L sd) i) 495)) = nI ((crH gr ki ma hd L sd) (lsT (skT (crH gr ki ma hd L sd) i) 495)) then 1 else 0)) (by rfl) (updN (skT (crH gr ki ma hd L sd) i) (lsT (skT (crH gr ki ma hd L sd) i) 495) (((skT (crH gr ki ma hd L sd) i) (lsT (skT (crH gr ki ma hd L sd) i) 495)) + 1)) (by rfl)
      refine x_icmp_ne dX9_seek_65 (fun c65 => ?_) (fun c65 => ?_)
      · have c65 : ¬ ((nI ((skT (crH gr ki ma hd L sd) i) (lsT (skT (crH gr ki ma hd L sd) i) 495))) = (nI ((crH gr ki ma hd L sd) (lsT (skT (crH gr ki ma hd L sd) i) 495)))) := c65
        refine x_iconst 0 dX9_seek_72 (by decide) ?_
        exact J65_9 _ (if_neg c65).symm
      · have c65 : (nI ((skT (crH gr ki ma hd L sd) i) (lsT (skT (crH gr ki ma hd L sd) i) 495))) = (nI ((crH gr ki ma hd L sd) (lsT (skT (crH gr ki ma hd L sd) i) 495))) := c65
        refine x_iconst 1 dX9_seek_68 (by decide) ?_
        refine x_goto dX9_seek_69 ?_
        exact J65_9 _ (if_pos c65).symm
  exact L38_7 0 (Nat.zero_le _) 0 (by rfl) (crH gr ki ma hd L sd) (by rfl)

-- == nseek_1 ==
set_option maxRecDepth 100000 in
set_option maxHeartbeats 4000000 in
theorem ct_nseek_1 (l : Launch) (g : XG) (aN aNs aNk aNf aNr aNp aNb aNa aNt aNbo aNsz aNnu aNl aNal aNlo aNw aNtr aNis aNbg aNow nts nta nop npr nac : Nat) (nkp nbd nnw nsn nwn : Int32) (gr wk lk sz br : Nat) (z : Int32) (ru ki ma bb hd : Nat → Nat) (ce : Nat → Int32) (tb nli nal nlo sd : Nat → Nat) (L : Nat) (ntr : Nat → Nat) (nis : Nat → Int32) (m : Nat) (hgr : gr ≤ 12) (hki : ∀ j, ki j ≤ 7) (hma : ∀ j, ma j ≤ 99999) (hwk : wk ≤ 40) (hlat : latI ce wk = nI L) (hL : L < 4096) (hsz : sz ≤ 60) (hbb : ∀ j, bb j < 256) (hsd : ∀ p, sd p ≤ 99) (hsv : ∀ p, p < 495 → sd p = if lk = 1 then clN (txV bb sz wk L p) else 1) (hlk : lk ≤ 1) (hwo : (nnw = 1 ∧ (nsn = 1 ∨ (nsn = 0 ∧ nli = sd))) ∨ (nnw = 0 ∧ nsn = 0 ∧ nli = sd ∧ nal = crH gr ki ma hd L sd ∧ nac = toH gr ki ma hd L sd ∧ ∀ q, q < gr → nlo q = laN (ki q) (ma q) L sd)) (hcb : ∀ p, crH gr ki ma hd L sd p ≤ 2 ^ 30) (hm : 1 ≤ m ∧ m ≤ 200) : Ct l g 34 0 0 yX9_seek cX9_seek 6 (some .int) [.ref aN, .int (nI m), .int 1] [(aN, .inr (9, [.ref aNs, .ref aNk, .int nkp, .ref aNf, .ref aNr, .ref aNp, .ref aNb, .ref aNa, .ref aNt, .int (nI nts), .ref aNbo, .ref aNsz, .ref aNnu, .int (nI nta), .int (nI nop), .int nbd, .int 0, .int (nI npr), .int nnw, .int nsn, .int nwn, .ref aNl, .ref aNal, .ref aNlo, .int (nI nac), .ref aNw, .ref aNtr, .ref aNis, .ref aNbg, .ref aNow])), (aNs, .inl (g.2.1 0, 919, .inl (msF gr wk z lk sz br ru ki ma bb ce hd))), (aNt, .inl (g.2.1 0, 60, .inl (nIf tb))), (aNa, .inl (g.2.1 0, 2475, .inl (nIf fcN))), (aNr, .inl (g.2.1 0, 495, .inl (nIf rowB))), (aNb, .inl (g.2.1 0, 4096, .inl (nIf popN))), (aNl, .inl (g.2.1 0, 495, .inl (nIf nli))), (aNal, .inl (g.2.1 0, 495, .inl (nIf nal))), (aNlo, .inl (g.2.1 0, 12, .inl (nIf nlo))), (aNtr, .inl (g.2.1 0, 495, .inl (nIf ntr))), (aNis, .inl (g.2.1 3, 495, .inl nis))] (fun vv_ ww_ => ∃ (zat : Nat) (zop : Nat) (zbd : Int32) (zpr : Nat) (lo2 : Nat → Nat), vv_ = some (.int (nI (dfN (crH gr ki ma hd L sd) m))) ∧ ww_ = [(aN, .inr (9, [.ref aNs, .ref aNk, .int nkp, .ref aNf, .ref aNr, .ref aNp, .ref aNb, .ref aNa, .ref aNt, .int (nI nts), .ref aNbo, .ref aNsz, .ref aNnu, .int (nI zat), .int (nI zop), .int zbd, .int 0, .int (nI zpr), .int 0, .int 0, .int (wnI nnw nwn), .ref aNl, .ref aNal, .ref aNlo, .int (nI (toH gr ki ma hd L sd)), .ref aNw, .ref aNtr, .ref aNis, .ref aNbg, .ref aNow])), (aNs, .inl (g.2.1 0, 919, .inl (msF gr wk z lk sz br ru ki ma bb ce hd))), (aNt, .inl (g.2.1 0, 60, .inl (nIf tb))), (aNa, .inl (g.2.1 0, 2475, .inl (nIf fcN))), (aNr, .inl (g.2.1 0, 495, .inl (nIf rowB))), (aNb, .inl (g.2.1 0, 4096, .inl (nIf popN))), (aNl, .inl (g.2.1 0, 495, .inl (nIf sd))), (aNal, .inl (g.2.1 0, 495, .inl (nIf (crH gr ki ma hd L sd)))), (aNlo, .inl (g.2.1 0, 12, .inl (nIf lo2))), (aNtr, .inl (g.2.1 0, 495, .inl (nIf (skT (crH gr ki ma hd L sd) m)))), (aNis, .inl (g.2.1 3, 495, .inl (fun _ => 0)))] ∧ (∀ q, q < gr → lo2 q = laN (ki q) (ma q) L sd)) := by
  refine Ct.ofX (lv := [some (.ref aN), some (.int (nI m)), some (.int 1), none, none, none]) (by decide) rfl (Nat.le_of_ble_eq_true rfl) (fun κ => ?_)
  generalize hQ : xQ κ g 0 0 _ = Q
  refine x_iload_n dX9_seek_0 rfl ?_
  refine x_i2l dX9_seek_1 ?_
  refine x_lconst 1 dX9_seek_2 (by decide) ?_
  refine x_ldc2 dX9_seek_3 kl_X9_246 ?_
  refine x_cSi dX9_seek_6 ml_X9_98 mX9_isIn (ct_X9_isIn κ.2.1 g ((nI m).toInt64) 1 200) rfl (Nat.le_of_ble_eq_true rfl) (by decide) (Nat.le_refl _) (Nat.le_refl _) ?_
  refine x_rei (wI (nI m) 1 200) (inL_w (nI m) 1 200 (by first | rfl | decide) (by first | rfl | decide)) ?_
  refine x_rei 1 (show wI (nI m) 1 200 = 1 from wI_nat (n := m) (a := 1) (b := 200) ⟨by omega, by omega, by omega, by omega⟩) ?_
  refine x_if_eq dX9_seek_9 (fun c9 => ?_) (fun c9 => ?_)
  · exact absurd c9 (by decide)
  refine x_iload_n dX9_seek_12 rfl ?_
  refine x_i2l dX9_seek_13 ?_
  refine x_lconst 0 dX9_seek_14 (by decide) ?_
  refine x_lconst 1 dX9_seek_15 (by decide) ?_
  refine x_cSi dX9_seek_16 ml_X9_98 mX9_isIn (ct_X9_isIn κ.2.1 g ((1 : Int32).toInt64) 0 1) rfl (Nat.le_of_ble_eq_true rfl) (by decide) (Nat.le_refl _) (Nat.le_refl _) ?_
  refine x_rei (1) (by decide) ?_
  refine x_if_ne dX9_seek_19 (fun c19 => ?_) (fun c19 => ?_)
  rotate_left
  · exact absurd c19 (by decide)
  refine x_aload_n dX9_seek_29 rfl ?_
  refine x_callV dX9_seek_30 ml_X9_240 mX9_begins (ct_X9_begins κ.2.1 g aN aNs aNk aNf aNr aNp aNb aNa aNt aNbo aNsz aNnu aNl aNal aNlo aNw aNtr aNis aNbg aNow nts nta nop npr nac nkp nbd nnw nsn nwn gr wk lk sz br z ru ki ma bb hd ce tb nli nal nlo sd L ntr nis (hgr) (hki) (hma) (hwk) (hlat) (hL) (hsz) (hbb) (hsd) (hsv) (hlk) (hwo)) [0, 1, 2, 3, 4, 5, 6, 7, 8, 9, 10] rfl rfl 0 rfl rfl rfl (Nat.le_of_ble_eq_true rfl) (by decide) (Nat.le_refl _) (Nat.le_refl _) (fun vv ww hp => ?_)
  obtain ⟨z1, z2, z3, z4, z5, rfl, rfl, p6⟩ := hp
  refine ⟨(rfl : [aN, aNs, aNt, aNa, aNr, aNb, aNl, aNal, aNlo, aNtr, aNis] = [aN, aNs, aNt, aNa, aNr, aNb, aNl, aNal, aNlo, aNtr, aNis]), x_eq (lv' := [some (.ref aN), some (.int (nI m)), some (.int 1), none, none, none]) (st' := []) (ws' := [(aN, .inr (9, [.ref aNs, .ref aNk, .int nkp, .ref aNf, .ref aNr, .ref aNp, .ref aNb, .ref aNa, .ref aNt, .int (nI nts), .ref aNbo, .ref aNsz, .ref aNnu, .int (nI z1), .int (nI z2), .int z3, .int 0, .int (nI z4), .int 0, .int 0, .int (wnI nnw nwn), .ref aNl, .ref aNal, .ref aNlo, .int (nI (toH gr ki ma hd L sd)), .ref aNw, .ref aNtr, .ref aNis, .ref aNbg, .ref aNow])), (aNs, .inl (g.2.1 0, 919, .inl (msF gr wk z lk sz br ru ki ma bb ce hd))), (aNt, .inl (g.2.1 0, 60, .inl (nIf tb))), (aNa, .inl (g.2.1 0, 2475, .inl (nIf fcN))), (aNr, .inl (g.2.1 0, 495, .inl (nIf rowB))), (aNb, .inl (g.2.1 0, 4096, .inl (nIf popN))), (aNl, .inl (g.2.1 0, 495, .inl (nIf sd))), (aNal, .inl (g.2.1 0, 495, .inl (nIf (crH gr ki ma hd L sd)))), (aNlo, .inl (g.2.1 0, 12, .inl (nIf z5))), (aNtr, .inl (g.2.1 0, 495, .inl (nIf (crH gr ki ma hd L sd)))), (aNis, .inl (g.2.1 3, 495, .inl (fun _ => 0)))]) ?_ rfl rfl rfl⟩
  refine x_iconst 0 dX9_seek_33 (by decide) ?_
  refine x_istore_n (lv' := [some (.ref aN), some (.int (nI m)), some (.int 1), some (.int 0), none, none]) dX9_seek_34 (xlt rfl) rfl ?_
  refine x_iconst 0 dX9_seek_35 (by decide) ?_
  refine x_istore (lv' := [some (.ref aN), some (.int (nI m)), some (.int 1), some (.int 0), some (.int 0), none]) dX9_seek_36 (xlt rfl) rfl ?_
  have L38_7 : ∀ (i : Nat), i ≤ m → ∀ (df : Nat), df = dfN (crH gr ki ma hd L sd) i → ∀ (tq : Nat → Nat), tq = skT (crH gr ki ma hd L sd) i → Xs κ g 34 0 0 cX9_seek yX9_seek (some .int) Q 0 0 38 [some (.ref aN), some (.int (nI m)), some (.int 1), some (.int (nI df)), some (.int (nI i)), none] [] [(aN, .inr (9, [.ref aNs, .ref aNk, .int nkp, .ref aNf, .ref aNr, .ref aNp, .ref aNb, .ref aNa, .ref aNt, .int (nI nts), .ref aNbo, .ref aNsz, .ref aNnu, .int (nI z1), .int (nI z2), .int z3, .int 0, .int (nI z4), .int 0, .int 0, .int (wnI nnw nwn), .ref aNl, .ref aNal, .ref aNlo, .int (nI (toH gr ki ma hd L sd)), .ref aNw, .ref aNtr, .ref aNis, .ref aNbg, .ref aNow])), (aNs, .inl (g.2.1 0, 919, .inl (msF gr wk z lk sz br ru ki ma bb ce hd))), (aNt, .inl (g.2.1 0, 60, .inl (nIf tb))), (aNa, .inl (g.2.1 0, 2475, .inl (nIf fcN))), (aNr, .inl (g.2.1 0, 495, .inl (nIf rowB))), (aNb, .inl (g.2.1 0, 4096, .inl (nIf popN))), (aNl, .inl (g.2.1 0, 495, .inl (nIf sd))), (aNal, .inl (g.2.1 0, 495, .inl (nIf (crH gr ki ma hd L sd)))), (aNlo, .inl (g.2.1 0, 12, .inl (nIf z5))), (aNtr, .inl (g.2.1 0, 495, .inl (nIf tq))), (aNis, .inl (g.2.1 3, 495, .inl (fun _ => 0)))] := by
    refine upTo m (fun i hi38 ih38 => ?_)
    intro df edf
    subst edf
    intro tq etq
    subst etq
    refine x_iload dX9_seek_38 rfl ?_
    refine x_iload_n dX9_seek_40 rfl ?_
    refine x_icmp_ge dX9_seek_41 (fun c41 => ?_) (fun c41 => ?_)
    · have c41 : (nI m) ≤ (nI i) := c41
      have c41n := (nI_leI (a := m) (b := i) (by omega) (by omega)).mp c41
      have hxc41 : i = m := by omega
      try rw [hxc41]
      refine x_iload_n dX9_seek_92 rfl ?_
      refine x_if_ne dX9_seek_93 (fun c93 => ?_) (fun c93 => ?_)
      rotate_left
      · exact absurd c93 (by decide)
      refine x_iload_n dX9_seek_108 rfl ?_
      rw [← hQ]
      refine x_iret dX9_seek_109 rfl (Nat.le_of_ble_eq_true rfl) (Nat.le_of_ble_eq_true rfl) ?_
      exact ⟨_, _, _, _, _, rfl, rfl, p6⟩
    · have c41 : ¬ ((nI m) ≤ (nI i)) := c41
      have c41n := mt (nI_leI (a := m) (b := i) (by omega) (by omega)).mpr c41
      refine x_aload_n dX9_seek_44 rfl ?_
      refine x_cVi0 dX9_seek_45 ml_X9_243 mX9_rarest (ct_X9_rarest κ.2.1 g aN aNs aNk aNf aNr aNp aNb aNa aNt aNbo aNsz aNnu aNl aNal aNlo aNw aNtr aNis aNbg aNow nts z1 z2 z4 (toH gr ki ma hd L sd) nkp z3 0 0 0 (wnI nnw nwn) (fun _ => 0) (skT (crH gr ki ma hd L sd) i) (fun p => by have := skT_le _ hcb i p; omega)) [0, 10, 9] rfl rfl 0 rfl rfl rfl (Nat.le_of_ble_eq_true rfl) (by decide) (Nat.le_refl _) (Nat.le_refl _) ?_
      refine x_rei (nI (lsT (skT (crH gr ki ma hd L sd) i) 495)) (ra_sk _ hcb (by omega)) ?_
      refine x_istore (lv' := [some (.ref aN), some (.int (nI m)), some (.int 1), some (.int (nI ((dfN (crH gr ki ma hd L sd) i)))), some (.int (nI i)), some (.int (nI (lsT (skT (crH gr ki ma hd L sd) i) 495)))]) dX9_seek_48 (xlt rfl) rfl ?_
      refine x_iload_n dX9_seek_50 rfl ?_
      refine x_aload_n dX9_seek_51 rfl ?_
      refine x_get dX9_seek_52 0 26 inX9 fl_X9_66 rfl rfl (by decide) rfl ?_
      refine x_iload dX9_seek_55 rfl ?_
      refine x_iald dX9_seek_57 9 (lsT (skT (crH gr ki ma hd L sd) i) 495) rfl (rfl) (lsT_lt _ (by decide) (Nat.le_refl _)) (by decide) ?_
      refine x_aload_n dX9_seek_58 rfl ?_
      refine x_get dX9_seek_59 0 22 inX9 fl_X9_57 rfl rfl (by decide) rfl ?_
      refine x_iload dX9_seek_62 rfl ?_
      refine x_iald dX9_seek_64 7 (lsT (skT (crH gr ki ma hd L sd) i) 495) rfl (rfl) (lsT_lt _ (by decide) (Nat.le_refl _)) (by decide) ?_
      have J65_9 : ∀ (v8 : Int32), v8 = (if (nI ((skT (crH gr ki ma hd L sd) i) (lsT (skT (crH gr ki ma hd L sd) i) 495))) = (nI ((crH gr ki ma hd L sd) (lsT (skT (crH gr ki ma hd L sd) i) 495))) then 1 else 0) → Xs κ g 34 0 0 cX9_seek yX9_seek (some .int) Q 0 0 73 [some (.ref aN), some (.int (nI m)), some (.int 1), some (.int (nI ((dfN (crH gr ki ma hd L sd) i)))), some (.int (nI i)), some (.int (nI (lsT (skT (crH gr ki ma hd L sd) i) 495)))] [.int v8, .int (nI ((dfN (crH gr ki ma hd L sd) i)))] [(aN, .inr (9, [.ref aNs, .ref aNk, .int nkp, .ref aNf, .ref aNr, .ref aNp, .ref aNb, .ref aNa, .ref aNt, .int (nI nts), .ref aNbo, .ref aNsz, .ref aNnu, .int (nI z1), .int (nI z2), .int z3, .int 0, .int (nI z4), .int 0, .int 0, .int (wnI nnw nwn), .ref aNl, .ref aNal, .ref aNlo, .int (nI (toH gr ki ma hd L sd)), .ref aNw, .ref aNtr, .ref aNis, .ref aNbg, .ref aNow])), (aNs, .inl (g.2.1 0, 919, .inl (msF gr wk z lk sz br ru ki ma bb ce hd))), (aNt, .inl (g.2.1 0, 60, .inl (nIf tb))), (aNa, .inl (g.2.1 0, 2475, .inl (nIf fcN))), (aNr, .inl (g.2.1 0, 495, .inl (nIf rowB))), (aNb, .inl (g.2.1 0, 4096, .inl (nIf popN))), (aNl, .inl (g.2.1 0, 495, .inl (nIf sd))), (aNal, .inl (g.2.1 0, 495, .inl (nIf (crH gr ki ma hd L sd)))), (aNlo, .inl (g.2.1 0, 12, .inl (nIf z5))), (aNtr, .inl (g.2.1 0, 495, .inl (nIf (skT (crH gr ki ma hd L sd) i)))), (aNis, .inl (g.2.1 3, 495, .inl (fun _ => 0)))] := by
        intro v8 ev8
        refine x_rei (nI (if nI (skT (crH gr ki ma hd L sd) i (lsT (skT (crH gr ki ma hd L sd) i) 495)) = nI ((crH gr ki ma hd L sd) (lsT (skT (crH gr ki ma hd L sd) i) 495)) then 1 else 0)) (by simp only [ev8]; split <;> rfl) ?_
        refine x_iadd dX9_seek_73 ?_
        refine x_rei (nI ((dfN (crH gr ki ma hd L sd) i) + (if nI (skT (crH gr ki ma hd L sd) i (lsT (skT (crH gr ki ma hd L sd) i) 495)) = nI ((crH gr ki ma hd L sd) (lsT (skT (crH gr ki ma hd L sd) i) 495)) then 1 else 0))) (nI_iadd (dfN (crH gr ki ma hd L sd) i) (if nI (skT (crH gr ki ma hd L sd) i (lsT (skT (crH gr ki ma hd L sd) i) 495)) = nI ((crH gr ki ma hd L sd) (lsT (skT (crH gr ki ma hd L sd) i) 495)) then 1 else 0)) ?_
        refine x_istore_n (lv' := [some (.ref aN), some (.int (nI m)), some (.int 1), some (.int (nI ((dfN (crH gr ki ma hd L sd) i) + (if nI (skT (crH gr ki ma hd L sd) i (lsT (skT (crH gr ki ma hd L sd) i) 495)) = nI ((crH gr ki ma hd L sd) (lsT (skT (crH gr ki ma hd L sd) i) 495)) then 1 else 0)))), some (.int (nI i)), some (.int (nI (lsT (skT (crH gr ki ma hd L sd) i) 495)))]) dX9_seek_74 (xlt rfl) rfl ?_
        refine x_aload_n dX9_seek_75 rfl ?_
        refine x_get dX9_seek_76 0 26 inX9 fl_X9_66 rfl rfl (by decide) rfl ?_
        refine x_iload dX9_seek_79 rfl ?_
        refine x_dup2 dX9_seek_81 rfl rfl ?_
        refine x_iald dX9_seek_82 9 (lsT (skT (crH gr ki ma hd L sd) i) 495) rfl (rfl) (lsT_lt _ (by decide) (Nat.le_refl _)) (by decide) ?_
        refine x_iconst 1 dX9_seek_83 (by decide) ?_
        refine x_iadd dX9_seek_84 ?_
        refine x_rei (nI (((skT (crH gr ki ma hd L sd) i) (lsT (skT (crH gr ki ma hd L sd) i) 495)) + 1)) (nI_addc ((skT (crH gr ki ma hd L sd) i) (lsT (skT (crH gr ki ma hd L sd) i) 495)) 1 rfl) ?_
        refine x_rei (nI (((skT (crH gr ki ma hd L sd) i) (lsT (skT (crH gr ki ma hd L sd) i) 495)) + 1)) rfl ?_
        refine x_iast (ws' := [(aN, .inr (9, [.ref aNs, .ref aNk, .int nkp, .ref aNf, .ref aNr, .ref aNp, .ref aNb, .ref aNa, .ref aNt, .int (nI nts), .ref aNbo, .ref aNsz, .ref aNnu, .int (nI z1), .int (nI z2), .int z3, .int 0, .int (nI z4), .int 0, .int 0, .int (wnI nnw nwn), .ref aNl, .ref aNal, .ref aNlo, .int (nI (toH gr ki ma hd L sd)), .ref aNw, .ref aNtr, .ref aNis, .ref aNbg, .ref aNow])), (aNs, .inl (g.2.1 0, 919, .inl (msF gr wk z lk sz br ru ki ma bb ce hd))), (aNt, .inl (g.2.1 0, 60, .inl (nIf tb))), (aNa, .inl (g.2.1 0, 2475, .inl (nIf fcN))), (aNr, .inl (g.2.1 0, 495, .inl (nIf rowB))), (aNb, .inl (g.2.1 0, 4096, .inl (nIf popN))), (aNl, .inl (g.2.1 0, 495, .inl (nIf sd))), (aNal, .inl (g.2.1 0, 495, .inl (nIf (crH gr ki ma hd L sd)))), (aNlo, .inl (g.2.1 0, 12, .inl (nIf z5))), (aNtr, .inl (g.2.1 0, 495, .inl (nIf (updN (skT (crH gr ki ma hd L sd) i) (lsT (skT (crH gr ki ma hd L sd) i) 495) (((skT (crH gr ki ma hd L sd) i) (lsT (skT (crH gr ki ma hd L sd) i) 495)) + 1))))), (aNis, .inl (g.2.1 3, 495, .inl (fun _ => 0)))]) dX9_seek_85 9 (lsT (skT (crH gr ki ma hd L sd) i) 495) rfl (rfl) (lsT_lt _ (by decide) (Nat.le_refl _)) (by decide) (by rw [upd_nIf]; rfl) ?_
        refine x_iinc (lv' := [some (.ref aN), some (.int (nI m)), some (.int 1), some (.int (nI ((dfN (crH gr ki ma hd L sd) i) + (if nI (skT (crH gr ki ma hd L sd) i (lsT (skT (crH gr ki ma hd L sd) i) 495)) = nI ((crH gr ki ma hd L sd) (lsT (skT (crH gr ki ma hd L sd) i) 495)) then 1 else 0)))), some (.int (nI (i + 1))), some (.int (nI (lsT (skT (crH gr ki ma hd L sd) i) 495)))]) (nI (i + 1)) dX9_seek_86 rfl (nI_addc i 1 rfl) rfl ?_
        refine x_goto dX9_seek_89 ?_
        refine x_fgt (lv' := [some (.ref aN), some (.int (nI m)), some (.int 1), some (.int (nI ((dfN (crH gr ki ma hd L sd) i) + (if nI (skT (crH gr ki ma hd L sd) i (lsT (skT (crH gr ki ma hd L sd) i) 495)) = nI ((crH gr ki ma hd L sd) (lsT (skT (crH gr ki ma hd L sd) i) 495)) then 1 else 0)))), some (.int (nI (i + 1))), none]) ⟨Or.inr rfl, Or.inr rfl, Or.inr rfl, Or.inr rfl, Or.inr rfl, Or.inl rfl, trivial⟩ ?_
        exact ih38 (by omega) ((dfN (crH gr ki ma hd L sd) i) + (if nI (skT (crH gr ki ma hd L sd) i (lsT (skT (crH gr ki ma hd L sd) i) 495)) = nI ((crH gr ki ma hd L sd) (lsT (skT (crH gr ki ma hd L sd) i) 495)) then 1 else 0)) (by rfl) (updN (skT (crH gr ki ma hd L sd) i) (lsT (skT (crH gr ki ma hd L sd) i) 495) (((skT (crH gr ki ma hd L sd) i) (lsT (skT (crH gr ki ma hd L sd) i) 495)) + 1)) (by rfl)
      refine x_icmp_ne dX9_seek_65 (fun c65 => ?_) (fun c65 => ?_)
      · have c65 : ¬ ((nI ((skT (crH gr ki ma hd L sd) i) (lsT (skT (crH gr ki ma hd L sd) i) 495))) = (nI ((crH gr ki ma hd L sd) (lsT (skT (crH gr ki ma hd L sd) i) 495)))) := c65
        refine x_iconst 0 dX9_seek_72 (by decide) ?_
        exact J65_9 _ (if_neg c65).symm
      · have c65 : (nI ((skT (crH gr ki ma hd L sd) i) (lsT (skT (crH gr ki ma hd L sd) i) 495))) = (nI ((crH gr ki ma hd L sd) (lsT (skT (crH gr ki ma hd L sd) i) 495))) := c65
        refine x_iconst 1 dX9_seek_68 (by decide) ?_
        refine x_goto dX9_seek_69 ?_
        exact J65_9 _ (if_pos c65).symm
  exact L38_7 0 (Nat.zero_le _) 0 (by rfl) (crH gr ki ma hd L sd) (by rfl)

