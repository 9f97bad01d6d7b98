
-- == nlikes_b ==
theorem dX9_likes_0 : xd cX9_likes 0 (.aload_n 0) 1 1 := ⟨by decide +kernel, rfl⟩
theorem dX9_likes_1 : xd cX9_likes 1 (.iload_n 1) 1 2 := ⟨by decide +kernel, rfl⟩
theorem dX9_likes_2 : xd cX9_likes 2 (.invokevirtual 105) 3 5 := ⟨by decide +kernel, rfl⟩
theorem dX9_likes_5 : xj cX9_likes 5 (.ifCond .eq) 8 15 := ⟨10, by decide +kernel, rfl, by decide⟩
theorem dX9_likes_8 : xd cX9_likes 8 (.iload_n 2) 1 9 := ⟨by decide +kernel, rfl⟩
theorem dX9_likes_9 : xd cX9_likes 9 (.invokestatic 92) 3 12 := ⟨by decide +kernel, rfl⟩
theorem dX9_likes_12 : xj cX9_likes 12 (.ifCond .ne) 15 22 := ⟨10, by decide +kernel, rfl, by decide⟩
theorem dX9_likes_15 : xd cX9_likes 15 (.aload_n 0) 1 16 := ⟨by decide +kernel, rfl⟩
theorem dX9_likes_16 : xd cX9_likes 16 (.ldc 87) 2 18 := ⟨by decide +kernel, rfl⟩
theorem dX9_likes_18 : xd cX9_likes 18 (.invokevirtual 88) 3 21 := ⟨by decide +kernel, rfl⟩
theorem dX9_likes_21 : xd cX9_likes 21 .ireturn 1 22 := ⟨by decide +kernel, rfl⟩
theorem dX9_likes_22 : xd cX9_likes 22 (.aload_n 0) 1 23 := ⟨by decide +kernel, rfl⟩
theorem dX9_likes_23 : xd cX9_likes 23 (.invokevirtual 198) 3 26 := ⟨by decide +kernel, rfl⟩
theorem dX9_likes_26 : xd cX9_likes 26 (.aload_n 0) 1 27 := ⟨by decide +kernel, rfl⟩
theorem dX9_likes_27 : xd cX9_likes 27 (.iload_n 1) 1 28 := ⟨by decide +kernel, rfl⟩
theorem dX9_likes_28 : xd cX9_likes 28 (.iload_n 2) 1 29 := ⟨by decide +kernel, rfl⟩
theorem dX9_likes_29 : xd cX9_likes 29 (.invokevirtual 188) 3 32 := ⟨by decide +kernel, rfl⟩
theorem dX9_likes_32 : xd cX9_likes 32 .ireturn 1 33 := ⟨by decide +kernel, rfl⟩

set_option maxRecDepth 100000 in
set_option maxHeartbeats 4000000 in
theorem ct_nlikes_b (l : Launch) (g : XG) (aN aNs aNk aNf aNr aNp aNb aNa aNt aNbo aNsz aNnu aNl aNal aNlo aNw aNtr aNis aNbg aNow nts nta nop npr nac : Nat) (nkp nbd ntp nnw nsn nwn : Int32) (fi : Nat → Nat) (pp pl : Int32) (gr wk lk sz br : Nat) (z : Int32) (ru ki ma bb hd : Nat → Nat) (ce : Nat → Int32) (hgr : gr ≤ 12) (hb : wI pp 0 (nI gr - 1) = 0 ∨ wI pl 0 494 = 0) : Ct l g 34 0 0 yX9_likes cX9_likes 3 (some .int) [.ref aN, .int pp, .int pl] [(aN, .inr (9, [.ref aNs, .ref aNk, .int nkp, .ref aNf, .ref aNr, .ref aNp, .ref aNb, .ref aNa, .ref aNt, .int (nI nts), .ref aNbo, .ref aNsz, .ref aNnu, .int (nI nta), .int (nI nop), .int nbd, .int ntp, .int (nI npr), .int nnw, .int nsn, .int nwn, .ref aNl, .ref aNal, .ref aNlo, .int (nI nac), .ref aNw, .ref aNtr, .ref aNis, .ref aNbg, .ref aNow])), (aNf, .inl (g.2.1 0, 8, .inl (nIf (fnF fi)))), (aNs, .inl (g.2.1 0, 919, .inl (msF gr wk z lk sz br ru ki ma bb ce hd)))] (xpi (fndI 0) [(aN, .inr (9, [.ref aNs, .ref aNk, .int nkp, .ref aNf, .ref aNr, .ref aNp, .ref aNb, .ref aNa, .ref aNt, .int (nI nts), .ref aNbo, .ref aNsz, .ref aNnu, .int (nI nta), .int (nI nop), .int nbd, .int ntp, .int (nI npr), .int nnw, .int nsn, .int nwn, .ref aNl, .ref aNal, .ref aNlo, .int (nI nac), .ref aNw, .ref aNtr, .ref aNis, .ref aNbg, .ref aNow])), (aNf, .inl (g.2.1 0, 8, .inl (nIf (fnF (updN fi 0 (fi 0 + 1)))))), (aNs, .inl (g.2.1 0, 919, .inl (msF gr wk z lk sz br ru ki ma bb ce hd)))]) := by
  refine Ct.ofX (lv := [some (.ref aN), some (.int pp), some (.int pl)]) (by decide) rfl (Nat.le_of_ble_eq_true rfl) (fun κ => ?_)
  generalize hQ : xQ κ g 0 0 _ = Q
  refine x_aload_n dX9_likes_0 rfl ?_
  refine x_iload_n dX9_likes_1 rfl ?_
  refine x_cVi0 dX9_likes_2 ml_X9_105 mX9_isPeople (ct_X9_isPeople κ.2.1 g aN aNs aNk aNf aNr aNp aNb aNa aNt aNbo aNsz aNnu aNl aNal aNlo aNw aNtr aNis aNbg aNow nts nta nop npr nac nkp nbd ntp nnw nsn nwn gr wk lk sz br z ru ki ma bb hd ce pp (hgr)) [0, 2] rfl rfl 0 rfl rfl rfl (Nat.le_of_ble_eq_true rfl) (by decide) (Nat.le_refl _) (Nat.le_refl _) ?_
  refine x_if_eq dX9_likes_5 (fun c5 => ?_) (fun c5 => ?_)
  · have c5 : (wI pp 0 (nI gr - 1)) = 0 := c5
    refine x_aload_n dX9_likes_15 rfl ?_
    refine x_ldc dX9_likes_16 k_X9_87 ?_
    refine x_cVi (ws' := [(aN, .inr (9, [.ref aNs, .ref aNk, .int nkp, .ref aNf, .ref aNr, .ref aNp, .ref aNb, .ref aNa, .ref aNt, .int (nI nts), .ref aNbo, .ref aNsz, .ref aNnu, .int (nI nta), .int (nI nop), .int nbd, .int ntp, .int (nI npr), .int nnw, .int nsn, .int nwn, .ref aNl, .ref aNal, .ref aNlo, .int (nI nac), .ref aNw, .ref aNtr, .ref aNis, .ref aNbg, .ref aNow])), (aNf, .inl (g.2.1 0, 8, .inl (nIf (fnF (updN fi 0 (fi 0 + 1)))))), (aNs, .inl (g.2.1 0, 919, .inl (msF gr wk z lk sz br ru ki ma bb ce hd)))]) dX9_likes_18 ml_X9_88 mX9_finds (ct_finds_0 κ.2.1 g aN aNs aNk aNf aNr aNp aNb aNa aNt aNbo aNsz aNnu aNl aNal aNlo aNw aNtr aNis aNbg aNow nts nta nop npr nac nkp nbd ntp nnw nsn nwn fi) [0, 1] rfl rfl 0 rfl rfl rfl (Nat.le_of_ble_eq_true rfl) (by decide) (Nat.le_refl _) (Nat.le_refl _) (rfl : [aN, aNf] = [aN, aNf]) rfl ?_
    rw [← hQ]
    refine x_iret dX9_likes_21 rfl (Nat.le_of_ble_eq_true rfl) (Nat.le_of_ble_eq_true rfl) ?_
    exact ⟨rfl, rfl⟩
  · have c5 : ¬ ((wI pp 0 (nI gr - 1)) = 0) := c5
    refine x_iload_n dX9_likes_8 rfl ?_
    refine x_cSi dX9_likes_9 ml_X9_92 mX9_isPlace (ct_X9_isPlace κ.2.1 g pl) rfl (Nat.le_of_ble_eq_true rfl) (by decide) (Nat.le_refl _) (Nat.le_refl _) ?_
    refine x_if_ne dX9_likes_12 (fun c12 => ?_) (fun c12 => ?_)
    · have c12 : ¬ ((wI pl 0 494) = 0) := c12
      exact absurd (hb.resolve_left c5) c12
    · have c12 : (wI pl 0 494) = 0 := c12
      refine x_aload_n dX9_likes_15 rfl ?_
      refine x_ldc dX9_likes_16 k_X9_87 ?_
      refine x_cVi (ws' := [(aN, .inr (9, [.ref aNs, .ref aNk, .int nkp, .ref aNf, .ref aNr, .ref aNp, .ref aNb, .ref aNa, .ref aNt, .int (nI nts), .ref aNbo, .ref aNsz, .ref aNnu, .int (nI nta), .int (nI nop), .int nbd, .int ntp, .int (nI npr), .int nnw, .int nsn, .int nwn, .ref aNl, .ref aNal, .ref aNlo, .int (nI nac), .ref aNw, .ref aNtr, .ref aNis, .ref aNbg, .ref aNow])), (aNf, .inl (g.2.1 0, 8, .inl (nIf (fnF (updN fi 0 (fi 0 + 1)))))), (aNs, .inl (g.2.1 0, 919, .inl (msF gr wk z lk sz br ru ki ma bb ce hd)))]) dX9_likes_18 ml_X9_88 mX9_finds (ct_finds_0 κ.2.1 g aN aNs aNk aNf aNr aNp aNb aNa aNt aNbo aNsz aNnu aNl aNal aNlo aNw aNtr aNis aNbg aNow nts nta nop npr nac nkp nbd ntp nnw nsn nwn fi) [0, 1] rfl rfl 0 rfl rfl rfl (Nat.le_of_ble_eq_true rfl) (by decide) (Nat.le_refl _) (Nat.le_refl _) (rfl : [aN, aNf] = [aN, aNf]) rfl ?_
      rw [← hQ]
      refine x_iret dX9_likes_21 rfl (Nat.le_of_ble_eq_true rfl) (Nat.le_of_ble_eq_true rfl) ?_
      exact ⟨rfl, rfl⟩

-- == nlikes_o ==
set_option maxRecDepth 100000 in
set_option maxHeartbeats 4000000 in
theorem ct_nlikes_o (l : Launch) (g : XG) (aN aNs aNk aNf aNr aNp aNb aNa aNt aNbo aNsz aNnu aNl aNal aNlo aNw aNtr aNis aNbg aNow nts nta nop npr nac : Nat) (nkp nbd nnw nsn nwn : Int32) (gr wk lk sz br : Nat) (z : Int32) (ru ki ma bb hd : Nat → Nat) (ce : Nat → Int32) (tb nli nal nlo sd : Nat → Nat) (L : Nat) (q p : Nat) (hgr : gr ≤ 12) (hki : ∀ j, ki j ≤ 7) (hma : ∀ j, ma j ≤ 99999) (hwk : wk ≤ 40) (hlat : latI ce wk = nI L) (hL : L < 4096) (hsz : sz ≤ 60) (hbb : ∀ j, bb j < 256) (hsd : ∀ p, sd p ≤ 99) (hsv : ∀ p, p < 495 → sd p = if lk = 1 then clN (txV bb sz wk L p) else 1) (hlk : lk ≤ 1) (hwo : (nnw = 1 ∧ (nsn = 1 ∨ (nsn = 0 ∧ nli = sd))) ∨ (nnw = 0 ∧ nsn = 0 ∧ nli = sd ∧ nal = crH gr ki ma hd L sd ∧ nac = toH gr ki ma hd L sd ∧ ∀ q, q < gr → nlo q = laN (ki q) (ma q) L sd)) (hq : q < gr ∧ gr ≤ 12) (hp : p < 495) : Ct l g 34 0 0 yX9_likes cX9_likes 3 (some .int) [.ref aN, .int (nI q), .int (nI p)] [(aN, .inr (9, [.ref aNs, .ref aNk, .int nkp, .ref aNf, .ref aNr, .ref aNp, .ref aNb, .ref aNa, .ref aNt, .int (nI nts), .ref aNbo, .ref aNsz, .ref aNnu, .int (nI nta), .int (nI nop), .int nbd, .int 0, .int (nI npr), .int nnw, .int nsn, .int nwn, .ref aNl, .ref aNal, .ref aNlo, .int (nI nac), .ref aNw, .ref aNtr, .ref aNis, .ref aNbg, .ref aNow])), (aNs, .inl (g.2.1 0, 919, .inl (msF gr wk z lk sz br ru ki ma bb ce hd))), (aNt, .inl (g.2.1 0, 60, .inl (nIf tb))), (aNa, .inl (g.2.1 0, 2475, .inl (nIf fcN))), (aNr, .inl (g.2.1 0, 495, .inl (nIf rowB))), (aNb, .inl (g.2.1 0, 4096, .inl (nIf popN))), (aNl, .inl (g.2.1 0, 495, .inl (nIf nli))), (aNal, .inl (g.2.1 0, 495, .inl (nIf nal))), (aNlo, .inl (g.2.1 0, 12, .inl (nIf nlo)))] (fun vv_ ww_ => ∃ (zat : Nat) (zop : Nat) (zbd : Int32) (zpr : Nat) (lo2 : Nat → Nat), vv_ = some (.int (nI (lkN (ki q) (ma q) p L (sd p)))) ∧ ww_ = [(aN, .inr (9, [.ref aNs, .ref aNk, .int nkp, .ref aNf, .ref aNr, .ref aNp, .ref aNb, .ref aNa, .ref aNt, .int (nI nts), .ref aNbo, .ref aNsz, .ref aNnu, .int (nI zat), .int (nI zop), .int zbd, .int 0, .int (nI zpr), .int 0, .int 0, .int (wnI nnw nwn), .ref aNl, .ref aNal, .ref aNlo, .int (nI (toH gr ki ma hd L sd)), .ref aNw, .ref aNtr, .ref aNis, .ref aNbg, .ref aNow])), (aNs, .inl (g.2.1 0, 919, .inl (msF gr wk z lk sz br ru ki ma bb ce hd))), (aNt, .inl (g.2.1 0, 60, .inl (nIf tb))), (aNa, .inl (g.2.1 0, 2475, .inl (nIf fcN))), (aNr, .inl (g.2.1 0, 495, .inl (nIf rowB))), (aNb, .inl (g.2.1 0, 4096, .inl (nIf popN))), (aNl, .inl (g.2.1 0, 495, .inl (nIf sd))), (aNal, .inl (g.2.1 0, 495, .inl (nIf (crH gr ki ma hd L sd)))), (aNlo, .inl (g.2.1 0, 12, .inl (nIf lo2)))] ∧ (∀ q, q < gr → lo2 q = laN (ki q) (ma q) L sd)) := by
  refine Ct.ofX (lv := [some (.ref aN), some (.int (nI q)), some (.int (nI p))]) (by decide) rfl (Nat.le_of_ble_eq_true rfl) (fun κ => ?_)
  generalize hQ : xQ κ g 0 0 _ = Q
  refine x_aload_n dX9_likes_0 rfl ?_
  refine x_iload_n dX9_likes_1 rfl ?_
  refine x_cVi0 dX9_likes_2 ml_X9_105 mX9_isPeople (ct_nPeople_n κ.2.1 g aN aNs aNk aNf aNr aNp aNb aNa aNt aNbo aNsz aNnu aNl aNal aNlo aNw aNtr aNis aNbg aNow nts nta nop npr nac nkp nbd 0 nnw nsn nwn gr wk lk sz br z ru ki ma bb hd ce q (hq)) [0, 1] rfl rfl 0 rfl rfl rfl (Nat.le_of_ble_eq_true rfl) (by decide) (Nat.le_refl _) (Nat.le_refl _) ?_
  refine x_if_eq dX9_likes_5 (fun c5 => ?_) (fun c5 => ?_)
  · exact absurd c5 (by decide)
  refine x_iload_n dX9_likes_8 rfl ?_
  refine x_cSi dX9_likes_9 ml_X9_92 mX9_isPlace (ct_nPlace_n κ.2.1 g p (hp)) rfl (Nat.le_of_ble_eq_true rfl) (by decide) (Nat.le_refl _) (Nat.le_refl _) ?_
  refine x_if_ne dX9_likes_12 (fun c12 => ?_) (fun c12 => ?_)
  rotate_left
  · exact absurd c12 (by decide)
  refine x_aload_n dX9_likes_22 rfl ?_
  refine x_callV dX9_likes_23 ml_X9_198 mX9_works (ct_X9_works κ.2.1 g aN aNs aNk aNf aNr aNp aNb aNa aNt aNbo aNsz aNnu aNl aNal aNlo aNw aNtr aNis aNbg aNow nts nta nop npr nac nkp nbd nnw nsn nwn gr wk lk sz br z ru ki ma bb hd ce tb nli nal nlo sd L (hgr) (hki) (hma) (hwk) (hlat) (hL) (hsz) (hbb) (hsd) (hsv) (hlk) (hwo)) [0, 1, 2, 3, 4, 5, 6, 7, 8] rfl rfl 0 rfl rfl rfl (Nat.le_of_ble_eq_true rfl) (by decide) (Nat.le_refl _) (Nat.le_refl _) (fun vv ww hp => ?_)
  obtain ⟨z1, z2, z3, z4, z5, rfl, rfl, p6⟩ := hp
  refine ⟨(rfl : [aN, aNs, aNt, aNa, aNr, aNb, aNl, aNal, aNlo] = [aN, aNs, aNt, aNa, aNr, aNb, aNl, aNal, aNlo]), x_eq (lv' := [some (.ref aN), some (.int (nI q)), some (.int (nI p))]) (st' := []) (ws' := [(aN, .inr (9, [.ref aNs, .ref aNk, .int nkp, .ref aNf, .ref aNr, .ref aNp, .ref aNb, .ref aNa, .ref aNt, .int (nI nts), .ref aNbo, .ref aNsz, .ref aNnu, .int (nI z1), .int (nI z2), .int z3, .int 0, .int (nI z4), .int 0, .int 0, .int (wnI nnw nwn), .ref aNl, .ref aNal, .ref aNlo, .int (nI (toH gr ki ma hd L sd)), .ref aNw, .ref aNtr, .ref aNis, .ref aNbg, .ref aNow])), (aNs, .inl (g.2.1 0, 919, .inl (msF gr wk z lk sz br ru ki ma bb ce hd))), (aNt, .inl (g.2.1 0, 60, .inl (nIf tb))), (aNa, .inl (g.2.1 0, 2475, .inl (nIf fcN))), (aNr, .inl (g.2.1 0, 495, .inl (nIf rowB))), (aNb, .inl (g.2.1 0, 4096, .inl (nIf popN))), (aNl, .inl (g.2.1 0, 495, .inl (nIf sd))), (aNal, .inl (g.2.1 0, 495, .inl (nIf (crH gr ki ma hd L sd)))), (aNlo, .inl (g.2.1 0, 12, .inl (nIf z5)))]) ?_ rfl rfl rfl⟩
  refine x_aload_n dX9_likes_26 rfl ?_
  refine x_iload_n dX9_likes_27 rfl ?_
  refine x_iload_n dX9_likes_28 rfl ?_
  refine x_cVi0 dX9_likes_29 ml_X9_188 mX9_likesBy (ct_X9_likesBy κ.2.1 g aN aNs aNk aNf aNr aNp aNb aNa aNt aNbo aNsz aNnu aNl aNal aNlo aNw aNtr aNis aNbg aNow nts z1 z2 z4 (toH gr ki ma hd L sd) nkp z3 0 0 0 (wnI nnw nwn) gr wk lk sz br z ru ki ma bb hd ce L p q sd (by omega) (hki) (hma) (hp) (hwk) (hlat) (hL)) [0, 1, 4, 5, 6] rfl rfl 0 rfl rfl rfl (Nat.le_of_ble_eq_true rfl) (by decide) (Nat.le_refl _) (Nat.le_refl _) ?_
  rw [← hQ]
  refine x_iret dX9_likes_32 rfl (Nat.le_of_ble_eq_true rfl) (Nat.le_of_ble_eq_true rfl) ?_
  exact ⟨_, _, _, _, _, rfl, rfl, p6⟩

-- == ncrossed_b ==
theorem dX9_crossed_0 : xd cX9_crossed 0 (.iload_n 1) 1 1 := ⟨by decide +kernel, rfl⟩
theorem dX9_crossed_1 : xd cX9_crossed 1 (.iconst (-1)) 1 2 := ⟨by decide +kernel, rfl⟩
theorem dX9_crossed_2 : xj cX9_crossed 2 (.if_icmp .eq) 5 13 := ⟨11, by decide +kernel, rfl, by decide⟩
theorem dX9_crossed_5 : xd cX9_crossed 5 (.aload_n 0) 1 6 := ⟨by decide +kernel, rfl⟩
theorem dX9_crossed_6 : xd cX9_crossed 6 (.iload_n 1) 1 7 := ⟨by decide +kernel, rfl⟩
theorem dX9_crossed_7 : xd cX9_crossed 7 (.invokevirtual 105) 3 10 := ⟨by decide +kernel, rfl⟩
theorem dX9_crossed_10 : xj cX9_crossed 10 (.ifCond .eq) 13 20 := ⟨10, by decide +kernel, rfl, by decide⟩
theorem dX9_crossed_13 : xd cX9_crossed 13 (.iload_n 2) 1 14 := ⟨by decide +kernel, rfl⟩
theorem dX9_crossed_14 : xd cX9_crossed 14 (.invokestatic 92) 3 17 := ⟨by decide +kernel, rfl⟩
theorem dX9_crossed_17 : xj cX9_crossed 17 (.ifCond .ne) 20 27 := ⟨10, by decide +kernel, rfl, by decide⟩
theorem dX9_crossed_20 : xd cX9_crossed 20 (.aload_n 0) 1 21 := ⟨by decide +kernel, rfl⟩
theorem dX9_crossed_21 : xd cX9_crossed 21 (.ldc 87) 2 23 := ⟨by decide +kernel, rfl⟩
theorem dX9_crossed_23 : xd cX9_crossed 23 (.invokevirtual 88) 3 26 := ⟨by decide +kernel, rfl⟩
theorem dX9_crossed_26 : xd cX9_crossed 26 .ireturn 1 27 := ⟨by decide +kernel, rfl⟩
theorem dX9_crossed_27 : xd cX9_crossed 27 (.aload_n 0) 1 28 := ⟨by decide +kernel, rfl⟩
theorem dX9_crossed_28 : xd cX9_crossed 28 (.invokevirtual 198) 3 31 := ⟨by decide +kernel, rfl⟩
theorem dX9_crossed_31 : xd cX9_crossed 31 (.iload_n 1) 1 32 := ⟨by decide +kernel, rfl⟩
theorem dX9_crossed_32 : xj cX9_crossed 32 (.ifCond .ge) 35 44 := ⟨12, by decide +kernel, rfl, by decide⟩
theorem dX9_crossed_35 : xd cX9_crossed 35 (.aload_n 0) 1 36 := ⟨by decide +kernel, rfl⟩
theorem dX9_crossed_36 : xd cX9_crossed 36 (.getfield 57) 3 39 := ⟨by decide +kernel, rfl⟩
theorem dX9_crossed_39 : xd cX9_crossed 39 (.iload_n 2) 1 40 := ⟨by decide +kernel, rfl⟩
theorem dX9_crossed_40 : xd cX9_crossed 40 .iaload 1 41 := ⟨by decide +kernel, rfl⟩
theorem dX9_crossed_41 : xj cX9_crossed 41 .goto 44 50 := ⟨9, by decide +kernel, rfl, by decide⟩
theorem dX9_crossed_44 : xd cX9_crossed 44 (.aload_n 0) 1 45 := ⟨by decide +kernel, rfl⟩
theorem dX9_crossed_45 : xd cX9_crossed 45 (.iload_n 1) 1 46 := ⟨by decide +kernel, rfl⟩
theorem dX9_crossed_46 : xd cX9_crossed 46 (.iload_n 2) 1 47 := ⟨by decide +kernel, rfl⟩
theorem dX9_crossed_47 : xd cX9_crossed 47 (.invokevirtual 195) 3 50 := ⟨by decide +kernel, rfl⟩
theorem dX9_crossed_50 : xd cX9_crossed 50 .ireturn 1 51 := ⟨by decide +kernel, rfl⟩

set_option maxRecDepth 100000 in
set_option maxHeartbeats 4000000 in
theorem ct_ncrossed_b (l : Launch) (g : XG) (aN aNs aNk aNf aNr aNp aNb aNa aNt aNbo aNsz aNnu aNl aNal aNlo aNw aNtr aNis aNbg aNow nts nta nop npr nac : Nat) (nkp nbd ntp nnw nsn nwn : Int32) (fi : Nat → Nat) (pp pl : Int32) (gr wk lk sz br : Nat) (z : Int32) (ru ki ma bb hd : Nat → Nat) (ce : Nat → Int32) (hgr : gr ≤ 12) (hb : (¬ pp = -1 ∧ wI pp 0 (nI gr - 1) = 0) ∨ wI pl 0 494 = 0) : Ct l g 34 0 0 yX9_crossed cX9_crossed 3 (some .int) [.ref aN, .int pp, .int pl] [(aN, .inr (9, [.ref aNs, .ref aNk, .int nkp, .ref aNf, .ref aNr, .ref aNp, .ref aNb, .ref aNa, .ref aNt, .int (nI nts), .ref aNbo, .ref aNsz, .ref aNnu, .int (nI nta), .int (nI nop), .int nbd, .int ntp, .int (nI npr), .int nnw, .int nsn, .int nwn, .ref aNl, .ref aNal, .ref aNlo, .int (nI nac), .ref aNw, .ref aNtr, .ref aNis, .ref aNbg, .ref aNow])), (aNf, .inl (g.2.1 0, 8, .inl (nIf (fnF fi)))), (aNs, .inl (g.2.1 0, 919, .inl (msF gr wk z lk sz br ru ki ma bb ce hd)))] (xpi (fndI 0) [(aN, .inr (9, [.ref aNs, .ref aNk, .int nkp, .ref aNf, .ref aNr, .ref aNp, .ref aNb, .ref aNa, .ref aNt, .int (nI nts), .ref aNbo, .ref aNsz, .ref aNnu, .int (nI nta), .int (nI nop), .int nbd, .int ntp, .int (nI npr), .int nnw, .int nsn, .int nwn, .ref aNl, .ref aNal, .ref aNlo, .int (nI nac), .ref aNw, .ref aNtr, .ref aNis, .ref aNbg, .ref aNow])), (aNf, .inl (g.2.1 0, 8, .inl (nIf (fnF (updN fi 0 (fi 0 + 1)))))), (aNs, .inl (g.2.1 0, 919, .inl (msF gr wk z lk sz br ru ki ma bb ce hd)))]) := by
  refine Ct.ofX (lv := [some (.ref aN), some (.int pp), some (.int pl)]) (by decide) rfl (Nat.le_of_ble_eq_true rfl) (fun κ => ?_)
  generalize hQ : xQ κ g 0 0 _ = Q
  refine x_iload_n dX9_crossed_0 rfl ?_
  refine x_iconst (-1) dX9_crossed_1 (by decide) ?_
  refine x_icmp_eq dX9_crossed_2 (fun c2 => ?_) (fun c2 => ?_)
  · have c2 : pp = (-1) := c2
    refine x_iload_n dX9_crossed_13 rfl ?_
    refine x_cSi dX9_crossed_14 ml_X9_92 mX9_isPlace (ct_X9_isPlace κ.2.1 g pl) rfl (Nat.le_of_ble_eq_true rfl) (by decide) (Nat.le_refl _) (Nat.le_refl _) ?_
    refine x_if_ne dX9_crossed_17 (fun c17 => ?_) (fun c17 => ?_)
    · have c17 : ¬ ((wI pl 0 494) = 0) := c17
      exact absurd (hb.resolve_left (fun h => by first | exact h.1 c2 | exact c10 h.2)) c17
    · have c17 : (wI pl 0 494) = 0 := c17
      refine x_aload_n dX9_crossed_20 rfl ?_
      refine x_ldc dX9_crossed_21 k_X9_87 ?_
      refine x_cVi (ws' := [(aN, .inr (9, [.ref aNs, .ref aNk, .int nkp, .ref aNf, .ref aNr, .ref aNp, .ref aNb, .ref aNa, .ref aNt, .int (nI nts), .ref aNbo, .ref aNsz, .ref aNnu, .int (nI nta), .int (nI nop), .int nbd, .int ntp, .int (nI npr), .int nnw, .int nsn, .int nwn, .ref aNl, .ref aNal, .ref aNlo, .int (nI nac), .ref aNw, .ref aNtr, .ref aNis, .ref aNbg, .ref aNow])), (aNf, .inl (g.2.1 0, 8, .inl (nIf (fnF (updN fi 0 (fi 0 + 1)))))), (aNs, .inl (g.2.1 0, 919, .inl (msF gr wk z lk sz br ru ki ma bb ce hd)))]) dX9_crossed_23 ml_X9_88 mX9_finds (ct_finds_0 κ.2.1 g aN aNs aNk aNf aNr aNp aNb aNa aNt aNbo aNsz aNnu aNl aNal aNlo aNw aNtr aNis aNbg aNow nts nta nop npr nac nkp nbd ntp nnw nsn nwn fi) [0, 1] rfl rfl 0 rfl rfl rfl (Nat.le_of_ble_eq_true rfl) (by decide) (Nat.le_refl _) (Nat.le_refl _) (rfl : [aN, aNf] = [aN, aNf]) rfl ?_
      rw [← hQ]
      refine x_iret dX9_crossed_26 rfl (Nat.le_of_ble_eq_true rfl) (Nat.le_of_ble_eq_true rfl) ?_
      exact ⟨rfl, rfl⟩
  · have c2 : ¬ (pp = (-1)) := c2
    refine x_aload_n dX9_crossed_5 rfl ?_
    refine x_iload_n dX9_crossed_6 rfl ?_
    refine x_cVi0 dX9_crossed_7 ml_X9_105 mX9_isPeople (ct_X9_isPeople κ.2.1 g aN aNs aNk aNf aNr aNp aNb aNa aNt aNbo aNsz aNnu aNl aNal aNlo aNw aNtr aNis aNbg aNow nts nta nop npr nac nkp nbd ntp nnw nsn nwn gr wk lk sz br z ru ki ma bb hd ce pp (hgr)) [0, 2] rfl rfl 0 rfl rfl rfl (Nat.le_of_ble_eq_true rfl) (by decide) (Nat.le_refl _) (Nat.le_refl _) ?_
    refine x_if_eq dX9_crossed_10 (fun c10 => ?_) (fun c10 => ?_)
    · have c10 : (wI pp 0 (nI gr - 1)) = 0 := c10
      refine x_aload_n dX9_crossed_20 rfl ?_
      refine x_ldc dX9_crossed_21 k_X9_87 ?_
      refine x_cVi (ws' := [(aN, .inr (9, [.ref aNs, .ref aNk, .int nkp, .ref aNf, .ref aNr, .ref aNp, .ref aNb, .ref aNa, .ref aNt, .int (nI nts), .ref aNbo, .ref aNsz, .ref aNnu, .int (nI nta), .int (nI nop), .int nbd, .int ntp, .int (nI npr), .int nnw, .int nsn, .int nwn, .ref aNl, .ref aNal, .ref aNlo, .int (nI nac), .ref aNw, .ref aNtr, .ref aNis, .ref aNbg, .ref aNow])), (aNf, .inl (g.2.1 0, 8, .inl (nIf (fnF (updN fi 0 (fi 0 + 1)))))), (aNs, .inl (g.2.1 0, 919, .inl (msF gr wk z lk sz br ru ki ma bb ce hd)))]) dX9_crossed_23 ml_X9_88 mX9_finds (ct_finds_0 κ.2.1 g aN aNs aNk aNf aNr aNp aNb aNa aNt aNbo aNsz aNnu aNl aNal aNlo aNw aNtr aNis aNbg aNow nts nta nop npr nac nkp nbd ntp nnw nsn nwn fi) [0, 1] rfl rfl 0 rfl rfl rfl (Nat.le_of_ble_eq_true rfl) (by decide) (Nat.le_refl _) (Nat.le_refl _) (rfl : [aN, aNf] = [aN, aNf]) rfl ?_
      rw [← hQ]
      refine x_iret dX9_crossed_26 rfl (Nat.le_of_ble_eq_true rfl) (Nat.le_of_ble_eq_true rfl) ?_
      exact ⟨rfl, rfl⟩
    · have c10 : ¬ ((wI pp 0 (nI gr - 1)) = 0) := c10
      refine x_iload_n dX9_crossed_13 rfl ?_
      refine x_cSi dX9_crossed_14 ml_X9_92 mX9_isPlace (ct_X9_isPlace κ.2.1 g pl) rfl (Nat.le_of_ble_eq_true rfl) (by decide) (Nat.le_refl _) (Nat.le_refl _) ?_
      refine x_if_ne dX9_crossed_17 (fun c17 => ?_) (fun c17 => ?_)
      · have c17 : ¬ ((wI pl 0 494) = 0) := c17
        exact absurd (hb.resolve_left (fun h => by first | exact h.1 c2 | exact c10 h.2)) c17
      · have c17 : (wI pl 0 494) = 0 := c17
        refine x_aload_n dX9_crossed_20 rfl ?_
        refine x_ldc dX9_crossed_21 k_X9_87 ?_
        refine x_cVi (ws' := [(aN, .inr (9, [.ref aNs, .ref aNk, .int nkp, .ref aNf, .ref aNr, .ref aNp, .ref aNb, .ref aNa, .ref aNt, .int (nI nts), .ref aNbo, .ref aNsz, .ref aNnu, .int (nI nta), .int (nI nop), .int nbd, .int ntp, .int (nI npr), .int nnw, .int nsn, .int nwn, .ref aNl, .ref aNal, .ref aNlo, .int (nI nac), .ref aNw, .ref aNtr, .ref aNis, .ref aNbg, .ref aNow])), (aNf, .inl (g.2.1 0, 8, .inl (nIf (fnF (updN fi 0 (fi 0 + 1)))))), (aNs, .inl (g.2.1 0, 919, .inl (msF gr wk z lk sz br ru ki ma bb ce hd)))]) dX9_crossed_23 ml_X9_88 mX9_finds (ct_finds_0 κ.2.1 g aN aNs aNk aNf aNr aNp aNb aNa aNt aNbo aNsz aNnu aNl aNal aNlo aNw aNtr aNis aNbg aNow nts nta nop npr nac nkp nbd ntp nnw nsn nwn fi) [0, 1] rfl rfl 0 rfl rfl rfl (Nat.le_of_ble_eq_true rfl) (by decide) (Nat.le_refl _) (Nat.le_refl _) (rfl : [aN, aNf] = [aN, aNf]) rfl ?_
        rw [← hQ]
        refine x_iret dX9_crossed_26 rfl (Nat.le_of_ble_eq_true rfl) (Nat.le_of_ble_eq_true rfl) ?_
        exact ⟨rfl, rfl⟩

-- == ncrossed_a ==
set_option maxRecDepth 100000 in
set_option maxHeartbeats 4000000 in
theorem ct_ncrossed_a (l : Launch) (g : XG) (aN aNs aNk aNf aNr aNp aNb aNa aNt aNbo aNsz aNnu aNl aNal aNlo aNw aNtr aNis aNbg aNow nts nta nop npr nac : Nat) (nkp nbd nnw nsn nwn : Int32) (gr wk lk sz br : Nat) (z : Int32) (ru ki ma bb hd : Nat → Nat) (ce : Nat → Int32) (tb nli nal nlo sd : Nat → Nat) (L : Nat) (p : Nat) (hgr : gr ≤ 12) (hki : ∀ j, ki j ≤ 7) (hma : ∀ j, ma j ≤ 99999) (hwk : wk ≤ 40) (hlat : latI ce wk = nI L) (hL : L < 4096) (hsz : sz ≤ 60) (hbb : ∀ j, bb j < 256) (hsd : ∀ p, sd p ≤ 99) (hsv : ∀ p, p < 495 → sd p = if lk = 1 then clN (txV bb sz wk L p) else 1) (hlk : lk ≤ 1) (hwo : (nnw = 1 ∧ (nsn = 1 ∨ (nsn = 0 ∧ nli = sd))) ∨ (nnw = 0 ∧ nsn = 0 ∧ nli = sd ∧ nal = crH gr ki ma hd L sd ∧ nac = toH gr ki ma hd L sd ∧ ∀ q, q < gr → nlo q = laN (ki q) (ma q) L sd)) (hp : p < 495) : Ct l g 34 0 0 yX9_crossed cX9_crossed 3 (some .int) [.ref aN, .int ((-1)), .int (nI p)] [(aN, .inr (9, [.ref aNs, .ref aNk, .int nkp, .ref aNf, .ref aNr, .ref aNp, .ref aNb, .ref aNa, .ref aNt, .int (nI nts), .ref aNbo, .ref aNsz, .ref aNnu, .int (nI nta), .int (nI nop), .int nbd, .int 0, .int (nI npr), .int nnw, .int nsn, .int nwn, .ref aNl, .ref aNal, .ref aNlo, .int (nI nac), .ref aNw, .ref aNtr, .ref aNis, .ref aNbg, .ref aNow])), (aNs, .inl (g.2.1 0, 919, .inl (msF gr wk z lk sz br ru ki ma bb ce hd))), (aNt, .inl (g.2.1 0, 60, .inl (nIf tb))), (aNa, .inl (g.2.1 0, 2475, .inl (nIf fcN))), (aNr, .inl (g.2.1 0, 495, .inl (nIf rowB))), (aNb, .inl (g.2.1 0, 4096, .inl (nIf popN))), (aNl, .inl (g.2.1 0, 495, .inl (nIf nli))), (aNal, .inl (g.2.1 0, 495, .inl (nIf nal))), (aNlo, .inl (g.2.1 0, 12, .inl (nIf nlo)))] (fun vv_ ww_ => ∃ (zat : Nat) (zop : Nat) (zbd : Int32) (zpr : Nat) (lo2 : Nat → Nat), vv_ = some (.int (nI (crH gr ki ma hd L sd p))) ∧ ww_ = [(aN, .inr (9, [.ref aNs, .ref aNk, .int nkp, .ref aNf, .ref aNr, .ref aNp, .ref aNb, .ref aNa, .ref aNt, .int (nI nts), .ref aNbo, .ref aNsz, .ref aNnu, .int (nI zat), .int (nI zop), .int zbd, .int 0, .int (nI zpr), .int 0, .int 0, .int (wnI nnw nwn), .ref aNl, .ref aNal, .ref aNlo, .int (nI (toH gr ki ma hd L sd)), .ref aNw, .ref aNtr, .ref aNis, .ref aNbg, .ref aNow])), (aNs, .inl (g.2.1 0, 919, .inl (msF gr wk z lk sz br ru ki ma bb ce hd))), (aNt, .inl (g.2.1 0, 60, .inl (nIf tb))), (aNa, .inl (g.2.1 0, 2475, .inl (nIf fcN))), (aNr, .inl (g.2.1 0, 495, .inl (nIf rowB))), (aNb, .inl (g.2.1 0, 4096, .inl (nIf popN))), (aNl, .inl (g.2.1 0, 495, .inl (nIf sd))), (aNal, .inl (g.2.1 0, 495, .inl (nIf (crH gr ki ma hd L sd)))), (aNlo, .inl (g.2.1 0, 12, .inl (nIf lo2)))] ∧ (∀ q, q < gr → lo2 q = laN (ki q) (ma q) L sd)) := by
  refine Ct.ofX (lv := [some (.ref aN), some (.int ((-1))), some (.int (nI p))]) (by decide) rfl (Nat.le_of_ble_eq_true rfl) (fun κ => ?_)
  generalize hQ : xQ κ g 0 0 _ = Q
  refine x_iload_n dX9_crossed_0 rfl ?_
  refine x_iconst (-1) dX9_crossed_1 (by decide) ?_
  refine x_icmp_eq dX9_crossed_2 (fun c2 => ?_) (fun c2 => ?_)
  rotate_left
  · exact absurd c2 (by decide)
  refine x_iload_n dX9_crossed_13 rfl ?_
  refine x_cSi dX9_crossed_14 ml_X9_92 mX9_isPlace (ct_nPlace_n κ.2.1 g p (hp)) rfl (Nat.le_of_ble_eq_true rfl) (by decide) (Nat.le_refl _) (Nat.le_refl _) ?_
  refine x_if_ne dX9_crossed_17 (fun c17 => ?_) (fun c17 => ?_)
  rotate_left
  · exact absurd c17 (by decide)
  refine x_aload_n dX9_crossed_27 rfl ?_
  refine x_callV dX9_crossed_28 ml_X9_198 mX9_works (ct_X9_works κ.2.1 g aN aNs aNk aNf aNr aNp aNb aNa aNt aNbo aNsz aNnu aNl aNal aNlo aNw aNtr aNis aNbg aNow nts nta nop npr nac nkp nbd nnw nsn nwn gr wk lk sz br z ru ki ma bb hd ce tb nli nal nlo sd L (hgr) (hki) (hma) (hwk) (hlat) (hL) (hsz) (hbb) (hsd) (hsv) (hlk) (hwo)) [0, 1, 2, 3, 4, 5, 6, 7, 8] rfl rfl 0 rfl rfl rfl (Nat.le_of_ble_eq_true rfl) (by decide) (Nat.le_refl _) (Nat.le_refl _) (fun vv ww hp => ?_)
  obtain ⟨z1, z2, z3, z4, z5, rfl, rfl, p6⟩ := hp
  refine ⟨(rfl : [aN, aNs, aNt, aNa, aNr, aNb, aNl, aNal, aNlo] = [aN, aNs, aNt, aNa, aNr, aNb, aNl, aNal, aNlo]), x_eq (lv' := [some (.ref aN), some (.int ((-1))), some (.int (nI p))]) (st' := []) (ws' := [(aN, .inr (9, [.ref aNs, .ref aNk, .int nkp, .ref aNf, .ref aNr, .ref aNp, .ref aNb, .ref aNa, .ref aNt, .int (nI nts), .ref aNbo, .ref aNsz, .ref aNnu, .int (nI z1), .int (nI z2), .int z3, .int 0, .int (nI z4), .int 0, .int 0, .int (wnI nnw nwn), .ref aNl, .ref aNal, .ref aNlo, .int (nI (toH gr ki ma hd L sd)), .ref aNw, .ref aNtr, .ref aNis, .ref aNbg, .ref aNow])), (aNs, .inl (g.2.1 0, 919, .inl (msF gr wk z lk sz br ru ki ma bb ce hd))), (aNt, .inl (g.2.1 0, 60, .inl (nIf tb))), (aNa, .inl (g.2.1 0, 2475, .inl (nIf fcN))), (aNr, .inl (g.2.1 0, 495, .inl (nIf rowB))), (aNb, .inl (g.2.1 0, 4096, .inl (nIf popN))), (aNl, .inl (g.2.1 0, 495, .inl (nIf sd))), (aNal, .inl (g.2.1 0, 495, .inl (nIf (crH gr ki ma hd L sd)))), (aNlo, .inl (g.2.1 0, 12, .inl (nIf z5)))]) ?_ rfl rfl rfl⟩
  refine x_iload_n dX9_crossed_31 rfl ?_
  refine x_if_ge dX9_crossed_32 (fun c32 => ?_) (fun c32 => ?_)
  · exact absurd c32 (by decide)
  refine x_aload_n dX9_crossed_35 rfl ?_
  refine x_get dX9_crossed_36 0 22 inX9 fl_X9_57 rfl rfl (by decide) rfl ?_
  refine x_iload_n dX9_crossed_39 rfl ?_
  refine x_iald dX9_crossed_40 7 p rfl (rfl) (by omega) (by decide) ?_
  refine x_goto dX9_crossed_41 ?_
  rw [← hQ]
  refine x_iret dX9_crossed_50 rfl (Nat.le_of_ble_eq_true rfl) (Nat.le_of_ble_eq_true rfl) ?_
  exact ⟨_, _, _, _, _, rfl, rfl, p6⟩

-- == ncrossed_o ==
set_option maxRecDepth 100000 in
set_option maxHeartbeats 4000000 in
theorem ct_ncrossed_o (l : Launch) (g : XG) (aN aNs aNk aNf aNr aNp aNb aNa aNt aNbo aNsz aNnu aNl aNal aNlo aNw aNtr aNis aNbg aNow nts nta nop npr nac : Nat) (nkp nbd nnw nsn nwn : Int32) (gr wk lk sz br : Nat) (z : Int32) (ru ki ma bb hd : Nat → Nat) (ce : Nat → Int32) (tb nli nal nlo sd : Nat → Nat) (L : Nat) (q p : Nat) (hgr : gr ≤ 12) (hki : ∀ j, ki j ≤ 7) (hma : ∀ j, ma j ≤ 99999) (hwk : wk ≤ 40) (hlat : latI ce wk = nI L) (hL : L < 4096) (hsz : sz ≤ 60) (hbb : ∀ j, bb j < 256) (hsd : ∀ p, sd p ≤ 99) (hsv : ∀ p, p < 495 → sd p = if lk = 1 then clN (txV bb sz wk L p) else 1) (hlk : lk ≤ 1) (hwo : (nnw = 1 ∧ (nsn = 1 ∨ (nsn = 0 ∧ nli = sd))) ∨ (nnw = 0 ∧ nsn = 0 ∧ nli = sd ∧ nal = crH gr ki ma hd L sd ∧ nac = toH gr ki ma hd L sd ∧ ∀ q, q < gr → nlo q = laN (ki q) (ma q) L sd)) (hq : q < gr ∧ gr ≤ 12) (hp : p < 495) : Ct l g 34 0 0 yX9_crossed cX9_crossed 3 (some .int) [.ref aN, .int (nI q), .int (nI p)] [(aN, .inr (9, [.ref aNs, .ref aNk, .int nkp, .ref aNf, .ref aNr, .ref aNp, .ref aNb, .ref aNa, .ref aNt, .int (nI nts), .ref aNbo, .ref aNsz, .ref aNnu, .int (nI nta), .int (nI nop), .int nbd, .int 0, .int (nI npr), .int nnw, .int nsn, .int nwn, .ref aNl, .ref aNal, .ref aNlo, .int (nI nac), .ref aNw, .ref aNtr, .ref aNis, .ref aNbg, .ref aNow])), (aNs, .inl (g.2.1 0, 919, .inl (msF gr wk z lk sz br ru ki ma bb ce hd))), (aNt, .inl (g.2.1 0, 60, .inl (nIf tb))), (aNa, .inl (g.2.1 0, 2475, .inl (nIf fcN))), (aNr, .inl (g.2.1 0, 495, .inl (nIf rowB))), (aNb, .inl (g.2.1 0, 4096, .inl (nIf popN))), (aNl, .inl (g.2.1 0, 495, .inl (nIf nli))), (aNal, .inl (g.2.1 0, 495, .inl (nIf nal))), (aNlo, .inl (g.2.1 0, 12, .inl (nIf nlo)))] (fun vv_ ww_ => ∃ (zat : Nat) (zop : Nat) (zbd : Int32) (zpr : Nat) (lo2 : Nat → Nat), vv_ = some (.int (nI (shN (ki q) (ma q) p L sd))) ∧ ww_ = [(aN, .inr (9, [.ref aNs, .ref aNk, .int nkp, .ref aNf, .ref aNr, .ref aNp, .ref aNb, .ref aNa, .ref aNt, .int (nI nts), .ref aNbo, .ref aNsz, .ref aNnu, .int (nI zat), .int (nI zop), .int zbd, .int 0, .int (nI zpr), .int 0, .int 0, .int (wnI nnw nwn), .ref aNl, .ref aNal, .ref aNlo, .int (nI (toH gr ki ma hd L sd)), .ref aNw, .ref aNtr, .ref aNis, .ref aNbg, .ref aNow])), (aNs, .inl (g.2.1 0, 919, .inl (msF gr wk z lk sz br ru ki ma bb ce hd))), (aNt, .inl (g.2.1 0, 60, .inl (nIf tb))), (aNa, .inl (g.2.1 0, 2475, .inl (nIf fcN))), (aNr, .inl (g.2.1 0, 495, .inl (nIf rowB))), (aNb, .inl (g.2.1 0, 4096, .inl (nIf popN))), (aNl, .inl (g.2.1 0, 495, .inl (nIf sd))), (aNal, .inl (g.2.1 0, 495, .inl (nIf (crH gr ki ma hd L sd)))), (aNlo, .inl (g.2.1 0, 12, .inl (nIf lo2)))] ∧ (∀ q, q < gr → lo2 q = laN (ki q) (ma q) L sd)) := by
  refine Ct.ofX (lv := [some (.ref aN), some (.int (nI q)), some (.int (nI p))]) (by decide) rfl (Nat.le_of_ble_eq_true rfl) (fun κ => ?_)
  generalize hQ : xQ κ g 0 0 _ = Q
  refine x_iload_n dX9_crossed_0 rfl ?_
  refine x_iconst (-1) dX9_crossed_1 (by decide) ?_
  refine x_icmp_eq dX9_crossed_2 (fun c2 => ?_) (fun c2 => ?_)
  · have c2 : (nI q) = (-1) := c2
    exact absurd c2 (nI_nem1 (by omega))
  · have c2 : ¬ ((nI q) = (-1)) := c2
    refine x_aload_n dX9_crossed_5 rfl ?_
    refine x_iload_n dX9_crossed_6 rfl ?_
    refine x_cVi0 dX9_crossed_7 ml_X9_105 mX9_isPeople (ct_nPeople_n κ.2.1 g aN aNs aNk aNf aNr aNp aNb aNa aNt aNbo aNsz aNnu aNl aNal aNlo aNw aNtr aNis aNbg aNow nts nta nop npr nac nkp nbd 0 nnw nsn nwn gr wk lk sz br z ru ki ma bb hd ce q (hq)) [0, 1] rfl rfl 0 rfl rfl rfl (Nat.le_of_ble_eq_true rfl) (by decide) (Nat.le_refl _) (Nat.le_refl _) ?_
    refine x_if_eq dX9_crossed_10 (fun c10 => ?_) (fun c10 => ?_)
    · exact absurd c10 (by decide)
    refine x_iload_n dX9_crossed_13 rfl ?_
    refine x_cSi dX9_crossed_14 ml_X9_92 mX9_isPlace (ct_nPlace_n κ.2.1 g p (hp)) rfl (Nat.le_of_ble_eq_true rfl) (by decide) (Nat.le_refl _) (Nat.le_refl _) ?_
    refine x_if_ne dX9_crossed_17 (fun c17 => ?_) (fun c17 => ?_)
    rotate_left
    · exact absurd c17 (by decide)
    refine x_aload_n dX9_crossed_27 rfl ?_
    refine x_callV dX9_crossed_28 ml_X9_198 mX9_works (ct_X9_works κ.2.1 g aN aNs aNk aNf aNr aNp aNb aNa aNt aNbo aNsz aNnu aNl aNal aNlo aNw aNtr aNis aNbg aNow nts nta nop npr nac nkp nbd nnw nsn nwn gr wk lk sz br z ru ki ma bb hd ce tb nli nal nlo sd L (hgr) (hki) (hma) (hwk) (hlat) (hL) (hsz) (hbb) (hsd) (hsv) (hlk) (hwo)) [0, 1, 2, 3, 4, 5, 6, 7, 8] rfl rfl 0 rfl rfl rfl (Nat.le_of_ble_eq_true rfl) (by decide) (Nat.le_refl _) (Nat.le_refl _) (fun vv ww hp => ?_)
    obtain ⟨z1, z2, z3, z4, z5, rfl, rfl, p6⟩ := hp
    refine ⟨(rfl : [aN, aNs, aNt, aNa, aNr, aNb, aNl, aNal, aNlo] = [aN, aNs, aNt, aNa, aNr, aNb, aNl, aNal, aNlo]), x_eq (lv' := [some (.ref aN), some (.int (nI q)), some (.int (nI p))]) (st' := []) (ws' := [(aN, .inr (9, [.ref aNs, .ref aNk, .int nkp, .ref aNf, .ref aNr, .ref aNp, .ref aNb, .ref aNa, .ref aNt, .int (nI nts), .ref aNbo, .ref aNsz, .ref aNnu, .int (nI z1), .int (nI z2), .int z3, .int 0, .int (nI z4), .int 0, .int 0, .int (wnI nnw nwn), .ref aNl, .ref aNal, .ref aNlo, .int (nI (toH gr ki ma hd L sd)), .ref aNw, .ref aNtr, .ref aNis, .ref aNbg, .ref aNow])), (aNs, .inl (g.2.1 0, 919, .inl (msF gr wk z lk sz br ru ki ma bb ce hd))), (aNt, .inl (g.2.1 0, 60, .inl (nIf tb))), (aNa, .inl (g.2.1 0, 2475, .inl (nIf fcN))), (aNr, .inl (g.2.1 0, 495, .inl (nIf rowB))), (aNb, .inl (g.2.1 0, 4096, .inl (nIf popN))), (aNl, .inl (g.2.1 0, 495, .inl (nIf sd))), (aNal, .inl (g.2.1 0, 495, .inl (nIf (crH gr ki ma hd L sd)))), (aNlo, .inl (g.2.1 0, 12, .inl (nIf z5)))]) ?_ rfl rfl rfl⟩
    refine x_iload_n dX9_crossed_31 rfl ?_
    refine x_if_ge dX9_crossed_32 (fun c32 => ?_) (fun c32 => ?_)
    · have c32 : 0 ≤ (nI q) := c32
      have c32n := (nI_leI (a := 0) (b := q) (by omega) (by omega)).mp c32
      refine x_aload_n dX9_crossed_44 rfl ?_
      refine x_iload_n dX9_crossed_45 rfl ?_
      refine x_iload_n dX9_crossed_46 rfl ?_
      refine x_cVi0 dX9_crossed_47 ml_X9_195 mX9_crossedBy (ct_X9_crossedBy κ.2.1 g aN aNs aNk aNf aNr aNp aNb aNa aNt aNbo aNsz aNnu aNl aNal aNlo aNw aNtr aNis aNbg aNow nts z1 z2 z4 (toH gr ki ma hd L sd) nkp z3 0 0 0 (wnI nnw nwn) gr wk lk sz br z ru ki ma bb hd ce L p q sd z5 (by omega) (hki) (hma) (hp) (hwk) (hlat) (hL) (hsd) (p6 q hq.1)) [0, 1, 4, 5, 6, 8] rfl rfl 0 rfl rfl rfl (Nat.le_of_ble_eq_true rfl) (by decide) (Nat.le_refl _) (Nat.le_refl _) ?_
      rw [← hQ]
      refine x_iret dX9_crossed_50 rfl (Nat.le_of_ble_eq_true rfl) (Nat.le_of_ble_eq_true rfl) ?_
      exact ⟨_, _, _, _, _, rfl, rfl, p6⟩
    · have c32 : ¬ (0 ≤ (nI q)) := c32
      have c32n := mt (nI_leI (a := 0) (b := q) (by omega) (by omega)).mpr c32
      exact absurd c32n (by omega)

-- == nbuys_b ==
theorem dX9_buys_0 : xd cX9_buys 0 (.iload_n 1) 1 1 := ⟨by decide +kernel, rfl⟩
theorem dX9_buys_1 : xd cX9_buys 1 (.invokestatic 92) 3 4 := ⟨by decide +kernel, rfl⟩
theorem dX9_buys_4 : xj cX9_buys 4 (.ifCond .eq) 7 19 := ⟨15, by decide +kernel, rfl, by decide⟩
theorem dX9_buys_7 : xd cX9_buys 7 (.iload_n 2) 1 8 := ⟨by decide +kernel, rfl⟩
theorem dX9_buys_8 : xd cX9_buys 8 .i2l 1 9 := ⟨by decide +kernel, rfl⟩
theorem dX9_buys_9 : xd cX9_buys 9 (.lconst 1) 1 10 := ⟨by decide +kernel, rfl⟩
theorem dX9_buys_10 : xd cX9_buys 10 (.ldc2_w 201) 3 13 := ⟨by decide +kernel, rfl⟩
theorem dX9_buys_13 : xd cX9_buys 13 (.invokestatic 98) 3 16 := ⟨by decide +kernel, rfl⟩
theorem dX9_buys_16 : xj cX9_buys 16 (.ifCond .ne) 19 26 := ⟨10, by decide +kernel, rfl, by decide⟩
theorem dX9_buys_19 : xd cX9_buys 19 (.aload_n 0) 1 20 := ⟨by decide +kernel, rfl⟩
theorem dX9_buys_20 : xd cX9_buys 20 (.ldc 87) 2 22 := ⟨by decide +kernel, rfl⟩
theorem dX9_buys_22 : xd cX9_buys 22 (.invokevirtual 88) 3 25 := ⟨by decide +kernel, rfl⟩
theorem dX9_buys_25 : xd cX9_buys 25 .ireturn 1 26 := ⟨by decide +kernel, rfl⟩
theorem dX9_buys_26 : xd cX9_buys 26 (.aload_n 0) 1 27 := ⟨by decide +kernel, rfl⟩
theorem dX9_buys_27 : xd cX9_buys 27 (.getfield 7) 3 30 := ⟨by decide +kernel, rfl⟩
theorem dX9_buys_30 : xd cX9_buys 30 (.sipush 424) 3 33 := ⟨by decide +kernel, rfl⟩
theorem dX9_buys_33 : xd cX9_buys 33 (.iload_n 1) 1 34 := ⟨by decide +kernel, rfl⟩
theorem dX9_buys_34 : xd cX9_buys 34 .iadd 1 35 := ⟨by decide +kernel, rfl⟩
theorem dX9_buys_35 : xd cX9_buys 35 .iaload 1 36 := ⟨by decide +kernel, rfl⟩
theorem dX9_buys_36 : xd cX9_buys 36 (.istore_n 3) 1 37 := ⟨by decide +kernel, rfl⟩
theorem dX9_buys_37 : xd cX9_buys 37 (.iload_n 3) 1 38 := ⟨by decide +kernel, rfl⟩
theorem dX9_buys_38 : xj cX9_buys 38 (.ifCond .ne) 41 52 := ⟨14, by decide +kernel, rfl, by decide⟩
theorem dX9_buys_41 : xd cX9_buys 41 (.aload_n 0) 1 42 := ⟨by decide +kernel, rfl⟩
theorem dX9_buys_42 : xd cX9_buys 42 (.getfield 7) 3 45 := ⟨by decide +kernel, rfl⟩
theorem dX9_buys_45 : xd cX9_buys 45 (.iconst 5) 1 46 := ⟨by decide +kernel, rfl⟩
theorem dX9_buys_46 : xd cX9_buys 46 .iaload 1 47 := ⟨by decide +kernel, rfl⟩
theorem dX9_buys_47 : xd cX9_buys 47 (.bipush 40) 2 49 := ⟨by decide +kernel, rfl⟩
theorem dX9_buys_49 : xj cX9_buys 49 (.if_icmp .eq) 52 60 := ⟨11, by decide +kernel, rfl, by decide⟩
theorem dX9_buys_52 : xd cX9_buys 52 (.iload_n 3) 1 53 := ⟨by decide +kernel, rfl⟩
theorem dX9_buys_53 : xd cX9_buys 53 (.iload_n 2) 1 54 := ⟨by decide +kernel, rfl⟩
theorem dX9_buys_54 : xd cX9_buys 54 .iadd 1 55 := ⟨by decide +kernel, rfl⟩
theorem dX9_buys_55 : xd cX9_buys 55 (.ldc 203) 2 57 := ⟨by decide +kernel, rfl⟩
theorem dX9_buys_57 : xj cX9_buys 57 (.if_icmp .le) 60 67 := ⟨10, by decide +kernel, rfl, by decide⟩
theorem dX9_buys_60 : xd cX9_buys 60 (.aload_n 0) 1 61 := ⟨by decide +kernel, rfl⟩
theorem dX9_buys_61 : xd cX9_buys 61 (.ldc 104) 2 63 := ⟨by decide +kernel, rfl⟩
theorem dX9_buys_63 : xd cX9_buys 63 (.invokevirtual 88) 3 66 := ⟨by decide +kernel, rfl⟩
theorem dX9_buys_66 : xd cX9_buys 66 .ireturn 1 67 := ⟨by decide +kernel, rfl⟩
theorem dX9_buys_67 : xd cX9_buys 67 (.aload_n 0) 1 68 := ⟨by decide +kernel, rfl⟩
theorem dX9_buys_68 : xd cX9_buys 68 (.getfield 7) 3 71 := ⟨by decide +kernel, rfl⟩
theorem dX9_buys_71 : xd cX9_buys 71 (.iconst 5) 1 72 := ⟨by decide +kernel, rfl⟩
theorem dX9_buys_72 : xd cX9_buys 72 .dup2 1 73 := ⟨by decide +kernel, rfl⟩
theorem dX9_buys_73 : xd cX9_buys 73 .iaload 1 74 := ⟨by decide +kernel, rfl⟩
theorem dX9_buys_74 : xd cX9_buys 74 (.iload_n 3) 1 75 := ⟨by decide +kernel, rfl⟩
theorem dX9_buys_75 : xj cX9_buys 75 (.ifCond .ne) 78 82 := ⟨7, by decide +kernel, rfl, by decide⟩
theorem dX9_buys_78 : xd cX9_buys 78 (.iconst 1) 1 79 := ⟨by decide +kernel, rfl⟩
theorem dX9_buys_79 : xj cX9_buys 79 .goto 82 83 := ⟨4, by decide +kernel, rfl, by decide⟩
theorem dX9_buys_82 : xd cX9_buys 82 (.iconst 0) 1 83 := ⟨by decide +kernel, rfl⟩
theorem dX9_buys_83 : xd cX9_buys 83 .iadd 1 84 := ⟨by decide +kernel, rfl⟩
theorem dX9_buys_84 : xd cX9_buys 84 .iastore 1 85 := ⟨by decide +kernel, rfl⟩
theorem dX9_buys_85 : xd cX9_buys 85 (.aload_n 0) 1 86 := ⟨by decide +kernel, rfl⟩
theorem dX9_buys_86 : xd cX9_buys 86 (.getfield 7) 3 89 := ⟨by decide +kernel, rfl⟩
theorem dX9_buys_89 : xd cX9_buys 89 (.sipush 424) 3 92 := ⟨by decide +kernel, rfl⟩
theorem dX9_buys_92 : xd cX9_buys 92 (.iload_n 1) 1 93 := ⟨by decide +kernel, rfl⟩
theorem dX9_buys_93 : xd cX9_buys 93 .iadd 1 94 := ⟨by decide +kernel, rfl⟩
theorem dX9_buys_94 : xd cX9_buys 94 (.iload_n 3) 1 95 := ⟨by decide +kernel, rfl⟩
theorem dX9_buys_95 : xd cX9_buys 95 (.iload_n 2) 1 96 := ⟨by decide +kernel, rfl⟩
theorem dX9_buys_96 : xd cX9_buys 96 .iadd 1 97 := ⟨by decide +kernel, rfl⟩
theorem dX9_buys_97 : xd cX9_buys 97 .iastore 1 98 := ⟨by decide +kernel, rfl⟩
theorem dX9_buys_98 : xd cX9_buys 98 (.aload_n 0) 1 99 := ⟨by decide +kernel, rfl⟩
theorem dX9_buys_99 : xd cX9_buys 99 (.iconst 1) 1 100 := ⟨by decide +kernel, rfl⟩
theorem dX9_buys_100 : xd cX9_buys 100 (.putfield 44) 3 103 := ⟨by decide +kernel, rfl⟩
theorem dX9_buys_103 : xd cX9_buys 103 (.iload_n 3) 1 104 := ⟨by decide +kernel, rfl⟩
theorem dX9_buys_104 : xd cX9_buys 104 (.iload_n 2) 1 105 := ⟨by decide +kernel, rfl⟩
theorem dX9_buys_105 : xd cX9_buys 105 .iadd 1 106 := ⟨by decide +kernel, rfl⟩
theorem dX9_buys_106 : xd cX9_buys 106 .ireturn 1 107 := ⟨by decide +kernel, rfl⟩

set_option maxRecDepth 100000 in
set_option maxHeartbeats 4000000 in
theorem ct_nbuys_b (l : Launch) (g : XG) (aN aNs aNk aNf aNr aNp aNb aNa aNt aNbo aNsz aNnu aNl aNal aNlo aNw aNtr aNis aNbg aNow nts nta nop npr nac : Nat) (nkp nbd ntp nnw nsn nwn : Int32) (fi : Nat → Nat) (pl nn : Int32) (gr wk lk sz br : Nat) (z : Int32) (ru ki ma bb hd : Nat → Nat) (ce : Nat → Int32) (hb : wI pl 0 494 = 0 ∨ wI nn 1 9999 = 0) : Ct l g 34 0 0 yX9_buys cX9_buys 4 (some .int) [.ref aN, .int pl, .int nn] [(aN, .inr (9, [.ref aNs, .ref aNk, .int nkp, .ref aNf, .ref aNr, .ref aNp, .ref aNb, .ref aNa, .ref aNt, .int (nI nts), .ref aNbo, .ref aNsz, .ref aNnu, .int (nI nta), .int (nI nop), .int nbd, .int ntp, .int (nI npr), .int nnw, .int nsn, .int nwn, .ref aNl, .ref aNal, .ref aNlo, .int (nI nac), .ref aNw, .ref aNtr, .ref aNis, .ref aNbg, .ref aNow])), (aNf, .inl (g.2.1 0, 8, .inl (nIf (fnF fi)))), (aNs, .inl (g.2.1 0, 919, .inl (msF gr wk z lk sz br ru ki ma bb ce hd)))] (xpi (fndI 0) [(aN, .inr (9, [.ref aNs, .ref aNk, .int nkp, .ref aNf, .ref aNr, .ref aNp, .ref aNb, .ref aNa, .ref aNt, .int (nI nts), .ref aNbo, .ref aNsz, .ref aNnu, .int (nI nta), .int (nI nop), .int nbd, .int ntp, .int (nI npr), .int nnw, .int nsn, .int nwn, .ref aNl, .ref aNal, .ref aNlo, .int (nI nac), .ref aNw, .ref aNtr, .ref aNis, .ref aNbg, .ref aNow])), (aNf, .inl (g.2.1 0, 8, .inl (nIf (fnF (updN fi 0 (fi 0 + 1)))))), (aNs, .inl (g.2.1 0, 919, .inl (msF gr wk z lk sz br ru ki ma bb ce hd)))]) := by
  refine Ct.ofX (lv := [some (.ref aN), some (.int pl), some (.int nn), none]) (by decide) rfl (Nat.le_of_ble_eq_true rfl) (fun κ => ?_)
  generalize hQ : xQ κ g 0 0 _ = Q
  refine x_iload_n dX9_buys_0 rfl ?_
  refine x_cSi dX9_buys_1 ml_X9_92 mX9_isPlace (ct_X9_isPlace κ.2.1 g pl) rfl (Nat.le_of_ble_eq_true rfl) (by decide) (Nat.le_refl _) (Nat.le_refl _) ?_
  refine x_if_eq dX9_buys_4 (fun c4 => ?_) (fun c4 => ?_)
  · have c4 : (wI pl 0 494) = 0 := c4
    refine x_aload_n dX9_buys_19 rfl ?_
    refine x_ldc dX9_buys_20 k_X9_87 ?_
    refine x_cVi (ws' := [(aN, .inr (9, [.ref aNs, .ref aNk, .int nkp, .ref aNf, .ref aNr, .ref aNp, .ref aNb, .ref aNa, .ref aNt, .int (nI nts), .ref aNbo, .ref aNsz, .ref aNnu, .int (nI nta), .int (nI nop), .int nbd, .int ntp, .int (nI npr), .int nnw, .int nsn, .int nwn, .ref aNl, .ref aNal, .ref aNlo, .int (nI nac), .ref aNw, .ref aNtr, .ref aNis, .ref aNbg, .ref aNow])), (aNf, .inl (g.2.1 0, 8, .inl (nIf (fnF (updN fi 0 (fi 0 + 1)))))), (aNs, .inl (g.2.1 0, 919, .inl (msF gr wk z lk sz br ru ki ma bb ce hd)))]) dX9_buys_22 ml_X9_88 mX9_finds (ct_finds_0 κ.2.1 g aN aNs aNk aNf aNr aNp aNb aNa aNt aNbo aNsz aNnu aNl aNal aNlo aNw aNtr aNis aNbg aNow nts nta nop npr nac nkp nbd ntp nnw nsn nwn fi) [0, 1] rfl rfl 0 rfl rfl rfl (Nat.le_of_ble_eq_true rfl) (by decide) (Nat.le_refl _) (Nat.le_refl _) (rfl : [aN, aNf] = [aN, aNf]) rfl ?_
    rw [← hQ]
    refine x_iret dX9_buys_25 rfl (Nat.le_of_ble_eq_true rfl) (Nat.le_of_ble_eq_true rfl) ?_
    exact ⟨rfl, rfl⟩
  · have c4 : ¬ ((wI pl 0 494) = 0) := c4
    refine x_iload_n dX9_buys_7 rfl ?_
    refine x_i2l dX9_buys_8 ?_
    refine x_lconst 1 dX9_buys_9 (by decide) ?_
    refine x_ldc2 dX9_buys_10 kl_X9_201 ?_
    refine x_cSi dX9_buys_13 ml_X9_98 mX9_isIn (ct_X9_isIn κ.2.1 g nn.toInt64 1 9999) rfl (Nat.le_of_ble_eq_true rfl) (by decide) (Nat.le_refl _) (Nat.le_refl _) ?_
    refine x_rei (wI nn 1 9999) (inL_w nn 1 9999 (by first | rfl | decide) (by first | rfl | decide)) ?_
    refine x_if_ne dX9_buys_16 (fun c16 => ?_) (fun c16 => ?_)
    · have c16 : ¬ ((wI nn 1 9999) = 0) := c16
      exact absurd (hb.resolve_left c4) c16
    · have c16 : (wI nn 1 9999) = 0 := c16
      refine x_aload_n dX9_buys_19 rfl ?_
      refine x_ldc dX9_buys_20 k_X9_87 ?_
      refine x_cVi (ws' := [(aN, .inr (9, [.ref aNs, .ref aNk, .int nkp, .ref aNf, .ref aNr, .ref aNp, .ref aNb, .ref aNa, .ref aNt, .int (nI nts), .ref aNbo, .ref aNsz, .ref aNnu, .int (nI nta), .int (nI nop), .int nbd, .int ntp, .int (nI npr), .int nnw, .int nsn, .int nwn, .ref aNl, .ref aNal, .ref aNlo, .int (nI nac), .ref aNw, .ref aNtr, .ref aNis, .ref aNbg, .ref aNow])), (aNf, .inl (g.2.1 0, 8, .inl (nIf (fnF (updN fi 0 (fi 0 + 1)))))), (aNs, .inl (g.2.1 0, 919, .inl (msF gr wk z lk sz br ru ki ma bb ce hd)))]) dX9_buys_22 ml_X9_88 mX9_finds (ct_finds_0 κ.2.1 g aN aNs aNk aNf aNr aNp aNb aNa aNt aNbo aNsz aNnu aNl aNal aNlo aNw aNtr aNis aNbg aNow nts nta nop npr nac nkp nbd ntp nnw nsn nwn fi) [0, 1] rfl rfl 0 rfl rfl rfl (Nat.le_of_ble_eq_true rfl) (by decide) (Nat.le_refl _) (Nat.le_refl _) (rfl : [aN, aNf] = [aN, aNf]) rfl ?_
      rw [← hQ]
      refine x_iret dX9_buys_25 rfl (Nat.le_of_ble_eq_true rfl) (Nat.le_of_ble_eq_true rfl) ?_
      exact ⟨rfl, rfl⟩

-- == nbuys_f ==
set_option maxRecDepth 100000 in
set_option maxHeartbeats 4000000 in
theorem ct_nbuys_f (l : Launch) (g : XG) (aN aNs aNk aNf aNr aNp aNb aNa aNt aNbo aNsz aNnu aNl aNal aNlo aNw aNtr aNis aNbg aNow nts nta nop npr nac : Nat) (nkp nbd ntp nnw nsn nwn : Int32) (fi : Nat → Nat) (gr wk lk sz br : Nat) (z : Int32) (ru ki ma bb hd : Nat → Nat) (ce : Nat → Int32) (p n : Nat) (hp : p < 495) (hn : 1 ≤ n ∧ n ≤ 9999) (hbr : br ≤ 40) (hhd : ∀ j, hd j ≤ 99999) (hf : (hd p = 0 ∧ br = 40) ∨ 99999 < hd p + n) : Ct l g 34 0 0 yX9_buys cX9_buys 4 (some .int) [.ref aN, .int (nI p), .int (nI n)] [(aN, .inr (9, [.ref aNs, .ref aNk, .int nkp, .ref aNf, .ref aNr, .ref aNp, .ref aNb, .ref aNa, .ref aNt, .int (nI nts), .ref aNbo, .ref aNsz, .ref aNnu, .int (nI nta), .int (nI nop), .int nbd, .int ntp, .int (nI npr), .int nnw, .int nsn, .int nwn, .ref aNl, .ref aNal, .ref aNlo, .int (nI nac), .ref aNw, .ref aNtr, .ref aNis, .ref aNbg, .ref aNow])), (aNf, .inl (g.2.1 0, 8, .inl (nIf (fnF fi)))), (aNs, .inl (g.2.1 0, 919, .inl (msF gr wk z lk sz br ru ki ma bb ce hd)))] (xpi (fndI 1) [(aN, .inr (9, [.ref aNs, .ref aNk, .int nkp, .ref aNf, .ref aNr, .ref aNp, .ref aNb, .ref aNa, .ref aNt, .int (nI nts), .ref aNbo, .ref aNsz, .ref aNnu, .int (nI nta), .int (nI nop), .int nbd, .int ntp, .int (nI npr), .int nnw, .int nsn, .int nwn, .ref aNl, .ref aNal, .ref aNlo, .int (nI nac), .ref aNw, .ref aNtr, .ref aNis, .ref aNbg, .ref aNow])), (aNf, .inl (g.2.1 0, 8, .inl (nIf (fnF (updN fi 1 (fi 1 + 1)))))), (aNs, .inl (g.2.1 0, 919, .inl (msF gr wk z lk sz br ru ki ma bb ce hd)))]) := by
  refine Ct.ofX (lv := [some (.ref aN), some (.int (nI p)), some (.int (nI n)), none]) (by decide) rfl (Nat.le_of_ble_eq_true rfl) (fun κ => ?_)
  generalize hQ : xQ κ g 0 0 _ = Q
  have hhp := hhd p
  refine x_iload_n dX9_buys_0 rfl ?_
  refine x_cSi dX9_buys_1 ml_X9_92 mX9_isPlace (ct_nPlace_n κ.2.1 g p (hp)) rfl (Nat.le_of_ble_eq_true rfl) (by decide) (Nat.le_refl _) (Nat.le_refl _) ?_
  refine x_if_eq dX9_buys_4 (fun c4 => ?_) (fun c4 => ?_)
  · exact absurd c4 (by decide)
  refine x_iload_n dX9_buys_7 rfl ?_
  refine x_i2l dX9_buys_8 ?_
  refine x_lconst 1 dX9_buys_9 (by decide) ?_
  refine x_ldc2 dX9_buys_10 kl_X9_201 ?_
  refine x_cSi dX9_buys_13 ml_X9_98 mX9_isIn (ct_X9_isIn κ.2.1 g ((nI n).toInt64) 1 9999) rfl (Nat.le_of_ble_eq_true rfl) (by decide) (Nat.le_refl _) (Nat.le_refl _) ?_
  refine x_rei (wI (nI n) 1 9999) (inL_w (nI n) 1 9999 (by first | rfl | decide) (by first | rfl | decide)) ?_
  refine x_rei 1 (show wI (nI n) 1 9999 = 1 from wI_nat (n := n) (a := 1) (b := 9999) ⟨by omega, by omega, by omega, by omega⟩) ?_
  refine x_if_ne dX9_buys_16 (fun c16 => ?_) (fun c16 => ?_)
  rotate_left
  · exact absurd c16 (by decide)
  refine x_aload_n dX9_buys_26 rfl ?_
  refine x_get dX9_buys_27 0 0 inX9 fl_X9_7 rfl rfl (by decide) rfl ?_
  refine x_sipush 424 dX9_buys_30 (by decide) ?_
  refine x_iload_n dX9_buys_33 rfl ?_
  refine x_iadd dX9_buys_34 ?_
  refine x_rei (nI (424 + p)) (nI_iadd 424 p) ?_
  refine x_iald dX9_buys_35 2 (424 + p) rfl (rfl) (by omega) (by decide) ?_
  refine x_rei (nI (hd p)) (msg_hd (x := p) (by omega)) ?_
  refine x_istore_n (lv' := [some (.ref aN), some (.int (nI p)), some (.int (nI n)), some (.int (nI (hd p)))]) dX9_buys_36 (xlt rfl) rfl ?_
  refine x_iload_n dX9_buys_37 rfl ?_
  refine x_if_ne dX9_buys_38 (fun c38 => ?_) (fun c38 => ?_)
  · have c38 : ¬ ((nI (hd p)) = 0) := c38
    have c38n := mt (nI_eq (a := (hd p)) (b := 0) (by omega) (by omega)).mpr c38
    refine x_iload_n dX9_buys_52 rfl ?_
    refine x_iload_n dX9_buys_53 rfl ?_
    refine x_iadd dX9_buys_54 ?_
    refine x_rei (nI (hd p + n)) (nI_iadd (hd p) n) ?_
    refine x_ldc dX9_buys_55 k_X9_203 ?_
    refine x_icmp_le dX9_buys_57 (fun c57 => ?_) (fun c57 => ?_)
    · have c57 : (nI (hd p + n)) ≤ 99999 := c57
      have c57n := (nI_leI (a := (hd p + n)) (b := 99999) (by omega) (by omega)).mp c57
      exact absurd c57n (by omega)
    · have c57 : ¬ ((nI (hd p + n)) ≤ 99999) := c57
      have c57n := mt (nI_leI (a := (hd p + n)) (b := 99999) (by omega) (by omega)).mpr c57
      refine x_aload_n dX9_buys_60 rfl ?_
      refine x_ldc dX9_buys_61 k_X9_104 ?_
      refine x_cVi (ws' := [(aN, .inr (9, [.ref aNs, .ref aNk, .int nkp, .ref aNf, .ref aNr, .ref aNp, .ref aNb, .ref aNa, .ref aNt, .int (nI nts), .ref aNbo, .ref aNsz, .ref aNnu, .int (nI nta), .int (nI nop), .int nbd, .int ntp, .int (nI npr), .int nnw, .int nsn, .int nwn, .ref aNl, .ref aNal, .ref aNlo, .int (nI nac), .ref aNw, .ref aNtr, .ref aNis, .ref aNbg, .ref aNow])), (aNf, .inl (g.2.1 0, 8, .inl (nIf (fnF (updN fi 1 (fi 1 + 1)))))), (aNs, .inl (g.2.1 0, 919, .inl (msF gr wk z lk sz br ru ki ma bb ce hd)))]) dX9_buys_63 ml_X9_88 mX9_finds (ct_finds_1 κ.2.1 g aN aNs aNk aNf aNr aNp aNb aNa aNt aNbo aNsz aNnu aNl aNal aNlo aNw aNtr aNis aNbg aNow nts nta nop npr nac nkp nbd ntp nnw nsn nwn fi) [0, 1] rfl rfl 0 rfl rfl rfl (Nat.le_of_ble_eq_true rfl) (by decide) (Nat.le_refl _) (Nat.le_refl _) (rfl : [aN, aNf] = [aN, aNf]) rfl ?_
      rw [← hQ]
      refine x_iret dX9_buys_66 rfl (Nat.le_of_ble_eq_true rfl) (Nat.le_of_ble_eq_true rfl) ?_
      exact ⟨rfl, rfl⟩
  · have c38 : (nI (hd p)) = 0 := c38
    have c38n := (nI_eq (a := (hd p)) (b := 0) (by omega) (by omega)).mp c38
    refine x_aload_n dX9_buys_41 rfl ?_
    refine x_get dX9_buys_42 0 0 inX9 fl_X9_7 rfl rfl (by decide) rfl ?_
    refine x_iconst 5 dX9_buys_45 (by decide) ?_
    refine x_iald dX9_buys_46 2 5 rfl (rfl) (by decide) (by decide) ?_
    refine x_rei (nI br) (rfl) ?_
    refine x_bipush 40 dX9_buys_47 (by decide) ?_
    refine x_icmp_eq dX9_buys_49 (fun c49 => ?_) (fun c49 => ?_)
    · have c49 : (nI br) = 40 := c49
      have c49n := (nI_eq (a := br) (b := 40) (by omega) (by omega)).mp c49
      refine x_aload_n dX9_buys_60 rfl ?_
      refine x_ldc dX9_buys_61 k_X9_104 ?_
      refine x_cVi (ws' := [(aN, .inr (9, [.ref aNs, .ref aNk, .int nkp, .ref aNf, .ref aNr, .ref aNp, .ref aNb, .ref aNa, .ref aNt, .int (nI nts), .ref aNbo, .ref aNsz, .ref aNnu, .int (nI nta), .int (nI nop), .int nbd, .int ntp, .int (nI npr), .int nnw, .int nsn, .int nwn, .ref aNl, .ref aNal, .ref aNlo, .int (nI nac), .ref aNw, .ref aNtr, .ref aNis, .ref aNbg, .ref aNow])), (aNf, .inl (g.2.1 0, 8, .inl (nIf (fnF (updN fi 1 (fi 1 + 1)))))), (aNs, .inl (g.2.1 0, 919, .inl (msF gr wk z lk sz br ru ki ma bb ce hd)))]) dX9_buys_63 ml_X9_88 mX9_finds (ct_finds_1 κ.2.1 g aN aNs aNk aNf aNr aNp aNb aNa aNt aNbo aNsz aNnu aNl aNal aNlo aNw aNtr aNis aNbg aNow nts nta nop npr nac nkp nbd ntp nnw nsn nwn fi) [0, 1] rfl rfl 0 rfl rfl rfl (Nat.le_of_ble_eq_true rfl) (by decide) (Nat.le_refl _) (Nat.le_refl _) (rfl : [aN, aNf] = [aN, aNf]) rfl ?_
      rw [← hQ]
      refine x_iret dX9_buys_66 rfl (Nat.le_of_ble_eq_true rfl) (Nat.le_of_ble_eq_true rfl) ?_
      exact ⟨rfl, rfl⟩
    · have c49 : ¬ ((nI br) = 40) := c49
      have c49n := mt (nI_eq (a := br) (b := 40) (by omega) (by omega)).mpr c49
      refine x_iload_n dX9_buys_52 rfl ?_
      refine x_iload_n dX9_buys_53 rfl ?_
      refine x_iadd dX9_buys_54 ?_
      refine x_rei (nI (hd p + n)) (nI_iadd (hd p) n) ?_
      refine x_ldc dX9_buys_55 k_X9_203 ?_
      refine x_icmp_le dX9_buys_57 (fun c57 => ?_) (fun c57 => ?_)
      · have c57 : (nI (hd p + n)) ≤ 99999 := c57
        have c57n := (nI_leI (a := (hd p + n)) (b := 99999) (by omega) (by omega)).mp c57
        exact absurd c57n (by omega)
      · have c57 : ¬ ((nI (hd p + n)) ≤ 99999) := c57
        have c57n := mt (nI_leI (a := (hd p + n)) (b := 99999) (by omega) (by omega)).mpr c57
        refine x_aload_n dX9_buys_60 rfl ?_
        refine x_ldc dX9_buys_61 k_X9_104 ?_
        refine x_cVi (ws' := [(aN, .inr (9, [.ref aNs, .ref aNk, .int nkp, .ref aNf, .ref aNr, .ref aNp, .ref aNb, .ref aNa, .ref aNt, .int (nI nts), .ref aNbo, .ref aNsz, .ref aNnu, .int (nI nta), .int (nI nop), .int nbd, .int ntp, .int (nI npr), .int nnw, .int nsn, .int nwn, .ref aNl, .ref aNal, .ref aNlo, .int (nI nac), .ref aNw, .ref aNtr, .ref aNis, .ref aNbg, .ref aNow])), (aNf, .inl (g.2.1 0, 8, .inl (nIf (fnF (updN fi 1 (fi 1 + 1)))))), (aNs, .inl (g.2.1 0, 919, .inl (msF gr wk z lk sz br ru ki ma bb ce hd)))]) dX9_buys_63 ml_X9_88 mX9_finds (ct_finds_1 κ.2.1 g aN aNs aNk aNf aNr aNp aNb aNa aNt aNbo aNsz aNnu aNl aNal aNlo aNw aNtr aNis aNbg aNow nts nta nop npr nac nkp nbd ntp nnw nsn nwn fi) [0, 1] rfl rfl 0 rfl rfl rfl (Nat.le_of_ble_eq_true rfl) (by decide) (Nat.le_refl _) (Nat.le_refl _) (rfl : [aN, aNf] = [aN, aNf]) rfl ?_
        rw [← hQ]
        refine x_iret dX9_buys_66 rfl (Nat.le_of_ble_eq_true rfl) (Nat.le_of_ble_eq_true rfl) ?_
        exact ⟨rfl, rfl⟩

-- == nbuys_o ==
set_option maxRecDepth 100000 in
set_option maxHeartbeats 4000000 in
theorem ct_nbuys_o (l : Launch) (g : XG) (aN aNs aNk aNf aNr aNp aNb aNa aNt aNbo aNsz aNnu aNl aNal aNlo aNw aNtr aNis aNbg aNow nts nta nop npr nac : Nat) (nkp nbd ntp nnw nsn nwn : Int32) (fi : Nat → Nat) (gr wk lk sz br : Nat) (z : Int32) (ru ki ma bb hd : Nat → Nat) (ce : Nat → Int32) (p n : Nat) (hp : p < 495) (hn : 1 ≤ n ∧ n ≤ 9999) (hbr : br ≤ 40) (hhd : ∀ j, hd j ≤ 99999) (h0 : 0 < hd p) (hf : hd p + n ≤ 99999) : Ct l g 34 0 0 yX9_buys cX9_buys 4 (some .int) [.ref aN, .int (nI p), .int (nI n)] [(aN, .inr (9, [.ref aNs, .ref aNk, .int nkp, .ref aNf, .ref aNr, .ref aNp, .ref aNb, .ref aNa, .ref aNt, .int (nI nts), .ref aNbo, .ref aNsz, .ref aNnu, .int (nI nta), .int (nI nop), .int nbd, .int ntp, .int (nI npr), .int nnw, .int nsn, .int nwn, .ref aNl, .ref aNal, .ref aNlo, .int (nI nac), .ref aNw, .ref aNtr, .ref aNis, .ref aNbg, .ref aNow])), (aNf, .inl (g.2.1 0, 8, .inl (nIf (fnF fi)))), (aNs, .inl (g.2.1 0, 919, .inl (msF gr wk z lk sz br ru ki ma bb ce hd)))] (xpi (nI (hd p + n)) [(aN, .inr (9, [.ref aNs, .ref aNk, .int nkp, .ref aNf, .ref aNr, .ref aNp, .ref aNb, .ref aNa, .ref aNt, .int (nI nts), .ref aNbo, .ref aNsz, .ref aNnu, .int (nI nta), .int (nI nop), .int nbd, .int ntp, .int (nI npr), .int 1, .int nsn, .int nwn, .ref aNl, .ref aNal, .ref aNlo, .int (nI nac), .ref aNw, .ref aNtr, .ref aNis, .ref aNbg, .ref aNow])), (aNf, .inl (g.2.1 0, 8, .inl (nIf (fnF fi)))), (aNs, .inl (g.2.1 0, 919, .inl (msF gr wk z lk sz br ru ki ma bb ce (updN hd p (hd p + n)))))]) := by
  refine Ct.ofX (lv := [some (.ref aN), some (.int (nI p)), some (.int (nI n)), none]) (by decide) rfl (Nat.le_of_ble_eq_true rfl) (fun κ => ?_)
  generalize hQ : xQ κ g 0 0 _ = Q
  refine x_iload_n dX9_buys_0 rfl ?_
  refine x_cSi dX9_buys_1 ml_X9_92 mX9_isPlace (ct_nPlace_n κ.2.1 g p (hp)) rfl (Nat.le_of_ble_eq_true rfl) (by decide) (Nat.le_refl _) (Nat.le_refl _) ?_
  refine x_if_eq dX9_buys_4 (fun c4 => ?_) (fun c4 => ?_)
  · exact absurd c4 (by decide)
  refine x_iload_n dX9_buys_7 rfl ?_
  refine x_i2l dX9_buys_8 ?_
  refine x_lconst 1 dX9_buys_9 (by decide) ?_
  refine x_ldc2 dX9_buys_10 kl_X9_201 ?_
  refine x_cSi dX9_buys_13 ml_X9_98 mX9_isIn (ct_X9_isIn κ.2.1 g ((nI n).toInt64) 1 9999) rfl (Nat.le_of_ble_eq_true rfl) (by decide) (Nat.le_refl _) (Nat.le_refl _) ?_
  refine x_rei (wI (nI n) 1 9999) (inL_w (nI n) 1 9999 (by first | rfl | decide) (by first | rfl | decide)) ?_
  refine x_rei 1 (show wI (nI n) 1 9999 = 1 from wI_nat (n := n) (a := 1) (b := 9999) ⟨by omega, by omega, by omega, by omega⟩) ?_
  refine x_if_ne dX9_buys_16 (fun c16 => ?_) (fun c16 => ?_)
  rotate_left
  · exact absurd c16 (by decide)
  refine x_aload_n dX9_buys_26 rfl ?_
  refine x_get dX9_buys_27 0 0 inX9 fl_X9_7 rfl rfl (by decide) rfl ?_
  refine x_sipush 424 dX9_buys_30 (by decide) ?_
  refine x_iload_n dX9_buys_33 rfl ?_
  refine x_iadd dX9_buys_34 ?_
  refine x_rei (nI (424 + p)) (nI_iadd 424 p) ?_
  refine x_iald dX9_buys_35 2 (424 + p) rfl (rfl) (by omega) (by decide) ?_
  refine x_rei (nI (hd p)) (msg_hd (x := p) (by omega)) ?_
  refine x_istore_n (lv' := [some (.ref aN), some (.int (nI p)), some (.int (nI n)), some (.int (nI (hd p)))]) dX9_buys_36 (xlt rfl) rfl ?_
  refine x_iload_n dX9_buys_37 rfl ?_
  refine x_if_ne dX9_buys_38 (fun c38 => ?_) (fun c38 => ?_)
  · have c38 : ¬ ((nI (hd p)) = 0) := c38
    have c38n := mt (nI_eq (a := (hd p)) (b := 0) (by omega) (by omega)).mpr c38
    refine x_iload_n dX9_buys_52 rfl ?_
    refine x_iload_n dX9_buys_53 rfl ?_
    refine x_iadd dX9_buys_54 ?_
    refine x_rei (nI (hd p + n)) (nI_iadd (hd p) n) ?_
    refine x_ldc dX9_buys_55 k_X9_203 ?_
    refine x_icmp_le dX9_buys_57 (fun c57 => ?_) (fun c57 => ?_)
    · have c57 : (nI (hd p + n)) ≤ 99999 := c57
      have c57n := (nI_leI (a := (hd p + n)) (b := 99999) (by omega) (by omega)).mp c57
      refine x_aload_n dX9_buys_67 rfl ?_
      refine x_get dX9_buys_68 0 0 inX9 fl_X9_7 rfl rfl (by decide) rfl ?_
      refine x_iconst 5 dX9_buys_71 (by decide) ?_
      refine x_dup2 dX9_buys_72 rfl rfl ?_
      refine x_iald dX9_buys_73 2 5 rfl (rfl) (by decide) (by decide) ?_
      refine x_rei (nI br) (rfl) ?_
      refine x_iload_n dX9_buys_74 rfl ?_
      refine x_if_ne dX9_buys_75 (fun c75 => ?_) (fun c75 => ?_)
      · have c75 : ¬ ((nI (hd p)) = 0) := c75
        have c75n := mt (nI_eq (a := (hd p)) (b := 0) (by omega) (by omega)).mpr c75
        refine x_iconst 0 dX9_buys_82 (by decide) ?_
        refine x_iadd dX9_buys_83 ?_
        refine x_rei (nI (br + 0)) (nI_addc br 0 rfl) ?_
        refine x_iast (ws' := [(aN, .inr (9, [.ref aNs, .ref aNk, .int nkp, .ref aNf, .ref aNr, .ref aNp, .ref aNb, .ref aNa, .ref aNt, .int (nI nts), .ref aNbo, .ref aNsz, .ref aNnu, .int (nI nta), .int (nI nop), .int nbd, .int ntp, .int (nI npr), .int nnw, .int nsn, .int nwn, .ref aNl, .ref aNal, .ref aNlo, .int (nI nac), .ref aNw, .ref aNtr, .ref aNis, .ref aNbg, .ref aNow])), (aNf, .inl (g.2.1 0, 8, .inl (nIf (fnF fi)))), (aNs, .inl (g.2.1 0, 919, .inl (msF gr wk z lk sz (br + 0) ru ki ma bb ce hd)))]) dX9_buys_84 2 5 rfl (rfl) (by decide) (by decide) (by rw [mss_5]; rfl) ?_
        refine x_aload_n dX9_buys_85 rfl ?_
        refine x_get dX9_buys_86 0 0 inX9 fl_X9_7 rfl rfl (by decide) rfl ?_
        refine x_sipush 424 dX9_buys_89 (by decide) ?_
        refine x_iload_n dX9_buys_92 rfl ?_
        refine x_iadd dX9_buys_93 ?_
        refine x_rei (nI (424 + p)) (nI_iadd 424 p) ?_
        refine x_iload_n dX9_buys_94 rfl ?_
        refine x_iload_n dX9_buys_95 rfl ?_
        refine x_iadd dX9_buys_96 ?_
        refine x_rei (nI (hd p + n)) (nI_iadd (hd p) n) ?_
        refine x_iast (ws' := [(aN, .inr (9, [.ref aNs, .ref aNk, .int nkp, .ref aNf, .ref aNr, .ref aNp, .ref aNb, .ref aNa, .ref aNt, .int (nI nts), .ref aNbo, .ref aNsz, .ref aNnu, .int (nI nta), .int (nI nop), .int nbd, .int ntp, .int (nI npr), .int nnw, .int nsn, .int nwn, .ref aNl, .ref aNal, .ref aNlo, .int (nI nac), .ref aNw, .ref aNtr, .ref aNis, .ref aNbg, .ref aNow])), (aNf, .inl (g.2.1 0, 8, .inl (nIf (fnF fi)))), (aNs, .inl (g.2.1 0, 919, .inl (msF gr wk z lk sz (br + 0) ru ki ma bb ce (updN hd p (hd p + n)))))]) dX9_buys_97 2 (424 + p) rfl (rfl) (by omega) (by decide) (by rw [mss_hd (x := p) (by omega)]; rfl) ?_
        refine x_aload_n dX9_buys_98 rfl ?_
        refine x_iconst 1 dX9_buys_99 (by decide) ?_
        refine x_put (ws' := [(aN, .inr (9, [.ref aNs, .ref aNk, .int nkp, .ref aNf, .ref aNr, .ref aNp, .ref aNb, .ref aNa, .ref aNt, .int (nI nts), .ref aNbo, .ref aNsz, .ref aNnu, .int (nI nta), .int (nI nop), .int nbd, .int ntp, .int (nI npr), .int 1, .int nsn, .int nwn, .ref aNl, .ref aNal, .ref aNlo, .int (nI nac), .ref aNw, .ref aNtr, .ref aNis, .ref aNbg, .ref aNow])), (aNf, .inl (g.2.1 0, 8, .inl (nIf (fnF fi)))), (aNs, .inl (g.2.1 0, 919, .inl (msF gr wk z lk sz (br + 0) ru ki ma bb ce (updN hd p (hd p + n)))))]) dX9_buys_100 0 18 inX9 tyX9_ok nmX9 fl_X9_44 rfl rfl (by decide) rfl (rfl) rfl (xlt rfl) rfl ?_
        refine x_iload_n dX9_buys_103 rfl ?_
        refine x_iload_n dX9_buys_104 rfl ?_
        refine x_iadd dX9_buys_105 ?_
        refine x_rei (nI (hd p + n)) (nI_iadd (hd p) n) ?_
        rw [← hQ]
        refine x_iret dX9_buys_106 rfl (Nat.le_of_ble_eq_true rfl) (Nat.le_of_ble_eq_true rfl) ?_
        exact ⟨rfl, rfl⟩
      · have c75 : (nI (hd p)) = 0 := c75
        have c75n := (nI_eq (a := (hd p)) (b := 0) (by omega) (by omega)).mp c75
        exact absurd c75n (by omega)
    · have c57 : ¬ ((nI (hd p + n)) ≤ 99999) := c57
      have c57n := mt (nI_leI (a := (hd p + n)) (b := 99999) (by omega) (by omega)).mpr c57
      exact absurd c57n (by omega)
  · have c38 : (nI (hd p)) = 0 := c38
    have c38n := (nI_eq (a := (hd p)) (b := 0) (by omega) (by omega)).mp c38
    exact absurd c38n (by omega)

-- == nbuys_n ==
set_option maxRecDepth 100000 in
set_option maxHeartbeats 4000000 in
theorem ct_nbuys_n (l : Launch) (g : XG) (aN aNs aNk aNf aNr aNp aNb aNa aNt aNbo aNsz aNnu aNl aNal aNlo aNw aNtr aNis aNbg aNow nts nta nop npr nac : Nat) (nkp nbd ntp nnw nsn nwn : Int32) (fi : Nat → Nat) (gr wk lk sz br : Nat) (z : Int32) (ru ki ma bb hd : Nat → Nat) (ce : Nat → Int32) (p n : Nat) (hp : p < 495) (hn : 1 ≤ n ∧ n ≤ 9999) (hbr : br ≤ 40) (hhd : ∀ j, hd j ≤ 99999) (h0 : hd p = 0) (hb4 : br < 40) : Ct l g 34 0 0 yX9_buys cX9_buys 4 (some .int) [.ref aN, .int (nI p), .int (nI n)] [(aN, .inr (9, [.ref aNs, .ref aNk, .int nkp, .ref aNf, .ref aNr, .ref aNp, .ref aNb, .ref aNa, .ref aNt, .int (nI nts), .ref aNbo, .ref aNsz, .ref aNnu, .int (nI nta), .int (nI nop), .int nbd, .int ntp, .int (nI npr), .int nnw, .int nsn, .int nwn, .ref aNl, .ref aNal, .ref aNlo, .int (nI nac), .ref aNw, .ref aNtr, .ref aNis, .ref aNbg, .ref aNow])), (aNf, .inl (g.2.1 0, 8, .inl (nIf (fnF fi)))), (aNs, .inl (g.2.1 0, 919, .inl (msF gr wk z lk sz br ru ki ma bb ce hd)))] (xpi (nI (hd p + n)) [(aN, .inr (9, [.ref aNs, .ref aNk, .int nkp, .ref aNf, .ref aNr, .ref aNp, .ref aNb, .ref aNa, .ref aNt, .int (nI nts), .ref aNbo, .ref aNsz, .ref aNnu, .int (nI nta), .int (nI nop), .int nbd, .int ntp, .int (nI npr), .int 1, .int nsn, .int nwn, .ref aNl, .ref aNal, .ref aNlo, .int (nI nac), .ref aNw, .ref aNtr, .ref aNis, .ref aNbg, .ref aNow])), (aNf, .inl (g.2.1 0, 8, .inl (nIf (fnF fi)))), (aNs, .inl (g.2.1 0, 919, .inl (msF gr wk z lk sz (br + 1) ru ki ma bb ce (updN hd p (hd p + n)))))]) := by
  refine Ct.ofX (lv := [some (.ref aN), some (.int (nI p)), some (.int (nI n)), none]) (by decide) rfl (Nat.le_of_ble_eq_true rfl) (fun κ => ?_)
  generalize hQ : xQ κ g 0 0 _ = Q
  refine x_iload_n dX9_buys_0 rfl ?_
  refine x_cSi dX9_buys_1 ml_X9_92 mX9_isPlace (ct_nPlace_n κ.2.1 g p (hp)) rfl (Nat.le_of_ble_eq_true rfl) (by decide) (Nat.le_refl _) (Nat.le_refl _) ?_
  refine x_if_eq dX9_buys_4 (fun c4 => ?_) (fun c4 => ?_)
  · exact absurd c4 (by decide)
  refine x_iload_n dX9_buys_7 rfl ?_
  refine x_i2l dX9_buys_8 ?_
  refine x_lconst 1 dX9_buys_9 (by decide) ?_
  refine x_ldc2 dX9_buys_10 kl_X9_201 ?_
  refine x_cSi dX9_buys_13 ml_X9_98 mX9_isIn (ct_X9_isIn κ.2.1 g ((nI n).toInt64) 1 9999) rfl (Nat.le_of_ble_eq_true rfl) (by decide) (Nat.le_refl _) (Nat.le_refl _) ?_
  refine x_rei (wI (nI n) 1 9999) (inL_w (nI n) 1 9999 (by first | rfl | decide) (by first | rfl | decide)) ?_
  refine x_rei 1 (show wI (nI n) 1 9999 = 1 from wI_nat (n := n) (a := 1) (b := 9999) ⟨by omega, by omega, by omega, by omega⟩) ?_
  refine x_if_ne dX9_buys_16 (fun c16 => ?_) (fun c16 => ?_)
  rotate_left
  · exact absurd c16 (by decide)
  refine x_aload_n dX9_buys_26 rfl ?_
  refine x_get dX9_buys_27 0 0 inX9 fl_X9_7 rfl rfl (by decide) rfl ?_
  refine x_sipush 424 dX9_buys_30 (by decide) ?_
  refine x_iload_n dX9_buys_33 rfl ?_
  refine x_iadd dX9_buys_34 ?_
  refine x_rei (nI (424 + p)) (nI_iadd 424 p) ?_
  refine x_iald dX9_buys_35 2 (424 + p) rfl (rfl) (by omega) (by decide) ?_
  refine x_rei (nI (hd p)) (msg_hd (x := p) (by omega)) ?_
  refine x_istore_n (lv' := [some (.ref aN), some (.int (nI p)), some (.int (nI n)), some (.int (nI (hd p)))]) dX9_buys_36 (xlt rfl) rfl ?_
  refine x_iload_n dX9_buys_37 rfl ?_
  refine x_if_ne dX9_buys_38 (fun c38 => ?_) (fun c38 => ?_)
  · have c38 : ¬ ((nI (hd p)) = 0) := c38
    have c38n := mt (nI_eq (a := (hd p)) (b := 0) (by omega) (by omega)).mpr c38
    exact absurd c38n (by omega)
  · have c38 : (nI (hd p)) = 0 := c38
    have c38n := (nI_eq (a := (hd p)) (b := 0) (by omega) (by omega)).mp c38
    refine x_aload_n dX9_buys_41 rfl ?_
    refine x_get dX9_buys_42 0 0 inX9 fl_X9_7 rfl rfl (by decide) rfl ?_
    refine x_iconst 5 dX9_buys_45 (by decide) ?_
    refine x_iald dX9_buys_46 2 5 rfl (rfl) (by decide) (by decide) ?_
    refine x_rei (nI br) (rfl) ?_
    refine x_bipush 40 dX9_buys_47 (by decide) ?_
    refine x_icmp_eq dX9_buys_49 (fun c49 => ?_) (fun c49 => ?_)
    · have c49 : (nI br) = 40 := c49
      have c49n := (nI_eq (a := br) (b := 40) (by omega) (by omega)).mp c49
      exact absurd c49n (by omega)
    · have c49 : ¬ ((nI br) = 40) := c49
      have c49n := mt (nI_eq (a := br) (b := 40) (by omega) (by omega)).mpr c49
      refine x_iload_n dX9_buys_52 rfl ?_
      refine x_iload_n dX9_buys_53 rfl ?_
      refine x_iadd dX9_buys_54 ?_
      refine x_rei (nI (hd p + n)) (nI_iadd (hd p) n) ?_
      refine x_ldc dX9_buys_55 k_X9_203 ?_
      refine x_icmp_le dX9_buys_57 (fun c57 => ?_) (fun c57 => ?_)
      · have c57 : (nI (hd p + n)) ≤ 99999 := c57
        have c57n := (nI_leI (a := (hd p + n)) (b := 99999) (by omega) (by omega)).mp c57
        refine x_aload_n dX9_buys_67 rfl ?_
        refine x_get dX9_buys_68 0 0 inX9 fl_X9_7 rfl rfl (by decide) rfl ?_
        refine x_iconst 5 dX9_buys_71 (by decide) ?_
        refine x_dup2 dX9_buys_72 rfl rfl ?_
        refine x_iald dX9_buys_73 2 5 rfl (rfl) (by decide) (by decide) ?_
        refine x_rei (nI br) (rfl) ?_
        refine x_iload_n dX9_buys_74 rfl ?_
        refine x_if_ne dX9_buys_75 (fun c75 => ?_) (fun c75 => ?_)
        · have c75 : ¬ ((nI (hd p)) = 0) := c75
          have c75n := mt (nI_eq (a := (hd p)) (b := 0) (by omega) (by omega)).mpr c75
          exact absurd c75n (by omega)
        · have c75 : (nI (hd p)) = 0 := c75
          have c75n := (nI_eq (a := (hd p)) (b := 0) (by omega) (by omega)).mp c75
          refine x_iconst 1 dX9_buys_78 (by decide) ?_
          refine x_goto dX9_buys_79 ?_
          refine x_iadd dX9_buys_83 ?_
          refine x_rei (nI (br + 1)) (nI_addc br 1 rfl) ?_
          refine x_iast (ws' := [(aN, .inr (9, [.ref aNs, .ref aNk, .int nkp, .ref aNf, .ref aNr, .ref aNp, .ref aNb, .ref aNa, .ref aNt, .int (nI nts), .ref aNbo, .ref aNsz, .ref aNnu, .int (nI nta), .int (nI nop), .int nbd, .int ntp, .int (nI npr), .int nnw, .int nsn, .int nwn, .ref aNl, .ref aNal, .ref aNlo, .int (nI nac), .ref aNw, .ref aNtr, .ref aNis, .ref aNbg, .ref aNow])), (aNf, .inl (g.2.1 0, 8, .inl (nIf (fnF fi)))), (aNs, .inl (g.2.1 0, 919, .inl (msF gr wk z lk sz (br + 1) ru ki ma bb ce hd)))]) dX9_buys_84 2 5 rfl (rfl) (by decide) (by decide) (by rw [mss_5]; rfl) ?_
          refine x_aload_n dX9_buys_85 rfl ?_
          refine x_get dX9_buys_86 0 0 inX9 fl_X9_7 rfl rfl (by decide) rfl ?_
          refine x_sipush 424 dX9_buys_89 (by decide) ?_
          refine x_iload_n dX9_buys_92 rfl ?_
          refine x_iadd dX9_buys_93 ?_
          refine x_rei (nI (424 + p)) (nI_iadd 424 p) ?_
          refine x_iload_n dX9_buys_94 rfl ?_
          refine x_iload_n dX9_buys_95 rfl ?_
          refine x_iadd dX9_buys_96 ?_
          refine x_rei (nI (hd p + n)) (nI_iadd (hd p) n) ?_
          refine x_iast (ws' := [(aN, .inr (9, [.ref aNs, .ref aNk, .int nkp, .ref aNf, .ref aNr, .ref aNp, .ref aNb, .ref aNa, .ref aNt, .int (nI nts), .ref aNbo, .ref aNsz, .ref aNnu, .int (nI nta), .int (nI nop), .int nbd, .int ntp, .int (nI npr), .int nnw, .int nsn, .int nwn, .ref aNl, .ref aNal, .ref aNlo, .int (nI nac), .ref aNw, .ref aNtr, .ref aNis, .ref aNbg, .ref aNow])), (aNf, .inl (g.2.1 0, 8, .inl (nIf (fnF fi)))), (aNs, .inl (g.2.1 0, 919, .inl (msF gr wk z lk sz (br + 1) ru ki ma bb ce (updN hd p (hd p + n)))))]) dX9_buys_97 2 (424 + p) rfl (rfl) (by omega) (by decide) (by rw [mss_hd (x := p) (by omega)]; rfl) ?_
          refine x_aload_n dX9_buys_98 rfl ?_
          refine x_iconst 1 dX9_buys_99 (by decide) ?_
          refine x_put (ws' := [(aN, .inr (9, [.ref aNs, .ref aNk, .int nkp, .ref aNf, .ref aNr, .ref aNp, .ref aNb, .ref aNa, .ref aNt, .int (nI nts), .ref aNbo, .ref aNsz, .ref aNnu, .int (nI nta), .int (nI nop), .int nbd, .int ntp, .int (nI npr), .int 1, .int nsn, .int nwn, .ref aNl, .ref aNal, .ref aNlo, .int (nI nac), .ref aNw, .ref aNtr, .ref aNis, .ref aNbg, .ref aNow])), (aNf, .inl (g.2.1 0, 8, .inl (nIf (fnF fi)))), (aNs, .inl (g.2.1 0, 919, .inl (msF gr wk z lk sz (br + 1) ru ki ma bb ce (updN hd p (hd p + n)))))]) dX9_buys_100 0 18 inX9 tyX9_ok nmX9 fl_X9_44 rfl rfl (by decide) rfl (rfl) rfl (xlt rfl) rfl ?_
          refine x_iload_n dX9_buys_103 rfl ?_
          refine x_iload_n dX9_buys_104 rfl ?_
          refine x_iadd dX9_buys_105 ?_
          refine x_rei (nI (hd p + n)) (nI_iadd (hd p) n) ?_
          rw [← hQ]
          refine x_iret dX9_buys_106 rfl (Nat.le_of_ble_eq_true rfl) (Nat.le_of_ble_eq_true rfl) ?_
          exact ⟨rfl, rfl⟩
      · have c57 : ¬ ((nI (hd p + n)) ≤ 99999) := c57
        have c57n := mt (nI_leI (a := (hd p + n)) (b := 99999) (by omega) (by omega)).mpr c57
        exact absurd c57n (by omega)

-- == nreturned_o ==
theorem dX9_returned_0 : xd cX9_returned 0 (.iconst 0) 1 1 := ⟨by decide +kernel, rfl⟩
theorem dX9_returned_1 : xd cX9_returned 1 (.istore_n 1) 1 2 := ⟨by decide +kernel, rfl⟩
theorem dX9_returned_2 : xd cX9_returned 2 (.iconst 0) 1 3 := ⟨by decide +kernel, rfl⟩
theorem dX9_returned_3 : xd cX9_returned 3 (.istore_n 2) 1 4 := ⟨by decide +kernel, rfl⟩
theorem dX9_returned_4 : xd cX9_returned 4 (.iload_n 2) 1 5 := ⟨by decide +kernel, rfl⟩
theorem dX9_returned_5 : xd cX9_returned 5 (.sipush 495) 3 8 := ⟨by decide +kernel, rfl⟩
theorem dX9_returned_8 : xj cX9_returned 8 (.if_icmp .ge) 11 41 := ⟨33, by decide +kernel, rfl, by decide⟩
theorem dX9_returned_11 : xd cX9_returned 11 (.iload_n 1) 1 12 := ⟨by decide +kernel, rfl⟩
theorem dX9_returned_12 : xd cX9_returned 12 (.aload_n 0) 1 13 := ⟨by decide +kernel, rfl⟩
theorem dX9_returned_13 : xd cX9_returned 13 (.getfield 7) 3 16 := ⟨by decide +kernel, rfl⟩
theorem dX9_returned_16 : xd cX9_returned 16 (.sipush 424) 3 19 := ⟨by decide +kernel, rfl⟩
theorem dX9_returned_19 : xd cX9_returned 19 (.iload_n 2) 1 20 := ⟨by decide +kernel, rfl⟩
theorem dX9_returned_20 : xd cX9_returned 20 .iadd 1 21 := ⟨by decide +kernel, rfl⟩
theorem dX9_returned_21 : xd cX9_returned 21 .iaload 1 22 := ⟨by decide +kernel, rfl⟩
theorem dX9_returned_22 : xd cX9_returned 22 .iadd 1 23 := ⟨by decide +kernel, rfl⟩
theorem dX9_returned_23 : xd cX9_returned 23 (.istore_n 1) 1 24 := ⟨by decide +kernel, rfl⟩
theorem dX9_returned_24 : xd cX9_returned 24 (.aload_n 0) 1 25 := ⟨by decide +kernel, rfl⟩
theorem dX9_returned_25 : xd cX9_returned 25 (.getfield 7) 3 28 := ⟨by decide +kernel, rfl⟩
theorem dX9_returned_28 : xd cX9_returned 28 (.sipush 424) 3 31 := ⟨by decide +kernel, rfl⟩
theorem dX9_returned_31 : xd cX9_returned 31 (.iload_n 2) 1 32 := ⟨by decide +kernel, rfl⟩
theorem dX9_returned_32 : xd cX9_returned 32 .iadd 1 33 := ⟨by decide +kernel, rfl⟩
theorem dX9_returned_33 : xd cX9_returned 33 (.iconst 0) 1 34 := ⟨by decide +kernel, rfl⟩
theorem dX9_returned_34 : xd cX9_returned 34 .iastore 1 35 := ⟨by decide +kernel, rfl⟩
theorem dX9_returned_35 : xd cX9_returned 35 (.iinc 2 1) 3 38 := ⟨by decide +kernel, rfl⟩
theorem dX9_returned_38 : xj cX9_returned 38 .goto 41 4 := ⟨(-34), by decide +kernel, rfl, by decide⟩
theorem dX9_returned_41 : xd cX9_returned 41 (.aload_n 0) 1 42 := ⟨by decide +kernel, rfl⟩
theorem dX9_returned_42 : xd cX9_returned 42 (.getfield 7) 3 45 := ⟨by decide +kernel, rfl⟩
theorem dX9_returned_45 : xd cX9_returned 45 (.iconst 5) 1 46 := ⟨by decide +kernel, rfl⟩
theorem dX9_returned_46 : xd cX9_returned 46 (.iconst 0) 1 47 := ⟨by decide +kernel, rfl⟩
theorem dX9_returned_47 : xd cX9_returned 47 .iastore 1 48 := ⟨by decide +kernel, rfl⟩
theorem dX9_returned_48 : xd cX9_returned 48 (.aload_n 0) 1 49 := ⟨by decide +kernel, rfl⟩
theorem dX9_returned_49 : xd cX9_returned 49 (.iconst 1) 1 50 := ⟨by decide +kernel, rfl⟩
theorem dX9_returned_50 : xd cX9_returned 50 (.putfield 44) 3 53 := ⟨by decide +kernel, rfl⟩
theorem dX9_returned_53 : xd cX9_returned 53 (.iload_n 1) 1 54 := ⟨by decide +kernel, rfl⟩
theorem dX9_returned_54 : xd cX9_returned 54 .ireturn 1 55 := ⟨by decide +kernel, rfl⟩

set_option maxRecDepth 100000 in
set_option maxHeartbeats 4000000 in
theorem ct_nreturned_o (l : Launch) (g : XG) (aN aNs aNk aNf aNr aNp aNb aNa aNt aNbo aNsz aNnu aNl aNal aNlo aNw aNtr aNis aNbg aNow nts nta nop npr nac : Nat) (nkp nbd ntp nnw nsn nwn : Int32) (gr wk lk sz br : Nat) (z : Int32) (ru ki ma bb hd : Nat → Nat) (ce : Nat → Int32) : Ct l g 34 0 0 yX9_returned cX9_returned 3 (some .int) [.ref aN] [(aN, .inr (9, [.ref aNs, .ref aNk, .int nkp, .ref aNf, .ref aNr, .ref aNp, .ref aNb, .ref aNa, .ref aNt, .int (nI nts), .ref aNbo, .ref aNsz, .ref aNnu, .int (nI nta), .int (nI nop), .int nbd, .int ntp, .int (nI npr), .int nnw, .int nsn, .int nwn, .ref aNl, .ref aNal, .ref aNlo, .int (nI nac), .ref aNw, .ref aNtr, .ref aNis, .ref aNbg, .ref aNow])), (aNs, .inl (g.2.1 0, 919, .inl (msF gr wk z lk sz br ru ki ma bb ce hd)))] (xpi (nI (sumN hd 495)) [(aN, .inr (9, [.ref aNs, .ref aNk, .int nkp, .ref aNf, .ref aNr, .ref aNp, .ref aNb, .ref aNa, .ref aNt, .int (nI nts), .ref aNbo, .ref aNsz, .ref aNnu, .int (nI nta), .int (nI nop), .int nbd, .int ntp, .int (nI npr), .int 1, .int nsn, .int nwn, .ref aNl, .ref aNal, .ref aNlo, .int (nI nac), .ref aNw, .ref aNtr, .ref aNis, .ref aNbg, .ref aNow])), (aNs, .inl (g.2.1 0, 919, .inl (msF gr wk z lk sz 0 ru ki ma bb ce (fun _ => 0))))]) := by
  refine Ct.ofX (lv := [some (.ref aN), none, none]) (by decide) rfl (Nat.le_of_ble_eq_true rfl) (fun κ => ?_)
  generalize hQ : xQ κ g 0 0 _ = Q
  refine x_iconst 0 dX9_returned_0 (by decide) ?_
  refine x_istore_n (lv' := [some (.ref aN), some (.int 0), none]) dX9_returned_1 (xlt rfl) rfl ?_
  refine x_iconst 0 dX9_returned_2 (by decide) ?_
  refine x_istore_n (lv' := [some (.ref aN), some (.int 0), some (.int 0)]) dX9_returned_3 (xlt rfl) rfl ?_
  have L4_1 : ∀ (i : Nat), i ≤ 495 → ∀ (al : Nat), al = sumN hd i → ∀ (sf : Nat → Int32), sf = msF gr wk z lk sz br ru ki ma bb ce (fillT i (fun _ => 0) hd) → Xs κ g 34 0 0 cX9_returned yX9_returned (some .int) Q 0 0 4 [some (.ref aN), some (.int (nI al)), some (.int (nI i))] [] [(aN, .inr (9, [.ref aNs, .ref aNk, .int nkp, .ref aNf, .ref aNr, .ref aNp, .ref aNb, .ref aNa, .ref aNt, .int (nI nts), .ref aNbo, .ref aNsz, .ref aNnu, .int (nI nta), .int (nI nop), .int nbd, .int ntp, .int (nI npr), .int nnw, .int nsn, .int nwn, .ref aNl, .ref aNal, .ref aNlo, .int (nI nac), .ref aNw, .ref aNtr, .ref aNis, .ref aNbg, .ref aNow])), (aNs, .inl (g.2.1 0, 919, .inl sf))] := by
    refine upTo 495 (fun i hi4 ih4 => ?_)
    intro al eal
    subst eal
    intro sf esf
    subst esf
    refine x_iload_n dX9_returned_4 rfl ?_
    refine x_sipush 495 dX9_returned_5 (by decide) ?_
    refine x_icmp_ge dX9_returned_8 (fun c8 => ?_) (fun c8 => ?_)
    · have c8 : 495 ≤ (nI i) := c8
      have c8n := (nI_leI (a := 495) (b := i) (by omega) (by omega)).mp c8
      have hxc8 : i = 495 := by omega
      try rw [hxc8]
      refine x_funi (ws' := [(aN, .inr (9, [.ref aNs, .ref aNk, .int nkp, .ref aNf, .ref aNr, .ref aNp, .ref aNb, .ref aNa, .ref aNt, .int (nI nts), .ref aNbo, .ref aNsz, .ref aNnu, .int (nI nta), .int (nI nop), .int nbd, .int ntp, .int (nI npr), .int nnw, .int nsn, .int nwn, .ref aNl, .ref aNal, .ref aNlo, .int (nI nac), .ref aNw, .ref aNtr, .ref aNis, .ref aNbg, .ref aNow])), (aNs, .inl (g.2.1 0, 919, .inl (msF gr wk z lk sz br ru ki ma bb ce (fun _ => 0))))]) (q0 := 1) rfl (fun j hj => hd_zero hj) rfl ?_
      refine x_aload_n dX9_returned_41 rfl ?_
      refine x_get dX9_returned_42 0 0 inX9 fl_X9_7 rfl rfl (by decide) rfl ?_
      refine x_iconst 5 dX9_returned_45 (by decide) ?_
      refine x_iconst 0 dX9_returned_46 (by decide) ?_
      refine x_rei (nI 0) rfl ?_
      refine x_iast (ws' := [(aN, .inr (9, [.ref aNs, .ref aNk, .int nkp, .ref aNf, .ref aNr, .ref aNp, .ref aNb, .ref aNa, .ref aNt, .int (nI nts), .ref aNbo, .ref aNsz, .ref aNnu, .int (nI nta), .int (nI nop), .int nbd, .int ntp, .int (nI npr), .int nnw, .int nsn, .int nwn, .ref aNl, .ref aNal, .ref aNlo, .int (nI nac), .ref aNw, .ref aNtr, .ref aNis, .ref aNbg, .ref aNow])), (aNs, .inl (g.2.1 0, 919, .inl (msF gr wk z lk sz 0 ru ki ma bb ce (fun _ => 0))))]) dX9_returned_47 1 5 rfl (rfl) (by decide) (by decide) (by rw [mss_5]; rfl) ?_
      refine x_aload_n dX9_returned_48 rfl ?_
      refine x_iconst 1 dX9_returned_49 (by decide) ?_
      refine x_put (ws' := [(aN, .inr (9, [.ref aNs, .ref aNk, .int nkp, .ref aNf, .ref aNr, .ref aNp, .ref aNb, .ref aNa, .ref aNt, .int (nI nts), .ref aNbo, .ref aNsz, .ref aNnu, .int (nI nta), .int (nI nop), .int nbd, .int ntp, .int (nI npr), .int 1, .int nsn, .int nwn, .ref aNl, .ref aNal, .ref aNlo, .int (nI nac), .ref aNw, .ref aNtr, .ref aNis, .ref aNbg, .ref aNow])), (aNs, .inl (g.2.1 0, 919, .inl (msF gr wk z lk sz 0 ru ki ma bb ce (fun _ => 0))))]) dX9_returned_50 0 18 inX9 tyX9_ok nmX9 fl_X9_44 rfl rfl (by decide) rfl (rfl) rfl (xlt rfl) rfl ?_
      refine x_iload_n dX9_returned_53 rfl ?_
      rw [← hQ]
      refine x_iret dX9_returned_54 rfl (Nat.le_of_ble_eq_true rfl) (Nat.le_of_ble_eq_true rfl) ?_
      exact ⟨rfl, rfl⟩
    · have c8 : ¬ (495 ≤ (nI i)) := c8
      have c8n := mt (nI_leI (a := 495) (b := i) (by omega) (by omega)).mpr c8
      refine x_iload_n dX9_returned_11 rfl ?_
      refine x_aload_n dX9_returned_12 rfl ?_
      refine x_get dX9_returned_13 0 0 inX9 fl_X9_7 rfl rfl (by decide) rfl ?_
      refine x_sipush 424 dX9_returned_16 (by decide) ?_
      refine x_iload_n dX9_returned_19 rfl ?_
      refine x_iadd dX9_returned_20 ?_
      refine x_rei (nI (424 + i)) (nI_iadd 424 i) ?_
      refine x_iald dX9_returned_21 1 (424 + i) rfl (rfl) (by omega) (by decide) ?_
      refine x_rei (nI (((fillT i (fun _ => 0) hd)) i)) (msg_hd (x := i) (by omega)) ?_
      refine x_iadd dX9_returned_22 ?_
      refine x_rei (nI ((sumN hd i) + (((fillT i (fun _ => 0) hd)) i))) (nI_iadd (sumN hd i) (((fillT i (fun _ => 0) hd)) i)) ?_
      refine x_istore_n (lv' := [some (.ref aN), some (.int (nI ((sumN hd i) + (((fillT i (fun _ => 0) hd)) i)))), some (.int (nI i))]) dX9_returned_23 (xlt rfl) rfl ?_
      refine x_aload_n dX9_returned_24 rfl ?_
      refine x_get dX9_returned_25 0 0 inX9 fl_X9_7 rfl rfl (by decide) rfl ?_
      refine x_sipush 424 dX9_returned_28 (by decide) ?_
      refine x_iload_n dX9_returned_31 rfl ?_
      refine x_iadd dX9_returned_32 ?_
      refine x_rei (nI (424 + i)) (nI_iadd 424 i) ?_
      refine x_iconst 0 dX9_returned_33 (by decide) ?_
      refine x_rei (nI 0) rfl ?_
      refine x_iast (ws' := [(aN, .inr (9, [.ref aNs, .ref aNk, .int nkp, .ref aNf, .ref aNr, .ref aNp, .ref aNb, .ref aNa, .ref aNt, .int (nI nts), .ref aNbo, .ref aNsz, .ref aNnu, .int (nI nta), .int (nI nop), .int nbd, .int ntp, .int (nI npr), .int nnw, .int nsn, .int nwn, .ref aNl, .ref aNal, .ref aNlo, .int (nI nac), .ref aNw, .ref aNtr, .ref aNis, .ref aNbg, .ref aNow])), (aNs, .inl (g.2.1 0, 919, .inl (msF gr wk z lk sz br ru ki ma bb ce (updN ((fillT i (fun _ => 0) hd)) i 0))))]) dX9_returned_34 1 (424 + i) rfl (rfl) (by omega) (by decide) (by rw [mss_hd (x := i) (by omega)]; rfl) ?_
      refine x_iinc (lv' := [some (.ref aN), some (.int (nI ((sumN hd i) + (((fillT i (fun _ => 0) hd)) i)))), some (.int (nI (i + 1)))]) (nI (i + 1)) dX9_returned_35 rfl (nI_addc i 1 rfl) rfl ?_
      refine x_goto dX9_returned_38 ?_
      exact ih4 (by omega) ((sumN hd i) + (((fillT i (fun _ => 0) hd)) i)) (by simp only [sumN, fillT_out _ _ (Nat.lt_irrefl i)]) _ (by rw [fillT_updN i (fun _ => 0) hd])
  exact L4_1 0 (Nat.zero_le _) 0 (by rfl) _ (by rw [fillT_0])

-- == nrule_b ==
theorem dX9_rule_0 : xd cX9_rule 0 (.iload_n 1) 1 1 := ⟨by decide +kernel, rfl⟩
theorem dX9_rule_1 : xd cX9_rule 1 .i2l 1 2 := ⟨by decide +kernel, rfl⟩
theorem dX9_rule_2 : xd cX9_rule 2 (.lconst 0) 1 3 := ⟨by decide +kernel, rfl⟩
theorem dX9_rule_3 : xd cX9_rule 3 (.ldc2_w 96) 3 6 := ⟨by decide +kernel, rfl⟩
theorem dX9_rule_6 : xd cX9_rule 6 (.invokestatic 98) 3 9 := ⟨by decide +kernel, rfl⟩
theorem dX9_rule_9 : xj cX9_rule 9 (.ifCond .ne) 12 19 := ⟨10, by decide +kernel, rfl, by decide⟩
theorem dX9_rule_12 : xd cX9_rule 12 (.aload_n 0) 1 13 := ⟨by decide +kernel, rfl⟩
theorem dX9_rule_13 : xd cX9_rule 13 (.ldc 87) 2 15 := ⟨by decide +kernel, rfl⟩
theorem dX9_rule_15 : xd cX9_rule 15 (.invokevirtual 88) 3 18 := ⟨by decide +kernel, rfl⟩
theorem dX9_rule_18 : xd cX9_rule 18 .ireturn 1 19 := ⟨by decide +kernel, rfl⟩
theorem dX9_rule_19 : xd cX9_rule 19 (.iload_n 1) 1 20 := ⟨by decide +kernel, rfl⟩
theorem dX9_rule_20 : xj cX9_rule 20 (.ifCond .ne) 23 28 := ⟨8, by decide +kernel, rfl, by decide⟩
theorem dX9_rule_23 : xd cX9_rule 23 (.bipush 99) 2 25 := ⟨by decide +kernel, rfl⟩
theorem dX9_rule_25 : xj cX9_rule 25 .goto 28 52 := ⟨27, by decide +kernel, rfl, by decide⟩
theorem dX9_rule_28 : xd cX9_rule 28 (.iload_n 1) 1 29 := ⟨by decide +kernel, rfl⟩
theorem dX9_rule_29 : xd cX9_rule 29 (.bipush 6) 2 31 := ⟨by decide +kernel, rfl⟩
theorem dX9_rule_31 : xj cX9_rule 31 (.if_icmp .ne) 34 39 := ⟨8, by decide +kernel, rfl, by decide⟩
theorem dX9_rule_34 : xd cX9_rule 34 (.ldc 204) 2 36 := ⟨by decide +kernel, rfl⟩
theorem dX9_rule_36 : xj cX9_rule 36 .goto 39 52 := ⟨16, by decide +kernel, rfl, by decide⟩
theorem dX9_rule_39 : xd cX9_rule 39 (.iload_n 1) 1 40 := ⟨by decide +kernel, rfl⟩
theorem dX9_rule_40 : xd cX9_rule 40 (.bipush 7) 2 42 := ⟨by decide +kernel, rfl⟩
theorem dX9_rule_42 : xj cX9_rule 42 (.if_icmp .ne) 45 50 := ⟨8, by decide +kernel, rfl, by decide⟩
theorem dX9_rule_45 : xd cX9_rule 45 (.ldc 205) 2 47 := ⟨by decide +kernel, rfl⟩
theorem dX9_rule_47 : xj cX9_rule 47 .goto 50 52 := ⟨5, by decide +kernel, rfl, by decide⟩
theorem dX9_rule_50 : xd cX9_rule 50 (.bipush 100) 2 52 := ⟨by decide +kernel, rfl⟩
theorem dX9_rule_52 : xd cX9_rule 52 (.istore_n 3) 1 53 := ⟨by decide +kernel, rfl⟩
theorem dX9_rule_53 : xd cX9_rule 53 (.iload_n 2) 1 54 := ⟨by decide +kernel, rfl⟩
theorem dX9_rule_54 : xd cX9_rule 54 .i2l 1 55 := ⟨by decide +kernel, rfl⟩
theorem dX9_rule_55 : xd cX9_rule 55 (.iload_n 1) 1 56 := ⟨by decide +kernel, rfl⟩
theorem dX9_rule_56 : xj cX9_rule 56 (.ifCond .ne) 59 63 := ⟨7, by decide +kernel, rfl, by decide⟩
theorem dX9_rule_59 : xd cX9_rule 59 (.lconst 1) 1 60 := ⟨by decide +kernel, rfl⟩
theorem dX9_rule_60 : xj cX9_rule 60 .goto 63 64 := ⟨4, by decide +kernel, rfl, by decide⟩
theorem dX9_rule_63 : xd cX9_rule 63 (.lconst 0) 1 64 := ⟨by decide +kernel, rfl⟩
theorem dX9_rule_64 : xd cX9_rule 64 (.iload_n 3) 1 65 := ⟨by decide +kernel, rfl⟩
theorem dX9_rule_65 : xd cX9_rule 65 .i2l 1 66 := ⟨by decide +kernel, rfl⟩
theorem dX9_rule_66 : xd cX9_rule 66 (.invokestatic 98) 3 69 := ⟨by decide +kernel, rfl⟩
theorem dX9_rule_69 : xj cX9_rule 69 (.ifCond .ne) 72 79 := ⟨10, by decide +kernel, rfl, by decide⟩
theorem dX9_rule_72 : xd cX9_rule 72 (.aload_n 0) 1 73 := ⟨by decide +kernel, rfl⟩
theorem dX9_rule_73 : xd cX9_rule 73 (.ldc 87) 2 75 := ⟨by decide +kernel, rfl⟩
theorem dX9_rule_75 : xd cX9_rule 75 (.invokevirtual 88) 3 78 := ⟨by decide +kernel, rfl⟩
theorem dX9_rule_78 : xd cX9_rule 78 .ireturn 1 79 := ⟨by decide +kernel, rfl⟩
theorem dX9_rule_79 : xd cX9_rule 79 (.aload_n 0) 1 80 := ⟨by decide +kernel, rfl⟩
theorem dX9_rule_80 : xd cX9_rule 80 (.getfield 7) 3 83 := ⟨by decide +kernel, rfl⟩
theorem dX9_rule_83 : xd cX9_rule 83 (.bipush 10) 2 85 := ⟨by decide +kernel, rfl⟩
theorem dX9_rule_85 : xd cX9_rule 85 (.iload_n 1) 1 86 := ⟨by decide +kernel, rfl⟩
theorem dX9_rule_86 : xd cX9_rule 86 .iadd 1 87 := ⟨by decide +kernel, rfl⟩
theorem dX9_rule_87 : xd cX9_rule 87 .iaload 1 88 := ⟨by decide +kernel, rfl⟩
theorem dX9_rule_88 : xd cX9_rule 88 (.istore 4) 2 90 := ⟨by decide +kernel, rfl⟩
theorem dX9_rule_90 : xd cX9_rule 90 (.aload_n 0) 1 91 := ⟨by decide +kernel, rfl⟩
theorem dX9_rule_91 : xd cX9_rule 91 (.getfield 7) 3 94 := ⟨by decide +kernel, rfl⟩
theorem dX9_rule_94 : xd cX9_rule 94 (.bipush 10) 2 96 := ⟨by decide +kernel, rfl⟩
theorem dX9_rule_96 : xd cX9_rule 96 (.iload_n 1) 1 97 := ⟨by decide +kernel, rfl⟩
theorem dX9_rule_97 : xd cX9_rule 97 .iadd 1 98 := ⟨by decide +kernel, rfl⟩
theorem dX9_rule_98 : xd cX9_rule 98 (.iload_n 2) 1 99 := ⟨by decide +kernel, rfl⟩
theorem dX9_rule_99 : xd cX9_rule 99 .iastore 1 100 := ⟨by decide +kernel, rfl⟩
theorem dX9_rule_100 : xd cX9_rule 100 (.iload 4) 2 102 := ⟨by decide +kernel, rfl⟩
theorem dX9_rule_102 : xd cX9_rule 102 .ireturn 1 103 := ⟨by decide +kernel, rfl⟩

set_option maxRecDepth 100000 in
set_option maxHeartbeats 4000000 in
theorem ct_nrule_b (l : Launch) (g : XG) (aN aNs aNk aNf aNr aNp aNb aNa aNt aNbo aNsz aNnu aNl aNal aNlo aNw aNtr aNis aNbg aNow nts nta nop npr nac : Nat) (nkp nbd ntp nnw nsn nwn : Int32) (fi : Nat → Nat) (wh v : Int32) (gr wk lk sz br : Nat) (z : Int32) (ru ki ma bb hd : Nat → Nat) (ce : Nat → Int32) (hb : wI wh 0 7 = 0) : Ct l g 34 0 0 yX9_rule cX9_rule 5 (some .int) [.ref aN, .int wh, .int v] [(aN, .inr (9, [.ref aNs, .ref aNk, .int nkp, .ref aNf, .ref aNr, .ref aNp, .ref aNb, .ref aNa, .ref aNt, .int (nI nts), .ref aNbo, .ref aNsz, .ref aNnu, .int (nI nta), .int (nI nop), .int nbd, .int ntp, .int (nI npr), .int nnw, .int nsn, .int nwn, .ref aNl, .ref aNal, .ref aNlo, .int (nI nac), .ref aNw, .ref aNtr, .ref aNis, .ref aNbg, .ref aNow])), (aNf, .inl (g.2.1 0, 8, .inl (nIf (fnF fi)))), (aNs, .inl (g.2.1 0, 919, .inl (msF gr wk z lk sz br ru ki ma bb ce hd)))] (xpi (fndI 0) [(aN, .inr (9, [.ref aNs, .ref aNk, .int nkp, .ref aNf, .ref aNr, .ref aNp, .ref aNb, .ref aNa, .ref aNt, .int (nI nts), .ref aNbo, .ref aNsz, .ref aNnu, .int (nI nta), .int (nI nop), .int nbd, .int ntp, .int (nI npr), .int nnw, .int nsn, .int nwn, .ref aNl, .ref aNal, .ref aNlo, .int (nI nac), .ref aNw, .ref aNtr, .ref aNis, .ref aNbg, .ref aNow])), (aNf, .inl (g.2.1 0, 8, .inl (nIf (fnF (updN fi 0 (fi 0 + 1)))))), (aNs, .inl (g.2.1 0, 919, .inl (msF gr wk z lk sz br ru ki ma bb ce hd)))]) := by
  refine Ct.ofX (lv := [some (.ref aN), some (.int wh), some (.int v), none, none]) (by decide) rfl (Nat.le_of_ble_eq_true rfl) (fun κ => ?_)
  generalize hQ : xQ κ g 0 0 _ = Q
  refine x_iload_n dX9_rule_0 rfl ?_
  refine x_i2l dX9_rule_1 ?_
  refine x_lconst 0 dX9_rule_2 (by decide) ?_
  refine x_ldc2 dX9_rule_3 kl_X9_96 ?_
  refine x_cSi dX9_rule_6 ml_X9_98 mX9_isIn (ct_X9_isIn κ.2.1 g wh.toInt64 0 7) rfl (Nat.le_of_ble_eq_true rfl) (by decide) (Nat.le_refl _) (Nat.le_refl _) ?_
  refine x_rei (wI wh 0 7) (inL_w wh 0 7 (by first | rfl | decide) (by first | rfl | decide)) ?_
  refine x_if_ne dX9_rule_9 (fun c9 => ?_) (fun c9 => ?_)
  · have c9 : ¬ ((wI wh 0 7) = 0) := c9
    exact absurd hb c9
  · have c9 : (wI wh 0 7) = 0 := c9
    refine x_aload_n dX9_rule_12 rfl ?_
    refine x_ldc dX9_rule_13 k_X9_87 ?_
    refine x_cVi (ws' := [(aN, .inr (9, [.ref aNs, .ref aNk, .int nkp, .ref aNf, .ref aNr, .ref aNp, .ref aNb, .ref aNa, .ref aNt, .int (nI nts), .ref aNbo, .ref aNsz, .ref aNnu, .int (nI nta), .int (nI nop), .int nbd, .int ntp, .int (nI npr), .int nnw, .int nsn, .int nwn, .ref aNl, .ref aNal, .ref aNlo, .int (nI nac), .ref aNw, .ref aNtr, .ref aNis, .ref aNbg, .ref aNow])), (aNf, .inl (g.2.1 0, 8, .inl (nIf (fnF (updN fi 0 (fi 0 + 1)))))), (aNs, .inl (g.2.1 0, 919, .inl (msF gr wk z lk sz br ru ki ma bb ce hd)))]) dX9_rule_15 ml_X9_88 mX9_finds (ct_finds_0 κ.2.1 g aN aNs aNk aNf aNr aNp aNb aNa aNt aNbo aNsz aNnu aNl aNal aNlo aNw aNtr aNis aNbg aNow nts nta nop npr nac nkp nbd ntp nnw nsn nwn fi) [0, 1] rfl rfl 0 rfl rfl rfl (Nat.le_of_ble_eq_true rfl) (by decide) (Nat.le_refl _) (Nat.le_refl _) (rfl : [aN, aNf] = [aN, aNf]) rfl ?_
    rw [← hQ]
    refine x_iret dX9_rule_18 rfl (Nat.le_of_ble_eq_true rfl) (Nat.le_of_ble_eq_true rfl) ?_
    exact ⟨rfl, rfl⟩

-- == nrule_c0 ==
set_option maxRecDepth 100000 in
set_option maxHeartbeats 4000000 in
theorem ct_nrule_c0 (l : Launch) (g : XG) (aN aNs aNk aNf aNr aNp aNb aNa aNt aNbo aNsz aNnu aNl aNal aNlo aNw aNtr aNis aNbg aNow nts nta nop npr nac : Nat) (nkp nbd ntp nnw nsn nwn : Int32) (fi : Nat → Nat) (v : Int32) (gr wk lk sz br : Nat) (z : Int32) (ru ki ma bb hd : Nat → Nat) (ce : Nat → Int32) (hb : wI v 1 99 = 0) : Ct l g 34 0 0 yX9_rule cX9_rule 5 (some .int) [.ref aN, .int 0, .int v] [(aN, .inr (9, [.ref aNs, .ref aNk, .int nkp, .ref aNf, .ref aNr, .ref aNp, .ref aNb, .ref aNa, .ref aNt, .int (nI nts), .ref aNbo, .ref aNsz, .ref aNnu, .int (nI nta), .int (nI nop), .int nbd, .int ntp, .int (nI npr), .int nnw, .int nsn, .int nwn, .ref aNl, .ref aNal, .ref aNlo, .int (nI nac), .ref aNw, .ref aNtr, .ref aNis, .ref aNbg, .ref aNow])), (aNf, .inl (g.2.1 0, 8, .inl (nIf (fnF fi)))), (aNs, .inl (g.2.1 0, 919, .inl (msF gr wk z lk sz br ru ki ma bb ce hd)))] (xpi (fndI 0) [(aN, .inr (9, [.ref aNs, .ref aNk, .int nkp, .ref aNf, .ref aNr, .ref aNp, .ref aNb, .ref aNa, .ref aNt, .int (nI nts), .ref aNbo, .ref aNsz, .ref aNnu, .int (nI nta), .int (nI nop), .int nbd, .int ntp, .int (nI npr), .int nnw, .int nsn, .int nwn, .ref aNl, .ref aNal, .ref aNlo, .int (nI nac), .ref aNw, .ref aNtr, .ref aNis, .ref aNbg, .ref aNow])), (aNf, .inl (g.2.1 0, 8, .inl (nIf (fnF (updN fi 0 (fi 0 + 1)))))), (aNs, .inl (g.2.1 0, 919, .inl (msF gr wk z lk sz br ru ki ma bb ce hd)))]) := by
  refine Ct.ofX (lv := [some (.ref aN), some (.int 0), some (.int v), none, none]) (by decide) rfl (Nat.le_of_ble_eq_true rfl) (fun κ => ?_)
  generalize hQ : xQ κ g 0 0 _ = Q
  refine x_iload_n dX9_rule_0 rfl ?_
  refine x_i2l dX9_rule_1 ?_
  refine x_lconst 0 dX9_rule_2 (by decide) ?_
  refine x_ldc2 dX9_rule_3 kl_X9_96 ?_
  refine x_cSi dX9_rule_6 ml_X9_98 mX9_isIn (ct_X9_isIn κ.2.1 g ((0 : Int32).toInt64) 0 7) rfl (Nat.le_of_ble_eq_true rfl) (by decide) (Nat.le_refl _) (Nat.le_refl _) ?_
  refine x_rei (1) (by decide) ?_
  refine x_if_ne dX9_rule_9 (fun c9 => ?_) (fun c9 => ?_)
  rotate_left
  · exact absurd c9 (by decide)
  refine x_iload_n dX9_rule_19 rfl ?_
  refine x_if_ne dX9_rule_20 (fun c20 => ?_) (fun c20 => ?_)
  · exact absurd c20 (by decide)
  refine x_bipush 99 dX9_rule_23 (by decide) ?_
  refine x_goto dX9_rule_25 ?_
  refine x_istore_n (lv' := [some (.ref aN), some (.int 0), some (.int v), some (.int 99), none]) dX9_rule_52 (xlt rfl) rfl ?_
  refine x_iload_n dX9_rule_53 rfl ?_
  refine x_i2l dX9_rule_54 ?_
  refine x_iload_n dX9_rule_55 rfl ?_
  refine x_if_ne dX9_rule_56 (fun c56 => ?_) (fun c56 => ?_)
  · exact absurd c56 (by decide)
  refine x_lconst 1 dX9_rule_59 (by decide) ?_
  refine x_goto dX9_rule_60 ?_
  refine x_iload_n dX9_rule_64 rfl ?_
  refine x_i2l dX9_rule_65 ?_
  refine x_cSi dX9_rule_66 ml_X9_98 mX9_isIn (ct_X9_isIn κ.2.1 g v.toInt64 1 ((99 : Int32).toInt64)) rfl (Nat.le_of_ble_eq_true rfl) (by decide) (Nat.le_refl _) (Nat.le_refl _) ?_
  refine x_rei (wI v 1 99) (inL_w v 1 99 (by first | rfl | decide) (by first | rfl | decide)) ?_
  refine x_if_ne dX9_rule_69 (fun c69 => ?_) (fun c69 => ?_)
  · have c69 : ¬ ((wI v 1 99) = 0) := c69
    exact absurd hb c69
  · have c69 : (wI v 1 99) = 0 := c69
    refine x_aload_n dX9_rule_72 rfl ?_
    refine x_ldc dX9_rule_73 k_X9_87 ?_
    refine x_cVi (ws' := [(aN, .inr (9, [.ref aNs, .ref aNk, .int nkp, .ref aNf, .ref aNr, .ref aNp, .ref aNb, .ref aNa, .ref aNt, .int (nI nts), .ref aNbo, .ref aNsz, .ref aNnu, .int (nI nta), .int (nI nop), .int nbd, .int ntp, .int (nI npr), .int nnw, .int nsn, .int nwn, .ref aNl, .ref aNal, .ref aNlo, .int (nI nac), .ref aNw, .ref aNtr, .ref aNis, .ref aNbg, .ref aNow])), (aNf, .inl (g.2.1 0, 8, .inl (nIf (fnF (updN fi 0 (fi 0 + 1)))))), (aNs, .inl (g.2.1 0, 919, .inl (msF gr wk z lk sz br ru ki ma bb ce hd)))]) dX9_rule_75 ml_X9_88 mX9_finds (ct_finds_0 κ.2.1 g aN aNs aNk aNf aNr aNp aNb aNa aNt aNbo aNsz aNnu aNl aNal aNlo aNw aNtr aNis aNbg aNow nts nta nop npr nac nkp nbd ntp nnw nsn nwn fi) [0, 1] rfl rfl 0 rfl rfl rfl (Nat.le_of_ble_eq_true rfl) (by decide) (Nat.le_refl _) (Nat.le_refl _) (rfl : [aN, aNf] = [aN, aNf]) rfl ?_
    rw [← hQ]
    refine x_iret dX9_rule_78 rfl (Nat.le_of_ble_eq_true rfl) (Nat.le_of_ble_eq_true rfl) ?_
    exact ⟨rfl, rfl⟩

-- == nrule_o0 ==
set_option maxRecDepth 100000 in
set_option maxHeartbeats 4000000 in
theorem ct_nrule_o0 (l : Launch) (g : XG) (aN aNs aNk aNf aNr aNp aNb aNa aNt aNbo aNsz aNnu aNl aNal aNlo aNw aNtr aNis aNbg aNow nts nta nop npr nac : Nat) (nkp nbd ntp nnw nsn nwn : Int32) (fi : Nat → Nat) (v : Nat) (gr wk lk sz br : Nat) (z : Int32) (ru ki ma bb hd : Nat → Nat) (ce : Nat → Int32) (hv : 1 ≤ v ∧ v ≤ 99) : Ct l g 34 0 0 yX9_rule cX9_rule 5 (some .int) [.ref aN, .int 0, .int (nI v)] [(aN, .inr (9, [.ref aNs, .ref aNk, .int nkp, .ref aNf, .ref aNr, .ref aNp, .ref aNb, .ref aNa, .ref aNt, .int (nI nts), .ref aNbo, .ref aNsz, .ref aNnu, .int (nI nta), .int (nI nop), .int nbd, .int ntp, .int (nI npr), .int nnw, .int nsn, .int nwn, .ref aNl, .ref aNal, .ref aNlo, .int (nI nac), .ref aNw, .ref aNtr, .ref aNis, .ref aNbg, .ref aNow])), (aNf, .inl (g.2.1 0, 8, .inl (nIf (fnF fi)))), (aNs, .inl (g.2.1 0, 919, .inl (msF gr wk z lk sz br ru ki ma bb ce hd)))] (xpi (nI (ru 0)) [(aN, .inr (9, [.ref aNs, .ref aNk, .int nkp, .ref aNf, .ref aNr, .ref aNp, .ref aNb, .ref aNa, .ref aNt, .int (nI nts), .ref aNbo, .ref aNsz, .ref aNnu, .int (nI nta), .int (nI nop), .int nbd, .int ntp, .int (nI npr), .int nnw, .int nsn, .int nwn, .ref aNl, .ref aNal, .ref aNlo, .int (nI nac), .ref aNw, .ref aNtr, .ref aNis, .ref aNbg, .ref aNow])), (aNf, .inl (g.2.1 0, 8, .inl (nIf (fnF fi)))), (aNs, .inl (g.2.1 0, 919, .inl (msF gr wk z lk sz br (updN ru 0 v) ki ma bb ce hd)))]) := by
  refine Ct.ofX (lv := [some (.ref aN), some (.int 0), some (.int (nI v)), none, none]) (by decide) rfl (Nat.le_of_ble_eq_true rfl) (fun κ => ?_)
  generalize hQ : xQ κ g 0 0 _ = Q
  refine x_iload_n dX9_rule_0 rfl ?_
  refine x_i2l dX9_rule_1 ?_
  refine x_lconst 0 dX9_rule_2 (by decide) ?_
  refine x_ldc2 dX9_rule_3 kl_X9_96 ?_
  refine x_cSi dX9_rule_6 ml_X9_98 mX9_isIn (ct_X9_isIn κ.2.1 g ((0 : Int32).toInt64) 0 7) rfl (Nat.le_of_ble_eq_true rfl) (by decide) (Nat.le_refl _) (Nat.le_refl _) ?_
  refine x_rei (1) (by decide) ?_
  refine x_if_ne dX9_rule_9 (fun c9 => ?_) (fun c9 => ?_)
  rotate_left
  · exact absurd c9 (by decide)
  refine x_iload_n dX9_rule_19 rfl ?_
  refine x_if_ne dX9_rule_20 (fun c20 => ?_) (fun c20 => ?_)
  · exact absurd c20 (by decide)
  refine x_bipush 99 dX9_rule_23 (by decide) ?_
  refine x_goto dX9_rule_25 ?_
  refine x_istore_n (lv' := [some (.ref aN), some (.int 0), some (.int (nI v)), some (.int 99), none]) dX9_rule_52 (xlt rfl) rfl ?_
  refine x_iload_n dX9_rule_53 rfl ?_
  refine x_i2l dX9_rule_54 ?_
  refine x_iload_n dX9_rule_55 rfl ?_
  refine x_if_ne dX9_rule_56 (fun c56 => ?_) (fun c56 => ?_)
  · exact absurd c56 (by decide)
  refine x_lconst 1 dX9_rule_59 (by decide) ?_
  refine x_goto dX9_rule_60 ?_
  refine x_iload_n dX9_rule_64 rfl ?_
  refine x_i2l dX9_rule_65 ?_
  refine x_cSi dX9_rule_66 ml_X9_98 mX9_isIn (ct_X9_isIn κ.2.1 g ((nI v).toInt64) 1 ((99 : Int32).toInt64)) rfl (Nat.le_of_ble_eq_true rfl) (by decide) (Nat.le_refl _) (Nat.le_refl _) ?_
  refine x_rei (wI (nI v) 1 99) (inL_w (nI v) 1 99 (by first | rfl | decide) (by first | rfl | decide)) ?_
  refine x_rei 1 (show wI (nI v) 1 99 = 1 from wI_nat (n := v) (a := 1) (b := 99) ⟨by omega, by omega, by omega, by omega⟩) ?_
  refine x_if_ne dX9_rule_69 (fun c69 => ?_) (fun c69 => ?_)
  rotate_left
  · exact absurd c69 (by decide)
  refine x_aload_n dX9_rule_79 rfl ?_
  refine x_get dX9_rule_80 0 0 inX9 fl_X9_7 rfl rfl (by decide) rfl ?_
  refine x_bipush 10 dX9_rule_83 (by decide) ?_
  refine x_iload_n dX9_rule_85 rfl ?_
  refine x_iadd dX9_rule_86 ?_
  refine x_rei 10 (by decide) ?_
  refine x_iald dX9_rule_87 2 10 rfl (rfl) (by decide) (by decide) ?_
  refine x_rei (nI (ru 0)) (msg_ru (x := 0) (by omega) (by omega)) ?_
  refine x_istore (lv' := [some (.ref aN), some (.int 0), some (.int (nI v)), some (.int 99), some (.int (nI (ru 0)))]) dX9_rule_88 (xlt rfl) rfl ?_
  refine x_aload_n dX9_rule_90 rfl ?_
  refine x_get dX9_rule_91 0 0 inX9 fl_X9_7 rfl rfl (by decide) rfl ?_
  refine x_bipush 10 dX9_rule_94 (by decide) ?_
  refine x_iload_n dX9_rule_96 rfl ?_
  refine x_iadd dX9_rule_97 ?_
  refine x_rei 10 (by decide) ?_
  refine x_iload_n dX9_rule_98 rfl ?_
  refine x_iast (ws' := [(aN, .inr (9, [.ref aNs, .ref aNk, .int nkp, .ref aNf, .ref aNr, .ref aNp, .ref aNb, .ref aNa, .ref aNt, .int (nI nts), .ref aNbo, .ref aNsz, .ref aNnu, .int (nI nta), .int (nI nop), .int nbd, .int ntp, .int (nI npr), .int nnw, .int nsn, .int nwn, .ref aNl, .ref aNal, .ref aNlo, .int (nI nac), .ref aNw, .ref aNtr, .ref aNis, .ref aNbg, .ref aNow])), (aNf, .inl (g.2.1 0, 8, .inl (nIf (fnF fi)))), (aNs, .inl (g.2.1 0, 919, .inl (msF gr wk z lk sz br (updN ru 0 v) ki ma bb ce hd)))]) dX9_rule_99 2 10 rfl (rfl) (by decide) (by decide) (by rw [mss_ru (x := 0) (by omega) (by omega)]; rfl) ?_
  refine x_iload dX9_rule_100 rfl ?_
  rw [← hQ]
  refine x_iret dX9_rule_102 rfl (Nat.le_of_ble_eq_true rfl) (Nat.le_of_ble_eq_true rfl) ?_
  exact ⟨rfl, rfl⟩

-- == nrule_c1 ==
set_option maxRecDepth 100000 in
set_option maxHeartbeats 4000000 in
theorem ct_nrule_c1 (l : Launch) (g : XG) (aN aNs aNk aNf aNr aNp aNb aNa aNt aNbo aNsz aNnu aNl aNal aNlo aNw aNtr aNis aNbg aNow nts nta nop npr nac : Nat) (nkp nbd ntp nnw nsn nwn : Int32) (fi : Nat → Nat) (v : Int32) (gr wk lk sz br : Nat) (z : Int32) (ru ki ma bb hd : Nat → Nat) (ce : Nat → Int32) (hb : wI v 0 100 = 0) : Ct l g 34 0 0 yX9_rule cX9_rule 5 (some .int) [.ref aN, .int 1, .int v] [(aN, .inr (9, [.ref aNs, .ref aNk, .int nkp, .ref aNf, .ref aNr, .ref aNp, .ref aNb, .ref aNa, .ref aNt, .int (nI nts), .ref aNbo, .ref aNsz, .ref aNnu, .int (nI nta), .int (nI nop), .int nbd, .int ntp, .int (nI npr), .int nnw, .int nsn, .int nwn, .ref aNl, .ref aNal, .ref aNlo, .int (nI nac), .ref aNw, .ref aNtr, .ref aNis, .ref aNbg, .ref aNow])), (aNf, .inl (g.2.1 0, 8, .inl (nIf (fnF fi)))), (aNs, .inl (g.2.1 0, 919, .inl (msF gr wk z lk sz br ru ki ma bb ce hd)))] (xpi (fndI 0) [(aN, .inr (9, [.ref aNs, .ref aNk, .int nkp, .ref aNf, .ref aNr, .ref aNp, .ref aNb, .ref aNa, .ref aNt, .int (nI nts), .ref aNbo, .ref aNsz, .ref aNnu, .int (nI nta), .int (nI nop), .int nbd, .int ntp, .int (nI npr), .int nnw, .int nsn, .int nwn, .ref aNl, .ref aNal, .ref aNlo, .int (nI nac), .ref aNw, .ref aNtr, .ref aNis, .ref aNbg, .ref aNow])), (aNf, .inl (g.2.1 0, 8, .inl (nIf (fnF (updN fi 0 (fi 0 + 1)))))), (aNs, .inl (g.2.1 0, 919, .inl (msF gr wk z lk sz br ru ki ma bb ce hd)))]) := by
  refine Ct.ofX (lv := [some (.ref aN), some (.int 1), some (.int v), none, none]) (by decide) rfl (Nat.le_of_ble_eq_true rfl) (fun κ => ?_)
  generalize hQ : xQ κ g 0 0 _ = Q
  refine x_iload_n dX9_rule_0 rfl ?_
  refine x_i2l dX9_rule_1 ?_
  refine x_lconst 0 dX9_rule_2 (by decide) ?_
  refine x_ldc2 dX9_rule_3 kl_X9_96 ?_
  refine x_cSi dX9_rule_6 ml_X9_98 mX9_isIn (ct_X9_isIn κ.2.1 g ((1 : Int32).toInt64) 0 7) rfl (Nat.le_of_ble_eq_true rfl) (by decide) (Nat.le_refl _) (Nat.le_refl _) ?_
  refine x_rei (1) (by decide) ?_
  refine x_if_ne dX9_rule_9 (fun c9 => ?_) (fun c9 => ?_)
  rotate_left
  · exact absurd c9 (by decide)
  refine x_iload_n dX9_rule_19 rfl ?_
  refine x_if_ne dX9_rule_20 (fun c20 => ?_) (fun c20 => ?_)
  rotate_left
  · exact absurd c20 (by decide)
  refine x_iload_n dX9_rule_28 rfl ?_
  refine x_bipush 6 dX9_rule_29 (by decide) ?_
  refine x_icmp_ne dX9_rule_31 (fun c31 => ?_) (fun c31 => ?_)
  rotate_left
  · exact absurd c31 (by decide)
  refine x_iload_n dX9_rule_39 rfl ?_
  refine x_bipush 7 dX9_rule_40 (by decide) ?_
  refine x_icmp_ne dX9_rule_42 (fun c42 => ?_) (fun c42 => ?_)
  rotate_left
  · exact absurd c42 (by decide)
  refine x_bipush 100 dX9_rule_50 (by decide) ?_
  refine x_istore_n (lv' := [some (.ref aN), some (.int 1), some (.int v), some (.int 100), none]) dX9_rule_52 (xlt rfl) rfl ?_
  refine x_iload_n dX9_rule_53 rfl ?_
  refine x_i2l dX9_rule_54 ?_
  refine x_iload_n dX9_rule_55 rfl ?_
  refine x_if_ne dX9_rule_56 (fun c56 => ?_) (fun c56 => ?_)
  rotate_left
  · exact absurd c56 (by decide)
  refine x_lconst 0 dX9_rule_63 (by decide) ?_
  refine x_iload_n dX9_rule_64 rfl ?_
  refine x_i2l dX9_rule_65 ?_
  refine x_cSi dX9_rule_66 ml_X9_98 mX9_isIn (ct_X9_isIn κ.2.1 g v.toInt64 0 ((100 : Int32).toInt64)) rfl (Nat.le_of_ble_eq_true rfl) (by decide) (Nat.le_refl _) (Nat.le_refl _) ?_
  refine x_rei (wI v 0 100) (inL_w v 0 100 (by first | rfl | decide) (by first | rfl | decide)) ?_
  refine x_if_ne dX9_rule_69 (fun c69 => ?_) (fun c69 => ?_)
  · have c69 : ¬ ((wI v 0 100) = 0) := c69
    exact absurd hb c69
  · have c69 : (wI v 0 100) = 0 := c69
    refine x_aload_n dX9_rule_72 rfl ?_
    refine x_ldc dX9_rule_73 k_X9_87 ?_
    refine x_cVi (ws' := [(aN, .inr (9, [.ref aNs, .ref aNk, .int nkp, .ref aNf, .ref aNr, .ref aNp, .ref aNb, .ref aNa, .ref aNt, .int (nI nts), .ref aNbo, .ref aNsz, .ref aNnu, .int (nI nta), .int (nI nop), .int nbd, .int ntp, .int (nI npr), .int nnw, .int nsn, .int nwn, .ref aNl, .ref aNal, .ref aNlo, .int (nI nac), .ref aNw, .ref aNtr, .ref aNis, .ref aNbg, .ref aNow])), (aNf, .inl (g.2.1 0, 8, .inl (nIf (fnF (updN fi 0 (fi 0 + 1)))))), (aNs, .inl (g.2.1 0, 919, .inl (msF gr wk z lk sz br ru ki ma bb ce hd)))]) dX9_rule_75 ml_X9_88 mX9_finds (ct_finds_0 κ.2.1 g aN aNs aNk aNf aNr aNp aNb aNa aNt aNbo aNsz aNnu aNl aNal aNlo aNw aNtr aNis aNbg aNow nts nta nop npr nac nkp nbd ntp nnw nsn nwn fi) [0, 1] rfl rfl 0 rfl rfl rfl (Nat.le_of_ble_eq_true rfl) (by decide) (Nat.le_refl _) (Nat.le_refl _) (rfl : [aN, aNf] = [aN, aNf]) rfl ?_
    rw [← hQ]
    refine x_iret dX9_rule_78 rfl (Nat.le_of_ble_eq_true rfl) (Nat.le_of_ble_eq_true rfl) ?_
    exact ⟨rfl, rfl⟩

-- == nrule_o1 ==
set_option maxRecDepth 100000 in
set_option maxHeartbeats 4000000 in
theorem ct_nrule_o1 (l : Launch) (g : XG) (aN aNs aNk aNf aNr aNp aNb aNa aNt aNbo aNsz aNnu aNl aNal aNlo aNw aNtr aNis aNbg aNow nts nta nop npr nac : Nat) (nkp nbd ntp nnw nsn nwn : Int32) (fi : Nat → Nat) (v : Nat) (gr wk lk sz br : Nat) (z : Int32) (ru ki ma bb hd : Nat → Nat) (ce : Nat → Int32) (hv : 0 ≤ v ∧ v ≤ 100) : Ct l g 34 0 0 yX9_rule cX9_rule 5 (some .int) [.ref aN, .int 1, .int (nI v)] [(aN, .inr (9, [.ref aNs, .ref aNk, .int nkp, .ref aNf, .ref aNr, .ref aNp, .ref aNb, .ref aNa, .ref aNt, .int (nI nts), .ref aNbo, .ref aNsz, .ref aNnu, .int (nI nta), .int (nI nop), .int nbd, .int ntp, .int (nI npr), .int nnw, .int nsn, .int nwn, .ref aNl, .ref aNal, .ref aNlo, .int (nI nac), .ref aNw, .ref aNtr, .ref aNis, .ref aNbg, .ref aNow])), (aNf, .inl (g.2.1 0, 8, .inl (nIf (fnF fi)))), (aNs, .inl (g.2.1 0, 919, .inl (msF gr wk z lk sz br ru ki ma bb ce hd)))] (xpi (nI (ru 1)) [(aN, .inr (9, [.ref aNs, .ref aNk, .int nkp, .ref aNf, .ref aNr, .ref aNp, .ref aNb, .ref aNa, .ref aNt, .int (nI nts), .ref aNbo, .ref aNsz, .ref aNnu, .int (nI nta), .int (nI nop), .int nbd, .int ntp, .int (nI npr), .int nnw, .int nsn, .int nwn, .ref aNl, .ref aNal, .ref aNlo, .int (nI nac), .ref aNw, .ref aNtr, .ref aNis, .ref aNbg, .ref aNow])), (aNf, .inl (g.2.1 0, 8, .inl (nIf (fnF fi)))), (aNs, .inl (g.2.1 0, 919, .inl (msF gr wk z lk sz br (updN ru 1 v) ki ma bb ce hd)))]) := by
  refine Ct.ofX (lv := [some (.ref aN), some (.int 1), some (.int (nI v)), none, none]) (by decide) rfl (Nat.le_of_ble_eq_true rfl) (fun κ => ?_)
  generalize hQ : xQ κ g 0 0 _ = Q
  refine x_iload_n dX9_rule_0 rfl ?_
  refine x_i2l dX9_rule_1 ?_
  refine x_lconst 0 dX9_rule_2 (by decide) ?_
  refine x_ldc2 dX9_rule_3 kl_X9_96 ?_
  refine x_cSi dX9_rule_6 ml_X9_98 mX9_isIn (ct_X9_isIn κ.2.1 g ((1 : Int32).toInt64) 0 7) rfl (Nat.le_of_ble_eq_true rfl) (by decide) (Nat.le_refl _) (Nat.le_refl _) ?_
  refine x_rei (1) (by decide) ?_
  refine x_if_ne dX9_rule_9 (fun c9 => ?_) (fun c9 => ?_)
  rotate_left
  · exact absurd c9 (by decide)
  refine x_iload_n dX9_rule_19 rfl ?_
  refine x_if_ne dX9_rule_20 (fun c20 => ?_) (fun c20 => ?_)
  rotate_left
  · exact absurd c20 (by decide)
  refine x_iload_n dX9_rule_28 rfl ?_
  refine x_bipush 6 dX9_rule_29 (by decide) ?_
  refine x_icmp_ne dX9_rule_31 (fun c31 => ?_) (fun c31 => ?_)
  rotate_left
  · exact absurd c31 (by decide)
  refine x_iload_n dX9_rule_39 rfl ?_
  refine x_bipush 7 dX9_rule_40 (by decide) ?_
  refine x_icmp_ne dX9_rule_42 (fun c42 => ?_) (fun c42 => ?_)
  rotate_left
  · exact absurd c42 (by decide)
  refine x_bipush 100 dX9_rule_50 (by decide) ?_
  refine x_istore_n (lv' := [some (.ref aN), some (.int 1), some (.int (nI v)), some (.int 100), none]) dX9_rule_52 (xlt rfl) rfl ?_
  refine x_iload_n dX9_rule_53 rfl ?_
  refine x_i2l dX9_rule_54 ?_
  refine x_iload_n dX9_rule_55 rfl ?_
  refine x_if_ne dX9_rule_56 (fun c56 => ?_) (fun c56 => ?_)
  rotate_left
  · exact absurd c56 (by decide)
  refine x_lconst 0 dX9_rule_63 (by decide) ?_
  refine x_iload_n dX9_rule_64 rfl ?_
  refine x_i2l dX9_rule_65 ?_
  refine x_cSi dX9_rule_66 ml_X9_98 mX9_isIn (ct_X9_isIn κ.2.1 g ((nI v).toInt64) 0 ((100 : Int32).toInt64)) rfl (Nat.le_of_ble_eq_true rfl) (by decide) (Nat.le_refl _) (Nat.le_refl _) ?_
  refine x_rei (wI (nI v) 0 100) (inL_w (nI v) 0 100 (by first | rfl | decide) (by first | rfl | decide)) ?_
  refine x_rei 1 (show wI (nI v) 0 100 = 1 from wI_nat (n := v) (a := 0) (b := 100) ⟨by omega, by omega, by omega, by omega⟩) ?_
  refine x_if_ne dX9_rule_69 (fun c69 => ?_) (fun c69 => ?_)
  rotate_left
  · exact absurd c69 (by decide)
  refine x_aload_n dX9_rule_79 rfl ?_
  refine x_get dX9_rule_80 0 0 inX9 fl_X9_7 rfl rfl (by decide) rfl ?_
  refine x_bipush 10 dX9_rule_83 (by decide) ?_
  refine x_iload_n dX9_rule_85 rfl ?_
  refine x_iadd dX9_rule_86 ?_
  refine x_rei 11 (by decide) ?_
  refine x_iald dX9_rule_87 2 11 rfl (rfl) (by decide) (by decide) ?_
  refine x_rei (nI (ru 1)) (msg_ru (x := 1) (by omega) (by omega)) ?_
  refine x_istore (lv' := [some (.ref aN), some (.int 1), some (.int (nI v)), some (.int 100), some (.int (nI (ru 1)))]) dX9_rule_88 (xlt rfl) rfl ?_
  refine x_aload_n dX9_rule_90 rfl ?_
  refine x_get dX9_rule_91 0 0 inX9 fl_X9_7 rfl rfl (by decide) rfl ?_
  refine x_bipush 10 dX9_rule_94 (by decide) ?_
  refine x_iload_n dX9_rule_96 rfl ?_
  refine x_iadd dX9_rule_97 ?_
  refine x_rei 11 (by decide) ?_
  refine x_iload_n dX9_rule_98 rfl ?_
  refine x_iast (ws' := [(aN, .inr (9, [.ref aNs, .ref aNk, .int nkp, .ref aNf, .ref aNr, .ref aNp, .ref aNb, .ref aNa, .ref aNt, .int (nI nts), .ref aNbo, .ref aNsz, .ref aNnu, .int (nI nta), .int (nI nop), .int nbd, .int ntp, .int (nI npr), .int nnw, .int nsn, .int nwn, .ref aNl, .ref aNal, .ref aNlo, .int (nI nac), .ref aNw, .ref aNtr, .ref aNis, .ref aNbg, .ref aNow])), (aNf, .inl (g.2.1 0, 8, .inl (nIf (fnF fi)))), (aNs, .inl (g.2.1 0, 919, .inl (msF gr wk z lk sz br (updN ru 1 v) ki ma bb ce hd)))]) dX9_rule_99 2 11 rfl (rfl) (by decide) (by decide) (by rw [mss_ru (x := 1) (by omega) (by omega)]; rfl) ?_
  refine x_iload dX9_rule_100 rfl ?_
  rw [← hQ]
  refine x_iret dX9_rule_102 rfl (Nat.le_of_ble_eq_true rfl) (Nat.le_of_ble_eq_true rfl) ?_
  exact ⟨rfl, rfl⟩

-- == nrule_c2 ==
set_option maxRecDepth 100000 in
set_option maxHeartbeats 4000000 in
theorem ct_nrule_c2 (l : Launch) (g : XG) (aN aNs aNk aNf aNr aNp aNb aNa aNt aNbo aNsz aNnu aNl aNal aNlo aNw aNtr aNis aNbg aNow nts nta nop npr nac : Nat) (nkp nbd ntp nnw nsn nwn : Int32) (fi : Nat → Nat) (v : Int32) (gr wk lk sz br : Nat) (z : Int32) (ru ki ma bb hd : Nat → Nat) (ce : Nat → Int32) (hb : wI v 0 100 = 0) : Ct l g 34 0 0 yX9_rule cX9_rule 5 (some .int) [.ref aN, .int 2, .int v] [(aN, .inr (9, [.ref aNs, .ref aNk, .int nkp, .ref aNf, .ref aNr, .ref aNp, .ref aNb, .ref aNa, .ref aNt, .int (nI nts), .ref aNbo, .ref aNsz, .ref aNnu, .int (nI nta), .int (nI nop), .int nbd, .int ntp, .int (nI npr), .int nnw, .int nsn, .int nwn, .ref aNl, .ref aNal, .ref aNlo, .int (nI nac), .ref aNw, .ref aNtr, .ref aNis, .ref aNbg, .ref aNow])), (aNf, .inl (g.2.1 0, 8, .inl (nIf (fnF fi)))), (aNs, .inl (g.2.1 0, 919, .inl (msF gr wk z lk sz br ru ki ma bb ce hd)))] (xpi (fndI 0) [(aN, .inr (9, [.ref aNs, .ref aNk, .int nkp, .ref aNf, .ref aNr, .ref aNp, .ref aNb, .ref aNa, .ref aNt, .int (nI nts), .ref aNbo, .ref aNsz, .ref aNnu, .int (nI nta), .int (nI nop), .int nbd, .int ntp, .int (nI npr), .int nnw, .int nsn, .int nwn, .ref aNl, .ref aNal, .ref aNlo, .int (nI nac), .ref aNw, .ref aNtr, .ref aNis, .ref aNbg, .ref aNow])), (aNf, .inl (g.2.1 0, 8, .inl (nIf (fnF (updN fi 0 (fi 0 + 1)))))), (aNs, .inl (g.2.1 0, 919, .inl (msF gr wk z lk sz br ru ki ma bb ce hd)))]) := by
  refine Ct.ofX (lv := [some (.ref aN), some (.int 2), some (.int v), none, none]) (by decide) rfl (Nat.le_of_ble_eq_true rfl) (fun κ => ?_)
  generalize hQ : xQ κ g 0 0 _ = Q
  refine x_iload_n dX9_rule_0 rfl ?_
  refine x_i2l dX9_rule_1 ?_
  refine x_lconst 0 dX9_rule_2 (by decide) ?_
  refine x_ldc2 dX9_rule_3 kl_X9_96 ?_
  refine x_cSi dX9_rule_6 ml_X9_98 mX9_isIn (ct_X9_isIn κ.2.1 g ((2 : Int32).toInt64) 0 7) rfl (Nat.le_of_ble_eq_true rfl) (by decide) (Nat.le_refl _) (Nat.le_refl _) ?_
  refine x_rei (1) (by decide) ?_
  refine x_if_ne dX9_rule_9 (fun c9 => ?_) (fun c9 => ?_)
  rotate_left
  · exact absurd c9 (by decide)
  refine x_iload_n dX9_rule_19 rfl ?_
  refine x_if_ne dX9_rule_20 (fun c20 => ?_) (fun c20 => ?_)
  rotate_left
  · exact absurd c20 (by decide)
  refine x_iload_n dX9_rule_28 rfl ?_
  refine x_bipush 6 dX9_rule_29 (by decide) ?_
  refine x_icmp_ne dX9_rule_31 (fun c31 => ?_) (fun c31 => ?_)
  rotate_left
  · exact absurd c31 (by decide)
  refine x_iload_n dX9_rule_39 rfl ?_
  refine x_bipush 7 dX9_rule_40 (by decide) ?_
  refine x_icmp_ne dX9_rule_42 (fun c42 => ?_) (fun c42 => ?_)
  rotate_left
  · exact absurd c42 (by decide)
  refine x_bipush 100 dX9_rule_50 (by decide) ?_
  refine x_istore_n (lv' := [some (.ref aN), some (.int 2), some (.int v), some (.int 100), none]) dX9_rule_52 (xlt rfl) rfl ?_
  refine x_iload_n dX9_rule_53 rfl ?_
  refine x_i2l dX9_rule_54 ?_
  refine x_iload_n dX9_rule_55 rfl ?_
  refine x_if_ne dX9_rule_56 (fun c56 => ?_) (fun c56 => ?_)
  rotate_left
  · exact absurd c56 (by decide)
  refine x_lconst 0 dX9_rule_63 (by decide) ?_
  refine x_iload_n dX9_rule_64 rfl ?_
  refine x_i2l dX9_rule_65 ?_
  refine x_cSi dX9_rule_66 ml_X9_98 mX9_isIn (ct_X9_isIn κ.2.1 g v.toInt64 0 ((100 : Int32).toInt64)) rfl (Nat.le_of_ble_eq_true rfl) (by decide) (Nat.le_refl _) (Nat.le_refl _) ?_
  refine x_rei (wI v 0 100) (inL_w v 0 100 (by first | rfl | decide) (by first | rfl | decide)) ?_
  refine x_if_ne dX9_rule_69 (fun c69 => ?_) (fun c69 => ?_)
  · have c69 : ¬ ((wI v 0 100) = 0) := c69
    exact absurd hb c69
  · have c69 : (wI v 0 100) = 0 := c69
    refine x_aload_n dX9_rule_72 rfl ?_
    refine x_ldc dX9_rule_73 k_X9_87 ?_
    refine x_cVi (ws' := [(aN, .inr (9, [.ref aNs, .ref aNk, .int nkp, .ref aNf, .ref aNr, .ref aNp, .ref aNb, .ref aNa, .ref aNt, .int (nI nts), .ref aNbo, .ref aNsz, .ref aNnu, .int (nI nta), .int (nI nop), .int nbd, .int ntp, .int (nI npr), .int nnw, .int nsn, .int nwn, .ref aNl, .ref aNal, .ref aNlo, .int (nI nac), .ref aNw, .ref aNtr, .ref aNis, .ref aNbg, .ref aNow])), (aNf, .inl (g.2.1 0, 8, .inl (nIf (fnF (updN fi 0 (fi 0 + 1)))))), (aNs, .inl (g.2.1 0, 919, .inl (msF gr wk z lk sz br ru ki ma bb ce hd)))]) dX9_rule_75 ml_X9_88 mX9_finds (ct_finds_0 κ.2.1 g aN aNs aNk aNf aNr aNp aNb aNa aNt aNbo aNsz aNnu aNl aNal aNlo aNw aNtr aNis aNbg aNow nts nta nop npr nac nkp nbd ntp nnw nsn nwn fi) [0, 1] rfl rfl 0 rfl rfl rfl (Nat.le_of_ble_eq_true rfl) (by decide) (Nat.le_refl _) (Nat.le_refl _) (rfl : [aN, aNf] = [aN, aNf]) rfl ?_
    rw [← hQ]
    refine x_iret dX9_rule_78 rfl (Nat.le_of_ble_eq_true rfl) (Nat.le_of_ble_eq_true rfl) ?_
    exact ⟨rfl, rfl⟩

-- == nrule_o2 ==
set_option maxRecDepth 100000 in
set_option maxHeartbeats 4000000 in
theorem ct_nrule_o2 (l : Launch) (g : XG) (aN aNs aNk aNf aNr aNp aNb aNa aNt aNbo aNsz aNnu aNl aNal aNlo aNw aNtr aNis aNbg aNow nts nta nop npr nac : Nat) (nkp nbd ntp nnw nsn nwn : Int32) (fi : Nat → Nat) (v : Nat) (gr wk lk sz br : Nat) (z : Int32) (ru ki ma bb hd : Nat → Nat) (ce : Nat → Int32) (hv : 0 ≤ v ∧ v ≤ 100) : Ct l g 34 0 0 yX9_rule cX9_rule 5 (some .int) [.ref aN, .int 2, .int (nI v)] [(aN, .inr (9, [.ref aNs, .ref aNk, .int nkp, .ref aNf, .ref aNr, .ref aNp, .ref aNb, .ref aNa, .ref aNt, .int (nI nts), .ref aNbo, .ref aNsz, .ref aNnu, .int (nI nta), .int (nI nop), .int nbd, .int ntp, .int (nI npr), .int nnw, .int nsn, .int nwn, .ref aNl, .ref aNal, .ref aNlo, .int (nI nac), .ref aNw, .ref aNtr, .ref aNis, .ref aNbg, .ref aNow])), (aNf, .inl (g.2.1 0, 8, .inl (nIf (fnF fi)))), (aNs, .inl (g.2.1 0, 919, .inl (msF gr wk z lk sz br ru ki ma bb ce hd)))] (xpi (nI (ru 2)) [(aN, .inr (9, [.ref aNs, .ref aNk, .int nkp, .ref aNf, .ref aNr, .ref aNp, .ref aNb, .ref aNa, .ref aNt, .int (nI nts), .ref aNbo, .ref aNsz, .ref aNnu, .int (nI nta), .int (nI nop), .int nbd, .int ntp, .int (nI npr), .int nnw, .int nsn, .int nwn, .ref aNl, .ref aNal, .ref aNlo, .int (nI nac), .ref aNw, .ref aNtr, .ref aNis, .ref aNbg, .ref aNow])), (aNf, .inl (g.2.1 0, 8, .inl (nIf (fnF fi)))), (aNs, .inl (g.2.1 0, 919, .inl (msF gr wk z lk sz br (updN ru 2 v) ki ma bb ce hd)))]) := by
  refine Ct.ofX (lv := [some (.ref aN), some (.int 2), some (.int (nI v)), none, none]) (by decide) rfl (Nat.le_of_ble_eq_true rfl) (fun κ => ?_)
  generalize hQ : xQ κ g 0 0 _ = Q
  refine x_iload_n dX9_rule_0 rfl ?_
  refine x_i2l dX9_rule_1 ?_
  refine x_lconst 0 dX9_rule_2 (by decide) ?_
  refine x_ldc2 dX9_rule_3 kl_X9_96 ?_
  refine x_cSi dX9_rule_6 ml_X9_98 mX9_isIn (ct_X9_isIn κ.2.1 g ((2 : Int32).toInt64) 0 7) rfl (Nat.le_of_ble_eq_true rfl) (by decide) (Nat.le_refl _) (Nat.le_refl _) ?_
  refine x_rei (1) (by decide) ?_
  refine x_if_ne dX9_rule_9 (fun c9 => ?_) (fun c9 => ?_)
  rotate_left
  · exact absurd c9 (by decide)
  refine x_iload_n dX9_rule_19 rfl ?_
  refine x_if_ne dX9_rule_20 (fun c20 => ?_) (fun c20 => ?_)
  rotate_left
  · exact absurd c20 (by decide)
  refine x_iload_n dX9_rule_28 rfl ?_
  refine x_bipush 6 dX9_rule_29 (by decide) ?_
  refine x_icmp_ne dX9_rule_31 (fun c31 => ?_) (fun c31 => ?_)
  rotate_left
  · exact absurd c31 (by decide)
  refine x_iload_n dX9_rule_39 rfl ?_
  refine x_bipush 7 dX9_rule_40 (by decide) ?_
  refine x_icmp_ne dX9_rule_42 (fun c42 => ?_) (fun c42 => ?_)
  rotate_left
  · exact absurd c42 (by decide)
  refine x_bipush 100 dX9_rule_50 (by decide) ?_
  refine x_istore_n (lv' := [some (.ref aN), some (.int 2), some (.int (nI v)), some (.int 100), none]) dX9_rule_52 (xlt rfl) rfl ?_
  refine x_iload_n dX9_rule_53 rfl ?_
  refine x_i2l dX9_rule_54 ?_
  refine x_iload_n dX9_rule_55 rfl ?_
  refine x_if_ne dX9_rule_56 (fun c56 => ?_) (fun c56 => ?_)
  rotate_left
  · exact absurd c56 (by decide)
  refine x_lconst 0 dX9_rule_63 (by decide) ?_
  refine x_iload_n dX9_rule_64 rfl ?_
  refine x_i2l dX9_rule_65 ?_
  refine x_cSi dX9_rule_66 ml_X9_98 mX9_isIn (ct_X9_isIn κ.2.1 g ((nI v).toInt64) 0 ((100 : Int32).toInt64)) rfl (Nat.le_of_ble_eq_true rfl) (by decide) (Nat.le_refl _) (Nat.le_refl _) ?_
  refine x_rei (wI (nI v) 0 100) (inL_w (nI v) 0 100 (by first | rfl | decide) (by first | rfl | decide)) ?_
  refine x_rei 1 (show wI (nI v) 0 100 = 1 from wI_nat (n := v) (a := 0) (b := 100) ⟨by omega, by omega, by omega, by omega⟩) ?_
  refine x_if_ne dX9_rule_69 (fun c69 => ?_) (fun c69 => ?_)
  rotate_left
  · exact absurd c69 (by decide)
  refine x_aload_n dX9_rule_79 rfl ?_
  refine x_get dX9_rule_80 0 0 inX9 fl_X9_7 rfl rfl (by decide) rfl ?_
  refine x_bipush 10 dX9_rule_83 (by decide) ?_
  refine x_iload_n dX9_rule_85 rfl ?_
  refine x_iadd dX9_rule_86 ?_
  refine x_rei 12 (by decide) ?_
  refine x_iald dX9_rule_87 2 12 rfl (rfl) (by decide) (by decide) ?_
  refine x_rei (nI (ru 2)) (msg_ru (x := 2) (by omega) (by omega)) ?_
  refine x_istore (lv' := [some (.ref aN), some (.int 2), some (.int (nI v)), some (.int 100), some (.int (nI (ru 2)))]) dX9_rule_88 (xlt rfl) rfl ?_
  refine x_aload_n dX9_rule_90 rfl ?_
  refine x_get dX9_rule_91 0 0 inX9 fl_X9_7 rfl rfl (by decide) rfl ?_
  refine x_bipush 10 dX9_rule_94 (by decide) ?_
  refine x_iload_n dX9_rule_96 rfl ?_
  refine x_iadd dX9_rule_97 ?_
  refine x_rei 12 (by decide) ?_
  refine x_iload_n dX9_rule_98 rfl ?_
  refine x_iast (ws' := [(aN, .inr (9, [.ref aNs, .ref aNk, .int nkp, .ref aNf, .ref aNr, .ref aNp, .ref aNb, .ref aNa, .ref aNt, .int (nI nts), .ref aNbo, .ref aNsz, .ref aNnu, .int (nI nta), .int (nI nop), .int nbd, .int ntp, .int (nI npr), .int nnw, .int nsn, .int nwn, .ref aNl, .ref aNal, .ref aNlo, .int (nI nac), .ref aNw, .ref aNtr, .ref aNis, .ref aNbg, .ref aNow])), (aNf, .inl (g.2.1 0, 8, .inl (nIf (fnF fi)))), (aNs, .inl (g.2.1 0, 919, .inl (msF gr wk z lk sz br (updN ru 2 v) ki ma bb ce hd)))]) dX9_rule_99 2 12 rfl (rfl) (by decide) (by decide) (by rw [mss_ru (x := 2) (by omega) (by omega)]; rfl) ?_
  refine x_iload dX9_rule_100 rfl ?_
  rw [← hQ]
  refine x_iret dX9_rule_102 rfl (Nat.le_of_ble_eq_true rfl) (Nat.le_of_ble_eq_true rfl) ?_
  exact ⟨rfl, rfl⟩

-- == nrule_c3 ==
set_option maxRecDepth 100000 in
set_option maxHeartbeats 4000000 in
theorem ct_nrule_c3 (l : Launch) (g : XG) (aN aNs aNk aNf aNr aNp aNb aNa aNt aNbo aNsz aNnu aNl aNal aNlo aNw aNtr aNis aNbg aNow nts nta nop npr nac : Nat) (nkp nbd ntp nnw nsn nwn : Int32) (fi : Nat → Nat) (v : Int32) (gr wk lk sz br : Nat) (z : Int32) (ru ki ma bb hd : Nat → Nat) (ce : Nat → Int32) (hb : wI v 0 100 = 0) : Ct l g 34 0 0 yX9_rule cX9_rule 5 (some .int) [.ref aN, .int 3, .int v] [(aN, .inr (9, [.ref aNs, .ref aNk, .int nkp, .ref aNf, .ref aNr, .ref aNp, .ref aNb, .ref aNa, .ref aNt, .int (nI nts), .ref aNbo, .ref aNsz, .ref aNnu, .int (nI nta), .int (nI nop), .int nbd, .int ntp, .int (nI npr), .int nnw, .int nsn, .int nwn, .ref aNl, .ref aNal, .ref aNlo, .int (nI nac), .ref aNw, .ref aNtr, .ref aNis, .ref aNbg, .ref aNow])), (aNf, .inl (g.2.1 0, 8, .inl (nIf (fnF fi)))), (aNs, .inl (g.2.1 0, 919, .inl (msF gr wk z lk sz br ru ki ma bb ce hd)))] (xpi (fndI 0) [(aN, .inr (9, [.ref aNs, .ref aNk, .int nkp, .ref aNf, .ref aNr, .ref aNp, .ref aNb, .ref aNa, .ref aNt, .int (nI nts), .ref aNbo, .ref aNsz, .ref aNnu, .int (nI nta), .int (nI nop), .int nbd, .int ntp, .int (nI npr), .int nnw, .int nsn, .int nwn, .ref aNl, .ref aNal, .ref aNlo, .int (nI nac), .ref aNw, .ref aNtr, .ref aNis, .ref aNbg, .ref aNow])), (aNf, .inl (g.2.1 0, 8, .inl (nIf (fnF (updN fi 0 (fi 0 + 1)))))), (aNs, .inl (g.2.1 0, 919, .inl (msF gr wk z lk sz br ru ki ma bb ce hd)))]) := by
  refine Ct.ofX (lv := [some (.ref aN), some (.int 3), some (.int v), none, none]) (by decide) rfl (Nat.le_of_ble_eq_true rfl) (fun κ => ?_)
  generalize hQ : xQ κ g 0 0 _ = Q
  refine x_iload_n dX9_rule_0 rfl ?_
  refine x_i2l dX9_rule_1 ?_
  refine x_lconst 0 dX9_rule_2 (by decide) ?_
  refine x_ldc2 dX9_rule_3 kl_X9_96 ?_
  refine x_cSi dX9_rule_6 ml_X9_98 mX9_isIn (ct_X9_isIn κ.2.1 g ((3 : Int32).toInt64) 0 7) rfl (Nat.le_of_ble_eq_true rfl) (by decide) (Nat.le_refl _) (Nat.le_refl _) ?_
  refine x_rei (1) (by decide) ?_
  refine x_if_ne dX9_rule_9 (fun c9 => ?_) (fun c9 => ?_)
  rotate_left
  · exact absurd c9 (by decide)
  refine x_iload_n dX9_rule_19 rfl ?_
  refine x_if_ne dX9_rule_20 (fun c20 => ?_) (fun c20 => ?_)
  rotate_left
  · exact absurd c20 (by decide)
  refine x_iload_n dX9_rule_28 rfl ?_
  refine x_bipush 6 dX9_rule_29 (by decide) ?_
  refine x_icmp_ne dX9_rule_31 (fun c31 => ?_) (fun c31 => ?_)
  rotate_left
  · exact absurd c31 (by decide)
  refine x_iload_n dX9_rule_39 rfl ?_
  refine x_bipush 7 dX9_rule_40 (by decide) ?_
  refine x_icmp_ne dX9_rule_42 (fun c42 => ?_) (fun c42 => ?_)
  rotate_left
  · exact absurd c42 (by decide)
  refine x_bipush 100 dX9_rule_50 (by decide) ?_
  refine x_istore_n (lv' := [some (.ref aN), some (.int 3), some (.int v), some (.int 100), none]) dX9_rule_52 (xlt rfl) rfl ?_
  refine x_iload_n dX9_rule_53 rfl ?_
  refine x_i2l dX9_rule_54 ?_
  refine x_iload_n dX9_rule_55 rfl ?_
  refine x_if_ne dX9_rule_56 (fun c56 => ?_) (fun c56 => ?_)
  rotate_left
  · exact absurd c56 (by decide)
  refine x_lconst 0 dX9_rule_63 (by decide) ?_
  refine x_iload_n dX9_rule_64 rfl ?_
  refine x_i2l dX9_rule_65 ?_
  refine x_cSi dX9_rule_66 ml_X9_98 mX9_isIn (ct_X9_isIn κ.2.1 g v.toInt64 0 ((100 : Int32).toInt64)) rfl (Nat.le_of_ble_eq_true rfl) (by decide) (Nat.le_refl _) (Nat.le_refl _) ?_
  refine x_rei (wI v 0 100) (inL_w v 0 100 (by first | rfl | decide) (by first | rfl | decide)) ?_
  refine x_if_ne dX9_rule_69 (fun c69 => ?_) (fun c69 => ?_)
  · have c69 : ¬ ((wI v 0 100) = 0) := c69
    exact absurd hb c69
  · have c69 : (wI v 0 100) = 0 := c69
    refine x_aload_n dX9_rule_72 rfl ?_
    refine x_ldc dX9_rule_73 k_X9_87 ?_
    refine x_cVi (ws' := [(aN, .inr (9, [.ref aNs, .ref aNk, .int nkp, .ref aNf, .ref aNr, .ref aNp, .ref aNb, .ref aNa, .ref aNt, .int (nI nts), .ref aNbo, .ref aNsz, .ref aNnu, .int (nI nta), .int (nI nop), .int nbd, .int ntp, .int (nI npr), .int nnw, .int nsn, .int nwn, .ref aNl, .ref aNal, .ref aNlo, .int (nI nac), .ref aNw, .ref aNtr, .ref aNis, .ref aNbg, .ref aNow])), (aNf, .inl (g.2.1 0, 8, .inl (nIf (fnF (updN fi 0 (fi 0 + 1)))))), (aNs, .inl (g.2.1 0, 919, .inl (msF gr wk z lk sz br ru ki ma bb ce hd)))]) dX9_rule_75 ml_X9_88 mX9_finds (ct_finds_0 κ.2.1 g aN aNs aNk aNf aNr aNp aNb aNa aNt aNbo aNsz aNnu aNl aNal aNlo aNw aNtr aNis aNbg aNow nts nta nop npr nac nkp nbd ntp nnw nsn nwn fi) [0, 1] rfl rfl 0 rfl rfl rfl (Nat.le_of_ble_eq_true rfl) (by decide) (Nat.le_refl _) (Nat.le_refl _) (rfl : [aN, aNf] = [aN, aNf]) rfl ?_
    rw [← hQ]
    refine x_iret dX9_rule_78 rfl (Nat.le_of_ble_eq_true rfl) (Nat.le_of_ble_eq_true rfl) ?_
    exact ⟨rfl, rfl⟩

-- == nrule_o3 ==
set_option maxRecDepth 100000 in
set_option maxHeartbeats 4000000 in
theorem ct_nrule_o3 (l : Launch) (g : XG) (aN aNs aNk aNf aNr aNp aNb aNa aNt aNbo aNsz aNnu aNl aNal aNlo aNw aNtr aNis aNbg aNow nts nta nop npr nac : Nat) (nkp nbd ntp nnw nsn nwn : Int32) (fi : Nat → Nat) (v : Nat) (gr wk lk sz br : Nat) (z : Int32) (ru ki ma bb hd : Nat → Nat) (ce : Nat → Int32) (hv : 0 ≤ v ∧ v ≤ 100) : Ct l g 34 0 0 yX9_rule cX9_rule 5 (some .int) [.ref aN, .int 3, .int (nI v)] [(aN, .inr (9, [.ref aNs, .ref aNk, .int nkp, .ref aNf, .ref aNr, .ref aNp, .ref aNb, .ref aNa, .ref aNt, .int (nI nts), .ref aNbo, .ref aNsz, .ref aNnu, .int (nI nta), .int (nI nop), .int nbd, .int ntp, .int (nI npr), .int nnw, .int nsn, .int nwn, .ref aNl, .ref aNal, .ref aNlo, .int (nI nac), .ref aNw, .ref aNtr, .ref aNis, .ref aNbg, .ref aNow])), (aNf, .inl (g.2.1 0, 8, .inl (nIf (fnF fi)))), (aNs, .inl (g.2.1 0, 919, .inl (msF gr wk z lk sz br ru ki ma bb ce hd)))] (xpi (nI (ru 3)) [(aN, .inr (9, [.ref aNs, .ref aNk, .int nkp, .ref aNf, .ref aNr, .ref aNp, .ref aNb, .ref aNa, .ref aNt, .int (nI nts), .ref aNbo, .ref aNsz, .ref aNnu, .int (nI nta), .int (nI nop), .int nbd, .int ntp, .int (nI npr), .int nnw, .int nsn, .int nwn, .ref aNl, .ref aNal, .ref aNlo, .int (nI nac), .ref aNw, .ref aNtr, .ref aNis, .ref aNbg, .ref aNow])), (aNf, .inl (g.2.1 0, 8, .inl (nIf (fnF fi)))), (aNs, .inl (g.2.1 0, 919, .inl (msF gr wk z lk sz br (updN ru 3 v) ki ma bb ce hd)))]) := by
  refine Ct.ofX (lv := [some (.ref aN), some (.int 3), some (.int (nI v)), none, none]) (by decide) rfl (Nat.le_of_ble_eq_true rfl) (fun κ => ?_)
  generalize hQ : xQ κ g 0 0 _ = Q
  refine x_iload_n dX9_rule_0 rfl ?_
  refine x_i2l dX9_rule_1 ?_
  refine x_lconst 0 dX9_rule_2 (by decide) ?_
  refine x_ldc2 dX9_rule_3 kl_X9_96 ?_
  refine x_cSi dX9_rule_6 ml_X9_98 mX9_isIn (ct_X9_isIn κ.2.1 g ((3 : Int32).toInt64) 0 7) rfl (Nat.le_of_ble_eq_true rfl) (by decide) (Nat.le_refl _) (Nat.le_refl _) ?_
  refine x_rei (1) (by decide) ?_
  refine x_if_ne dX9_rule_9 (fun c9 => ?_) (fun c9 => ?_)
  rotate_left
  · exact absurd c9 (by decide)
  refine x_iload_n dX9_rule_19 rfl ?_
  refine x_if_ne dX9_rule_20 (fun c20 => ?_) (fun c20 => ?_)
  rotate_left
  · exact absurd c20 (by decide)
  refine x_iload_n dX9_rule_28 rfl ?_
  refine x_bipush 6 dX9_rule_29 (by decide) ?_
  refine x_icmp_ne dX9_rule_31 (fun c31 => ?_) (fun c31 => ?_)
  rotate_left
  · exact absurd c31 (by decide)
  refine x_iload_n dX9_rule_39 rfl ?_
  refine x_bipush 7 dX9_rule_40 (by decide) ?_
  refine x_icmp_ne dX9_rule_42 (fun c42 => ?_) (fun c42 => ?_)
  rotate_left
  · exact absurd c42 (by decide)
  refine x_bipush 100 dX9_rule_50 (by decide) ?_
  refine x_istore_n (lv' := [some (.ref aN), some (.int 3), some (.int (nI v)), some (.int 100), none]) dX9_rule_52 (xlt rfl) rfl ?_
  refine x_iload_n dX9_rule_53 rfl ?_
  refine x_i2l dX9_rule_54 ?_
  refine x_iload_n dX9_rule_55 rfl ?_
  refine x_if_ne dX9_rule_56 (fun c56 => ?_) (fun c56 => ?_)
  rotate_left
  · exact absurd c56 (by decide)
  refine x_lconst 0 dX9_rule_63 (by decide) ?_
  refine x_iload_n dX9_rule_64 rfl ?_
  refine x_i2l dX9_rule_65 ?_
  refine x_cSi dX9_rule_66 ml_X9_98 mX9_isIn (ct_X9_isIn κ.2.1 g ((nI v).toInt64) 0 ((100 : Int32).toInt64)) rfl (Nat.le_of_ble_eq_true rfl) (by decide) (Nat.le_refl _) (Nat.le_refl _) ?_
  refine x_rei (wI (nI v) 0 100) (inL_w (nI v) 0 100 (by first | rfl | decide) (by first | rfl | decide)) ?_
  refine x_rei 1 (show wI (nI v) 0 100 = 1 from wI_nat (n := v) (a := 0) (b := 100) ⟨by omega, by omega, by omega, by omega⟩) ?_
  refine x_if_ne dX9_rule_69 (fun c69 => ?_) (fun c69 => ?_)
  rotate_left
  · exact absurd c69 (by decide)
  refine x_aload_n dX9_rule_79 rfl ?_
  refine x_get dX9_rule_80 0 0 inX9 fl_X9_7 rfl rfl (by decide) rfl ?_
  refine x_bipush 10 dX9_rule_83 (by decide) ?_
  refine x_iload_n dX9_rule_85 rfl ?_
  refine x_iadd dX9_rule_86 ?_
  refine x_rei 13 (by decide) ?_
  refine x_iald dX9_rule_87 2 13 rfl (rfl) (by decide) (by decide) ?_
  refine x_rei (nI (ru 3)) (msg_ru (x := 3) (by omega) (by omega)) ?_
  refine x_istore (lv' := [some (.ref aN), some (.int 3), some (.int (nI v)), some (.int 100), some (.int (nI (ru 3)))]) dX9_rule_88 (xlt rfl) rfl ?_
  refine x_aload_n dX9_rule_90 rfl ?_
  refine x_get dX9_rule_91 0 0 inX9 fl_X9_7 rfl rfl (by decide) rfl ?_
  refine x_bipush 10 dX9_rule_94 (by decide) ?_
  refine x_iload_n dX9_rule_96 rfl ?_
  refine x_iadd dX9_rule_97 ?_
  refine x_rei 13 (by decide) ?_
  refine x_iload_n dX9_rule_98 rfl ?_
  refine x_iast (ws' := [(aN, .inr (9, [.ref aNs, .ref aNk, .int nkp, .ref aNf, .ref aNr, .ref aNp, .ref aNb, .ref aNa, .ref aNt, .int (nI nts), .ref aNbo, .ref aNsz, .ref aNnu, .int (nI nta), .int (nI nop), .int nbd, .int ntp, .int (nI npr), .int nnw, .int nsn, .int nwn, .ref aNl, .ref aNal, .ref aNlo, .int (nI nac), .ref aNw, .ref aNtr, .ref aNis, .ref aNbg, .ref aNow])), (aNf, .inl (g.2.1 0, 8, .inl (nIf (fnF fi)))), (aNs, .inl (g.2.1 0, 919, .inl (msF gr wk z lk sz br (updN ru 3 v) ki ma bb ce hd)))]) dX9_rule_99 2 13 rfl (rfl) (by decide) (by decide) (by rw [mss_ru (x := 3) (by omega) (by omega)]; rfl) ?_
  refine x_iload dX9_rule_100 rfl ?_
  rw [← hQ]
  refine x_iret dX9_rule_102 rfl (Nat.le_of_ble_eq_true rfl) (Nat.le_of_ble_eq_true rfl) ?_
  exact ⟨rfl, rfl⟩

-- == nrule_c4 ==
set_option maxRecDepth 100000 in
set_option maxHeartbeats 4000000 in
theorem ct_nrule_c4 (l : Launch) (g : XG) (aN aNs aNk aNf aNr aNp aNb aNa aNt aNbo aNsz aNnu aNl aNal aNlo aNw aNtr aNis aNbg aNow nts nta nop npr nac : Nat) (nkp nbd ntp nnw nsn nwn : Int32) (fi : Nat → Nat) (v : Int32) (gr wk lk sz br : Nat) (z : Int32) (ru ki ma bb hd : Nat → Nat) (ce : Nat → Int32) (hb : wI v 0 100 = 0) : Ct l g 34 0 0 yX9_rule cX9_rule 5 (some .int) [.ref aN, .int 4, .int v] [(aN, .inr (9, [.ref aNs, .ref aNk, .int nkp, .ref aNf, .ref aNr, .ref aNp, .ref aNb, .ref aNa, .ref aNt, .int (nI nts), .ref aNbo, .ref aNsz, .ref aNnu, .int (nI nta), .int (nI nop), .int nbd, .int ntp, .int (nI npr), .int nnw, .int nsn, .int nwn, .ref aNl, .ref aNal, .ref aNlo, .int (nI nac), .ref aNw, .ref aNtr, .ref aNis, .ref aNbg, .ref aNow])), (aNf, .inl (g.2.1 0, 8, .inl (nIf (fnF fi)))), (aNs, .inl (g.2.1 0, 919, .inl (msF gr wk z lk sz br ru ki ma bb ce hd)))] (xpi (fndI 0) [(aN, .inr (9, [.ref aNs, .ref aNk, .int nkp, .ref aNf, .ref aNr, .ref aNp, .ref aNb, .ref aNa, .ref aNt, .int (nI nts), .ref aNbo, .ref aNsz, .ref aNnu, .int (nI nta), .int (nI nop), .int nbd, .int ntp, .int (nI npr), .int nnw, .int nsn, .int nwn, .ref aNl, .ref aNal, .ref aNlo, .int (nI nac), .ref aNw, .ref aNtr, .ref aNis, .ref aNbg, .ref aNow])), (aNf, .inl (g.2.1 0, 8, .inl (nIf (fnF (updN fi 0 (fi 0 + 1)))))), (aNs, .inl (g.2.1 0, 919, .inl (msF gr wk z lk sz br ru ki ma bb ce hd)))]) := by
  refine Ct.ofX (lv := [some (.ref aN), some (.int 4), some (.int v), none, none]) (by decide) rfl (Nat.le_of_ble_eq_true rfl) (fun κ => ?_)
  generalize hQ : xQ κ g 0 0 _ = Q
  refine x_iload_n dX9_rule_0 rfl ?_
  refine x_i2l dX9_rule_1 ?_
  refine x_lconst 0 dX9_rule_2 (by decide) ?_
  refine x_ldc2 dX9_rule_3 kl_X9_96 ?_
  refine x_cSi dX9_rule_6 ml_X9_98 mX9_isIn (ct_X9_isIn κ.2.1 g ((4 : Int32).toInt64) 0 7) rfl (Nat.le_of_ble_eq_true rfl) (by decide) (Nat.le_refl _) (Nat.le_refl _) ?_
  refine x_rei (1) (by decide) ?_
  refine x_if_ne dX9_rule_9 (fun c9 => ?_) (fun c9 => ?_)
  rotate_left
  · exact absurd c9 (by decide)
  refine x_iload_n dX9_rule_19 rfl ?_
  refine x_if_ne dX9_rule_20 (fun c20 => ?_) (fun c20 => ?_)
  rotate_left
  · exact absurd c20 (by decide)
  refine x_iload_n dX9_rule_28 rfl ?_
  refine x_bipush 6 dX9_rule_29 (by decide) ?_
  refine x_icmp_ne dX9_rule_31 (fun c31 => ?_) (fun c31 => ?_)
  rotate_left
  · exact absurd c31 (by decide)
  refine x_iload_n dX9_rule_39 rfl ?_
  refine x_bipush 7 dX9_rule_40 (by decide) ?_
  refine x_icmp_ne dX9_rule_42 (fun c42 => ?_) (fun c42 => ?_)
  rotate_left
  · exact absurd c42 (by decide)
  refine x_bipush 100 dX9_rule_50 (by decide) ?_
  refine x_istore_n (lv' := [some (.ref aN), some (.int 4), some (.int v), some (.int 100), none]) dX9_rule_52 (xlt rfl) rfl ?_
  refine x_iload_n dX9_rule_53 rfl ?_
  refine x_i2l dX9_rule_54 ?_
  refine x_iload_n dX9_rule_55 rfl ?_
  refine x_if_ne dX9_rule_56 (fun c56 => ?_) (fun c56 => ?_)
  rotate_left
  · exact absurd c56 (by decide)
  refine x_lconst 0 dX9_rule_63 (by decide) ?_
  refine x_iload_n dX9_rule_64 rfl ?_
  refine x_i2l dX9_rule_65 ?_
  refine x_cSi dX9_rule_66 ml_X9_98 mX9_isIn (ct_X9_isIn κ.2.1 g v.toInt64 0 ((100 : Int32).toInt64)) rfl (Nat.le_of_ble_eq_true rfl) (by decide) (Nat.le_refl _) (Nat.le_refl _) ?_
  refine x_rei (wI v 0 100) (inL_w v 0 100 (by first | rfl | decide) (by first | rfl | decide)) ?_
  refine x_if_ne dX9_rule_69 (fun c69 => ?_) (fun c69 => ?_)
  · have c69 : ¬ ((wI v 0 100) = 0) := c69
    exact absurd hb c69
  · have c69 : (wI v 0 100) = 0 := c69
    refine x_aload_n dX9_rule_72 rfl ?_
    refine x_ldc dX9_rule_73 k_X9_87 ?_
    refine x_cVi (ws' := [(aN, .inr (9, [.ref aNs, .ref aNk, .int nkp, .ref aNf, .ref aNr, .ref aNp, .ref aNb, .ref aNa, .ref aNt, .int (nI nts), .ref aNbo, .ref aNsz, .ref aNnu, .int (nI nta), .int (nI nop), .int nbd, .int ntp, .int (nI npr), .int nnw, .int nsn, .int nwn, .ref aNl, .ref aNal, .ref aNlo, .int (nI nac), .ref aNw, .ref aNtr, .ref aNis, .ref aNbg, .ref aNow])), (aNf, .inl (g.2.1 0, 8, .inl (nIf (fnF (updN fi 0 (fi 0 + 1)))))), (aNs, .inl (g.2.1 0, 919, .inl (msF gr wk z lk sz br ru ki ma bb ce hd)))]) dX9_rule_75 ml_X9_88 mX9_finds (ct_finds_0 κ.2.1 g aN aNs aNk aNf aNr aNp aNb aNa aNt aNbo aNsz aNnu aNl aNal aNlo aNw aNtr aNis aNbg aNow nts nta nop npr nac nkp nbd ntp nnw nsn nwn fi) [0, 1] rfl rfl 0 rfl rfl rfl (Nat.le_of_ble_eq_true rfl) (by decide) (Nat.le_refl _) (Nat.le_refl _) (rfl : [aN, aNf] = [aN, aNf]) rfl ?_
    rw [← hQ]
    refine x_iret dX9_rule_78 rfl (Nat.le_of_ble_eq_true rfl) (Nat.le_of_ble_eq_true rfl) ?_
    exact ⟨rfl, rfl⟩

-- == nrule_o4 ==
set_option maxRecDepth 100000 in
set_option maxHeartbeats 4000000 in
theorem ct_nrule_o4 (l : Launch) (g : XG) (aN aNs aNk aNf aNr aNp aNb aNa aNt aNbo aNsz aNnu aNl aNal aNlo aNw aNtr aNis aNbg aNow nts nta nop npr nac : Nat) (nkp nbd ntp nnw nsn nwn : Int32) (fi : Nat → Nat) (v : Nat) (gr wk lk sz br : Nat) (z : Int32) (ru ki ma bb hd : Nat → Nat) (ce : Nat → Int32) (hv : 0 ≤ v ∧ v ≤ 100) : Ct l g 34 0 0 yX9_rule cX9_rule 5 (some .int) [.ref aN, .int 4, .int (nI v)] [(aN, .inr (9, [.ref aNs, .ref aNk, .int nkp, .ref aNf, .ref aNr, .ref aNp, .ref aNb, .ref aNa, .ref aNt, .int (nI nts), .ref aNbo, .ref aNsz, .ref aNnu, .int (nI nta), .int (nI nop), .int nbd, .int ntp, .int (nI npr), .int nnw, .int nsn, .int nwn, .ref aNl, .ref aNal, .ref aNlo, .int (nI nac), .ref aNw, .ref aNtr, .ref aNis, .ref aNbg, .ref aNow])), (aNf, .inl (g.2.1 0, 8, .inl (nIf (fnF fi)))), (aNs, .inl (g.2.1 0, 919, .inl (msF gr wk z lk sz br ru ki ma bb ce hd)))] (xpi (nI (ru 4)) [(aN, .inr (9, [.ref aNs, .ref aNk, .int nkp, .ref aNf, .ref aNr, .ref aNp, .ref aNb, .ref aNa, .ref aNt, .int (nI nts), .ref aNbo, .ref aNsz, .ref aNnu, .int (nI nta), .int (nI nop), .int nbd, .int ntp, .int (nI npr), .int nnw, .int nsn, .int nwn, .ref aNl, .ref aNal, .ref aNlo, .int (nI nac), .ref aNw, .ref aNtr, .ref aNis, .ref aNbg, .ref aNow])), (aNf, .inl (g.2.1 0, 8, .inl (nIf (fnF fi)))), (aNs, .inl (g.2.1 0, 919, .inl (msF gr wk z lk sz br (updN ru 4 v) ki ma bb ce hd)))]) := by
  refine Ct.ofX (lv := [some (.ref aN), some (.int 4), some (.int (nI v)), none, none]) (by decide) rfl (Nat.le_of_ble_eq_true rfl) (fun κ => ?_)
  generalize hQ : xQ κ g 0 0 _ = Q
  refine x_iload_n dX9_rule_0 rfl ?_
  refine x_i2l dX9_rule_1 ?_
  refine x_lconst 0 dX9_rule_2 (by decide) ?_
  refine x_ldc2 dX9_rule_3 kl_X9_96 ?_
  refine x_cSi dX9_rule_6 ml_X9_98 mX9_isIn (ct_X9_isIn κ.2.1 g ((4 : Int32).toInt64) 0 7) rfl (Nat.le_of_ble_eq_true rfl) (by decide) (Nat.le_refl _) (Nat.le_refl _) ?_
  refine x_rei (1) (by decide) ?_
  refine x_if_ne dX9_rule_9 (fun c9 => ?_) (fun c9 => ?_)
  rotate_left
  · exact absurd c9 (by decide)
  refine x_iload_n dX9_rule_19 rfl ?_
  refine x_if_ne dX9_rule_20 (fun c20 => ?_) (fun c20 => ?_)
  rotate_left
  · exact absurd c20 (by decide)
  refine x_iload_n dX9_rule_28 rfl ?_
  refine x_bipush 6 dX9_rule_29 (by decide) ?_
  refine x_icmp_ne dX9_rule_31 (fun c31 => ?_) (fun c31 => ?_)
  rotate_left
  · exact absurd c31 (by decide)
  refine x_iload_n dX9_rule_39 rfl ?_
  refine x_bipush 7 dX9_rule_40 (by decide) ?_
  refine x_icmp_ne dX9_rule_42 (fun c42 => ?_) (fun c42 => ?_)
  rotate_left
  · exact absurd c42 (by decide)
  refine x_bipush 100 dX9_rule_50 (by decide) ?_
  refine x_istore_n (lv' := [some (.ref aN), some (.int 4), some (.int (nI v)), some (.int 100), none]) dX9_rule_52 (xlt rfl) rfl ?_
  refine x_iload_n dX9_rule_53 rfl ?_
  refine x_i2l dX9_rule_54 ?_
  refine x_iload_n dX9_rule_55 rfl ?_
  refine x_if_ne dX9_rule_56 (fun c56 => ?_) (fun c56 => ?_)
  rotate_left
  · exact absurd c56 (by decide)
  refine x_lconst 0 dX9_rule_63 (by decide) ?_
  refine x_iload_n dX9_rule_64 rfl ?_
  refine x_i2l dX9_rule_65 ?_
  refine x_cSi dX9_rule_66 ml_X9_98 mX9_isIn (ct_X9_isIn κ.2.1 g ((nI v).toInt64) 0 ((100 : Int32).toInt64)) rfl (Nat.le_of_ble_eq_true rfl) (by decide) (Nat.le_refl _) (Nat.le_refl _) ?_
  refine x_rei (wI (nI v) 0 100) (inL_w (nI v) 0 100 (by first | rfl | decide) (by first | rfl | decide)) ?_
  refine x_rei 1 (show wI (nI v) 0 100 = 1 from wI_nat (n := v) (a := 0) (b := 100) ⟨by omega, by omega, by omega, by omega⟩) ?_
  refine x_if_ne dX9_rule_69 (fun c69 => ?_) (fun c69 => ?_)
  rotate_left
  · exact absurd c69 (by decide)
  refine x_aload_n dX9_rule_79 rfl ?_
  refine x_get dX9_rule_80 0 0 inX9 fl_X9_7 rfl rfl (by decide) rfl ?_
  refine x_bipush 10 dX9_rule_83 (by decide) ?_
  refine x_iload_n dX9_rule_85 rfl ?_
  refine x_iadd dX9_rule_86 ?_
  refine x_rei 14 (by decide) ?_
  refine x_iald dX9_rule_87 2 14 rfl (rfl) (by decide) (by decide) ?_
  refine x_rei (nI (ru 4)) (msg_ru (x := 4) (by omega) (by omega)) ?_
  refine x_istore (lv' := [some (.ref aN), some (.int 4), some (.int (nI v)), some (.int 100), some (.int (nI (ru 4)))]) dX9_rule_88 (xlt rfl) rfl ?_
  refine x_aload_n dX9_rule_90 rfl ?_
  refine x_get dX9_rule_91 0 0 inX9 fl_X9_7 rfl rfl (by decide) rfl ?_
  refine x_bipush 10 dX9_rule_94 (by decide) ?_
  refine x_iload_n dX9_rule_96 rfl ?_
  refine x_iadd dX9_rule_97 ?_
  refine x_rei 14 (by decide) ?_
  refine x_iload_n dX9_rule_98 rfl ?_
  refine x_iast (ws' := [(aN, .inr (9, [.ref aNs, .ref aNk, .int nkp, .ref aNf, .ref aNr, .ref aNp, .ref aNb, .ref aNa, .ref aNt, .int (nI nts), .ref aNbo, .ref aNsz, .ref aNnu, .int (nI nta), .int (nI nop), .int nbd, .int ntp, .int (nI npr), .int nnw, .int nsn, .int nwn, .ref aNl, .ref aNal, .ref aNlo, .int (nI nac), .ref aNw, .ref aNtr, .ref aNis, .ref aNbg, .ref aNow])), (aNf, .inl (g.2.1 0, 8, .inl (nIf (fnF fi)))), (aNs, .inl (g.2.1 0, 919, .inl (msF gr wk z lk sz br (updN ru 4 v) ki ma bb ce hd)))]) dX9_rule_99 2 14 rfl (rfl) (by decide) (by decide) (by rw [mss_ru (x := 4) (by omega) (by omega)]; rfl) ?_
  refine x_iload dX9_rule_100 rfl ?_
  rw [← hQ]
  refine x_iret dX9_rule_102 rfl (Nat.le_of_ble_eq_true rfl) (Nat.le_of_ble_eq_true rfl) ?_
  exact ⟨rfl, rfl⟩

-- == nrule_c5 ==
set_option maxRecDepth 100000 in
set_option maxHeartbeats 4000000 in
theorem ct_nrule_c5 (l : Launch) (g : XG) (aN aNs aNk aNf aNr aNp aNb aNa aNt aNbo aNsz aNnu aNl aNal aNlo aNw aNtr aNis aNbg aNow nts nta nop npr nac : Nat) (nkp nbd ntp nnw nsn nwn : Int32) (fi : Nat → Nat) (v : Int32) (gr wk lk sz br : Nat) (z : Int32) (ru ki ma bb hd : Nat → Nat) (ce : Nat → Int32) (hb : wI v 0 100 = 0) : Ct l g 34 0 0 yX9_rule cX9_rule 5 (some .int) [.ref aN, .int 5, .int v] [(aN, .inr (9, [.ref aNs, .ref aNk, .int nkp, .ref aNf, .ref aNr, .ref aNp, .ref aNb, .ref aNa, .ref aNt, .int (nI nts), .ref aNbo, .ref aNsz, .ref aNnu, .int (nI nta), .int (nI nop), .int nbd, .int ntp, .int (nI npr), .int nnw, .int nsn, .int nwn, .ref aNl, .ref aNal, .ref aNlo, .int (nI nac), .ref aNw, .ref aNtr, .ref aNis, .ref aNbg, .ref aNow])), (aNf, .inl (g.2.1 0, 8, .inl (nIf (fnF fi)))), (aNs, .inl (g.2.1 0, 919, .inl (msF gr wk z lk sz br ru ki ma bb ce hd)))] (xpi (fndI 0) [(aN, .inr (9, [.ref aNs, .ref aNk, .int nkp, .ref aNf, .ref aNr, .ref aNp, .ref aNb, .ref aNa, .ref aNt, .int (nI nts), .ref aNbo, .ref aNsz, .ref aNnu, .int (nI nta), .int (nI nop), .int nbd, .int ntp, .int (nI npr), .int nnw, .int nsn, .int nwn, .ref aNl, .ref aNal, .ref aNlo, .int (nI nac), .ref aNw, .ref aNtr, .ref aNis, .ref aNbg, .ref aNow])), (aNf, .inl (g.2.1 0, 8, .inl (nIf (fnF (updN fi 0 (fi 0 + 1)))))), (aNs, .inl (g.2.1 0, 919, .inl (msF gr wk z lk sz br ru ki ma bb ce hd)))]) := by
  refine Ct.ofX (lv := [some (.ref aN), some (.int 5), some (.int v), none, none]) (by decide) rfl (Nat.le_of_ble_eq_true rfl) (fun κ => ?_)
  generalize hQ : xQ κ g 0 0 _ = Q
  refine x_iload_n dX9_rule_0 rfl ?_
  refine x_i2l dX9_rule_1 ?_
  refine x_lconst 0 dX9_rule_2 (by decide) ?_
  refine x_ldc2 dX9_rule_3 kl_X9_96 ?_
  refine x_cSi dX9_rule_6 ml_X9_98 mX9_isIn (ct_X9_isIn κ.2.1 g ((5 : Int32).toInt64) 0 7) rfl (Nat.le_of_ble_eq_true rfl) (by decide) (Nat.le_refl _) (Nat.le_refl _) ?_
  refine x_rei (1) (by decide) ?_
  refine x_if_ne dX9_rule_9 (fun c9 => ?_) (fun c9 => ?_)
  rotate_left
  · exact absurd c9 (by decide)
  refine x_iload_n dX9_rule_19 rfl ?_
  refine x_if_ne dX9_rule_20 (fun c20 => ?_) (fun c20 => ?_)
  rotate_left
  · exact absurd c20 (by decide)
  refine x_iload_n dX9_rule_28 rfl ?_
  refine x_bipush 6 dX9_rule_29 (by decide) ?_
  refine x_icmp_ne dX9_rule_31 (fun c31 => ?_) (fun c31 => ?_)
  rotate_left
  · exact absurd c31 (by decide)
  refine x_iload_n dX9_rule_39 rfl ?_
  refine x_bipush 7 dX9_rule_40 (by decide) ?_
  refine x_icmp_ne dX9_rule_42 (fun c42 => ?_) (fun c42 => ?_)
  rotate_left
  · exact absurd c42 (by decide)
  refine x_bipush 100 dX9_rule_50 (by decide) ?_
  refine x_istore_n (lv' := [some (.ref aN), some (.int 5), some (.int v), some (.int 100), none]) dX9_rule_52 (xlt rfl) rfl ?_
  refine x_iload_n dX9_rule_53 rfl ?_
  refine x_i2l dX9_rule_54 ?_
  refine x_iload_n dX9_rule_55 rfl ?_
  refine x_if_ne dX9_rule_56 (fun c56 => ?_) (fun c56 => ?_)
  rotate_left
  · exact absurd c56 (by decide)
  refine x_lconst 0 dX9_rule_63 (by decide) ?_
  refine x_iload_n dX9_rule_64 rfl ?_
  refine x_i2l dX9_rule_65 ?_
  refine x_cSi dX9_rule_66 ml_X9_98 mX9_isIn (ct_X9_isIn κ.2.1 g v.toInt64 0 ((100 : Int32).toInt64)) rfl (Nat.le_of_ble_eq_true rfl) (by decide) (Nat.le_refl _) (Nat.le_refl _) ?_
  refine x_rei (wI v 0 100) (inL_w v 0 100 (by first | rfl | decide) (by first | rfl | decide)) ?_
  refine x_if_ne dX9_rule_69 (fun c69 => ?_) (fun c69 => ?_)
  · have c69 : ¬ ((wI v 0 100) = 0) := c69
    exact absurd hb c69
  · have c69 : (wI v 0 100) = 0 := c69
    refine x_aload_n dX9_rule_72 rfl ?_
    refine x_ldc dX9_rule_73 k_X9_87 ?_
    refine x_cVi (ws' := [(aN, .inr (9, [.ref aNs, .ref aNk, .int nkp, .ref aNf, .ref aNr, .ref aNp, .ref aNb, .ref aNa, .ref aNt, .int (nI nts), .ref aNbo, .ref aNsz, .ref aNnu, .int (nI nta), .int (nI nop), .int nbd, .int ntp, .int (nI npr), .int nnw, .int nsn, .int nwn, .ref aNl, .ref aNal, .ref aNlo, .int (nI nac), .ref aNw, .ref aNtr, .ref aNis, .ref aNbg, .ref aNow])), (aNf, .inl (g.2.1 0, 8, .inl (nIf (fnF (updN fi 0 (fi 0 + 1)))))), (aNs, .inl (g.2.1 0, 919, .inl (msF gr wk z lk sz br ru ki ma bb ce hd)))]) dX9_rule_75 ml_X9_88 mX9_finds (ct_finds_0 κ.2.1 g aN aNs aNk aNf aNr aNp aNb aNa aNt aNbo aNsz aNnu aNl aNal aNlo aNw aNtr aNis aNbg aNow nts nta nop npr nac nkp nbd ntp nnw nsn nwn fi) [0, 1] rfl rfl 0 rfl rfl rfl (Nat.le_of_ble_eq_true rfl) (by decide) (Nat.le_refl _) (Nat.le_refl _) (rfl : [aN, aNf] = [aN, aNf]) rfl ?_
    rw [← hQ]
    refine x_iret dX9_rule_78 rfl (Nat.le_of_ble_eq_true rfl) (Nat.le_of_ble_eq_true rfl) ?_
    exact ⟨rfl, rfl⟩

-- == nrule_o5 ==
set_option maxRecDepth 100000 in
set_option maxHeartbeats 4000000 in
theorem ct_nrule_o5 (l : Launch) (g : XG) (aN aNs aNk aNf aNr aNp aNb aNa aNt aNbo aNsz aNnu aNl aNal aNlo aNw aNtr aNis aNbg aNow nts nta nop npr nac : Nat) (nkp nbd ntp nnw nsn nwn : Int32) (fi : Nat → Nat) (v : Nat) (gr wk lk sz br : Nat) (z : Int32) (ru ki ma bb hd : Nat → Nat) (ce : Nat → Int32) (hv : 0 ≤ v ∧ v ≤ 100) : Ct l g 34 0 0 yX9_rule cX9_rule 5 (some .int) [.ref aN, .int 5, .int (nI v)] [(aN, .inr (9, [.ref aNs, .ref aNk, .int nkp, .ref aNf, .ref aNr, .ref aNp, .ref aNb, .ref aNa, .ref aNt, .int (nI nts), .ref aNbo, .ref aNsz, .ref aNnu, .int (nI nta), .int (nI nop), .int nbd, .int ntp, .int (nI npr), .int nnw, .int nsn, .int nwn, .ref aNl, .ref aNal, .ref aNlo, .int (nI nac), .ref aNw, .ref aNtr, .ref aNis, .ref aNbg, .ref aNow])), (aNf, .inl (g.2.1 0, 8, .inl (nIf (fnF fi)))), (aNs, .inl (g.2.1 0, 919, .inl (msF gr wk z lk sz br ru ki ma bb ce hd)))] (xpi (nI (ru 5)) [(aN, .inr (9, [.ref aNs, .ref aNk, .int nkp, .ref aNf, .ref aNr, .ref aNp, .ref aNb, .ref aNa, .ref aNt, .int (nI nts), .ref aNbo, .ref aNsz, .ref aNnu, .int (nI nta), .int (nI nop), .int nbd, .int ntp, .int (nI npr), .int nnw, .int nsn, .int nwn, .ref aNl, .ref aNal, .ref aNlo, .int (nI nac), .ref aNw, .ref aNtr, .ref aNis, .ref aNbg, .ref aNow])), (aNf, .inl (g.2.1 0, 8, .inl (nIf (fnF fi)))), (aNs, .inl (g.2.1 0, 919, .inl (msF gr wk z lk sz br (updN ru 5 v) ki ma bb ce hd)))]) := by
  refine Ct.ofX (lv := [some (.ref aN), some (.int 5), some (.int (nI v)), none, none]) (by decide) rfl (Nat.le_of_ble_eq_true rfl) (fun κ => ?_)
  generalize hQ : xQ κ g 0 0 _ = Q
  refine x_iload_n dX9_rule_0 rfl ?_
  refine x_i2l dX9_rule_1 ?_
  refine x_lconst 0 dX9_rule_2 (by decide) ?_
  refine x_ldc2 dX9_rule_3 kl_X9_96 ?_
  refine x_cSi dX9_rule_6 ml_X9_98 mX9_isIn (ct_X9_isIn κ.2.1 g ((5 : Int32).toInt64) 0 7) rfl (Nat.le_of_ble_eq_true rfl) (by decide) (Nat.le_refl _) (Nat.le_refl _) ?_
  refine x_rei (1) (by decide) ?_
  refine x_if_ne dX9_rule_9 (fun c9 => ?_) (fun c9 => ?_)
  rotate_left
  · exact absurd c9 (by decide)
  refine x_iload_n dX9_rule_19 rfl ?_
  refine x_if_ne dX9_rule_20 (fun c20 => ?_) (fun c20 => ?_)
  rotate_left
  · exact absurd c20 (by decide)
  refine x_iload_n dX9_rule_28 rfl ?_
  refine x_bipush 6 dX9_rule_29 (by decide) ?_
  refine x_icmp_ne dX9_rule_31 (fun c31 => ?_) (fun c31 => ?_)
  rotate_left
  · exact absurd c31 (by decide)
  refine x_iload_n dX9_rule_39 rfl ?_
  refine x_bipush 7 dX9_rule_40 (by decide) ?_
  refine x_icmp_ne dX9_rule_42 (fun c42 => ?_) (fun c42 => ?_)
  rotate_left
  · exact absurd c42 (by decide)
  refine x_bipush 100 dX9_rule_50 (by decide) ?_
  refine x_istore_n (lv' := [some (.ref aN), some (.int 5), some (.int (nI v)), some (.int 100), none]) dX9_rule_52 (xlt rfl) rfl ?_
  refine x_iload_n dX9_rule_53 rfl ?_
  refine x_i2l dX9_rule_54 ?_
  refine x_iload_n dX9_rule_55 rfl ?_
  refine x_if_ne dX9_rule_56 (fun c56 => ?_) (fun c56 => ?_)
  rotate_left
  · exact absurd c56 (by decide)
  refine x_lconst 0 dX9_rule_63 (by decide) ?_
  refine x_iload_n dX9_rule_64 rfl ?_
  refine x_i2l dX9_rule_65 ?_
  refine x_cSi dX9_rule_66 ml_X9_98 mX9_isIn (ct_X9_isIn κ.2.1 g ((nI v).toInt64) 0 ((100 : Int32).toInt64)) rfl (Nat.le_of_ble_eq_true rfl) (by decide) (Nat.le_refl _) (Nat.le_refl _) ?_
  refine x_rei (wI (nI v) 0 100) (inL_w (nI v) 0 100 (by first | rfl | decide) (by first | rfl | decide)) ?_
  refine x_rei 1 (show wI (nI v) 0 100 = 1 from wI_nat (n := v) (a := 0) (b := 100) ⟨by omega, by omega, by omega, by omega⟩) ?_
  refine x_if_ne dX9_rule_69 (fun c69 => ?_) (fun c69 => ?_)
  rotate_left
  · exact absurd c69 (by decide)
  refine x_aload_n dX9_rule_79 rfl ?_
  refine x_get dX9_rule_80 0 0 inX9 fl_X9_7 rfl rfl (by decide) rfl ?_
  refine x_bipush 10 dX9_rule_83 (by decide) ?_
  refine x_iload_n dX9_rule_85 rfl ?_
  refine x_iadd dX9_rule_86 ?_
  refine x_rei 15 (by decide) ?_
  refine x_iald dX9_rule_87 2 15 rfl (rfl) (by decide) (by decide) ?_
  refine x_rei (nI (ru 5)) (msg_ru (x := 5) (by omega) (by omega)) ?_
  refine x_istore (lv' := [some (.ref aN), some (.int 5), some (.int (nI v)), some (.int 100), some (.int (nI (ru 5)))]) dX9_rule_88 (xlt rfl) rfl ?_
  refine x_aload_n dX9_rule_90 rfl ?_
  refine x_get dX9_rule_91 0 0 inX9 fl_X9_7 rfl rfl (by decide) rfl ?_
  refine x_bipush 10 dX9_rule_94 (by decide) ?_
  refine x_iload_n dX9_rule_96 rfl ?_
  refine x_iadd dX9_rule_97 ?_
  refine x_rei 15 (by decide) ?_
  refine x_iload_n dX9_rule_98 rfl ?_
  refine x_iast (ws' := [(aN, .inr (9, [.ref aNs, .ref aNk, .int nkp, .ref aNf, .ref aNr, .ref aNp, .ref aNb, .ref aNa, .ref aNt, .int (nI nts), .ref aNbo, .ref aNsz, .ref aNnu, .int (nI nta), .int (nI nop), .int nbd, .int ntp, .int (nI npr), .int nnw, .int nsn, .int nwn, .ref aNl, .ref aNal, .ref aNlo, .int (nI nac), .ref aNw, .ref aNtr, .ref aNis, .ref aNbg, .ref aNow])), (aNf, .inl (g.2.1 0, 8, .inl (nIf (fnF fi)))), (aNs, .inl (g.2.1 0, 919, .inl (msF gr wk z lk sz br (updN ru 5 v) ki ma bb ce hd)))]) dX9_rule_99 2 15 rfl (rfl) (by decide) (by decide) (by rw [mss_ru (x := 5) (by omega) (by omega)]; rfl) ?_
  refine x_iload dX9_rule_100 rfl ?_
  rw [← hQ]
  refine x_iret dX9_rule_102 rfl (Nat.le_of_ble_eq_true rfl) (Nat.le_of_ble_eq_true rfl) ?_
  exact ⟨rfl, rfl⟩

-- == nrule_c6 ==
set_option maxRecDepth 100000 in
set_option maxHeartbeats 4000000 in
theorem ct_nrule_c6 (l : Launch) (g : XG) (aN aNs aNk aNf aNr aNp aNb aNa aNt aNbo aNsz aNnu aNl aNal aNlo aNw aNtr aNis aNbg aNow nts nta nop npr nac : Nat) (nkp nbd ntp nnw nsn nwn : Int32) (fi : Nat → Nat) (v : Int32) (gr wk lk sz br : Nat) (z : Int32) (ru ki ma bb hd : Nat → Nat) (ce : Nat → Int32) (hb : wI v 0 999999 = 0) : Ct l g 34 0 0 yX9_rule cX9_rule 5 (some .int) [.ref aN, .int 6, .int v] [(aN, .inr (9, [.ref aNs, .ref aNk, .int nkp, .ref aNf, .ref aNr, .ref aNp, .ref aNb, .ref aNa, .ref aNt, .int (nI nts), .ref aNbo, .ref aNsz, .ref aNnu, .int (nI nta), .int (nI nop), .int nbd, .int ntp, .int (nI npr), .int nnw, .int nsn, .int nwn, .ref aNl, .ref aNal, .ref aNlo, .int (nI nac), .ref aNw, .ref aNtr, .ref aNis, .ref aNbg, .ref aNow])), (aNf, .inl (g.2.1 0, 8, .inl (nIf (fnF fi)))), (aNs, .inl (g.2.1 0, 919, .inl (msF gr wk z lk sz br ru ki ma bb ce hd)))] (xpi (fndI 0) [(aN, .inr (9, [.ref aNs, .ref aNk, .int nkp, .ref aNf, .ref aNr, .ref aNp, .ref aNb, .ref aNa, .ref aNt, .int (nI nts), .ref aNbo, .ref aNsz, .ref aNnu, .int (nI nta), .int (nI nop), .int nbd, .int ntp, .int (nI npr), .int nnw, .int nsn, .int nwn, .ref aNl, .ref aNal, .ref aNlo, .int (nI nac), .ref aNw, .ref aNtr, .ref aNis, .ref aNbg, .ref aNow])), (aNf, .inl (g.2.1 0, 8, .inl (nIf (fnF (updN fi 0 (fi 0 + 1)))))), (aNs, .inl (g.2.1 0, 919, .inl (msF gr wk z lk sz br ru ki ma bb ce hd)))]) := by
  refine Ct.ofX (lv := [some (.ref aN), some (.int 6), some (.int v), none, none]) (by decide) rfl (Nat.le_of_ble_eq_true rfl) (fun κ => ?_)
  generalize hQ : xQ κ g 0 0 _ = Q
  refine x_iload_n dX9_rule_0 rfl ?_
  refine x_i2l dX9_rule_1 ?_
  refine x_lconst 0 dX9_rule_2 (by decide) ?_
  refine x_ldc2 dX9_rule_3 kl_X9_96 ?_
  refine x_cSi dX9_rule_6 ml_X9_98 mX9_isIn (ct_X9_isIn κ.2.1 g ((6 : Int32).toInt64) 0 7) rfl (Nat.le_of_ble_eq_true rfl) (by decide) (Nat.le_refl _) (Nat.le_refl _) ?_
  refine x_rei (1) (by decide) ?_
  refine x_if_ne dX9_rule_9 (fun c9 => ?_) (fun c9 => ?_)
  rotate_left
  · exact absurd c9 (by decide)
  refine x_iload_n dX9_rule_19 rfl ?_
  refine x_if_ne dX9_rule_20 (fun c20 => ?_) (fun c20 => ?_)
  rotate_left
  · exact absurd c20 (by decide)
  refine x_iload_n dX9_rule_28 rfl ?_
  refine x_bipush 6 dX9_rule_29 (by decide) ?_
  refine x_icmp_ne dX9_rule_31 (fun c31 => ?_) (fun c31 => ?_)
  · exact absurd c31 (by decide)
  refine x_ldc dX9_rule_34 k_X9_204 ?_
  refine x_goto dX9_rule_36 ?_
  refine x_istore_n (lv' := [some (.ref aN), some (.int 6), some (.int v), some (.int 999999), none]) dX9_rule_52 (xlt rfl) rfl ?_
  refine x_iload_n dX9_rule_53 rfl ?_
  refine x_i2l dX9_rule_54 ?_
  refine x_iload_n dX9_rule_55 rfl ?_
  refine x_if_ne dX9_rule_56 (fun c56 => ?_) (fun c56 => ?_)
  rotate_left
  · exact absurd c56 (by decide)
  refine x_lconst 0 dX9_rule_63 (by decide) ?_
  refine x_iload_n dX9_rule_64 rfl ?_
  refine x_i2l dX9_rule_65 ?_
  refine x_cSi dX9_rule_66 ml_X9_98 mX9_isIn (ct_X9_isIn κ.2.1 g v.toInt64 0 ((999999 : Int32).toInt64)) rfl (Nat.le_of_ble_eq_true rfl) (by decide) (Nat.le_refl _) (Nat.le_refl _) ?_
  refine x_rei (wI v 0 999999) (inL_w v 0 999999 (by first | rfl | decide) (by first | rfl | decide)) ?_
  refine x_if_ne dX9_rule_69 (fun c69 => ?_) (fun c69 => ?_)
  · have c69 : ¬ ((wI v 0 999999) = 0) := c69
    exact absurd hb c69
  · have c69 : (wI v 0 999999) = 0 := c69
    refine x_aload_n dX9_rule_72 rfl ?_
    refine x_ldc dX9_rule_73 k_X9_87 ?_
    refine x_cVi (ws' := [(aN, .inr (9, [.ref aNs, .ref aNk, .int nkp, .ref aNf, .ref aNr, .ref aNp, .ref aNb, .ref aNa, .ref aNt, .int (nI nts), .ref aNbo, .ref aNsz, .ref aNnu, .int (nI nta), .int (nI nop), .int nbd, .int ntp, .int (nI npr), .int nnw, .int nsn, .int nwn, .ref aNl, .ref aNal, .ref aNlo, .int (nI nac), .ref aNw, .ref aNtr, .ref aNis, .ref aNbg, .ref aNow])), (aNf, .inl (g.2.1 0, 8, .inl (nIf (fnF (updN fi 0 (fi 0 + 1)))))), (aNs, .inl (g.2.1 0, 919, .inl (msF gr wk z lk sz br ru ki ma bb ce hd)))]) dX9_rule_75 ml_X9_88 mX9_finds (ct_finds_0 κ.2.1 g aN aNs aNk aNf aNr aNp aNb aNa aNt aNbo aNsz aNnu aNl aNal aNlo aNw aNtr aNis aNbg aNow nts nta nop npr nac nkp nbd ntp nnw nsn nwn fi) [0, 1] rfl rfl 0 rfl rfl rfl (Nat.le_of_ble_eq_true rfl) (by decide) (Nat.le_refl _) (Nat.le_refl _) (rfl : [aN, aNf] = [aN, aNf]) rfl ?_
    rw [← hQ]
    refine x_iret dX9_rule_78 rfl (Nat.le_of_ble_eq_true rfl) (Nat.le_of_ble_eq_true rfl) ?_
    exact ⟨rfl, rfl⟩

-- == nrule_o6 ==
set_option maxRecDepth 100000 in
set_option maxHeartbeats 4000000 in
theorem ct_nrule_o6 (l : Launch) (g : XG) (aN aNs aNk aNf aNr aNp aNb aNa aNt aNbo aNsz aNnu aNl aNal aNlo aNw aNtr aNis aNbg aNow nts nta nop npr nac : Nat) (nkp nbd ntp nnw nsn nwn : Int32) (fi : Nat → Nat) (v : Nat) (gr wk lk sz br : Nat) (z : Int32) (ru ki ma bb hd : Nat → Nat) (ce : Nat → Int32) (hv : 0 ≤ v ∧ v ≤ 999999) : Ct l g 34 0 0 yX9_rule cX9_rule 5 (some .int) [.ref aN, .int 6, .int (nI v)] [(aN, .inr (9, [.ref aNs, .ref aNk, .int nkp, .ref aNf, .ref aNr, .ref aNp, .ref aNb, .ref aNa, .ref aNt, .int (nI nts), .ref aNbo, .ref aNsz, .ref aNnu, .int (nI nta), .int (nI nop), .int nbd, .int ntp, .int (nI npr), .int nnw, .int nsn, .int nwn, .ref aNl, .ref aNal, .ref aNlo, .int (nI nac), .ref aNw, .ref aNtr, .ref aNis, .ref aNbg, .ref aNow])), (aNf, .inl (g.2.1 0, 8, .inl (nIf (fnF fi)))), (aNs, .inl (g.2.1 0, 919, .inl (msF gr wk z lk sz br ru ki ma bb ce hd)))] (xpi (nI (ru 6)) [(aN, .inr (9, [.ref aNs, .ref aNk, .int nkp, .ref aNf, .ref aNr, .ref aNp, .ref aNb, .ref aNa, .ref aNt, .int (nI nts), .ref aNbo, .ref aNsz, .ref aNnu, .int (nI nta), .int (nI nop), .int nbd, .int ntp, .int (nI npr), .int nnw, .int nsn, .int nwn, .ref aNl, .ref aNal, .ref aNlo, .int (nI nac), .ref aNw, .ref aNtr, .ref aNis, .ref aNbg, .ref aNow])), (aNf, .inl (g.2.1 0, 8, .inl (nIf (fnF fi)))), (aNs, .inl (g.2.1 0, 919, .inl (msF gr wk z lk sz br (updN ru 6 v) ki ma bb ce hd)))]) := by
  refine Ct.ofX (lv := [some (.ref aN), some (.int 6), some (.int (nI v)), none, none]) (by decide) rfl (Nat.le_of_ble_eq_true rfl) (fun κ => ?_)
  generalize hQ : xQ κ g 0 0 _ = Q
  refine x_iload_n dX9_rule_0 rfl ?_
  refine x_i2l dX9_rule_1 ?_
  refine x_lconst 0 dX9_rule_2 (by decide) ?_
  refine x_ldc2 dX9_rule_3 kl_X9_96 ?_
  refine x_cSi dX9_rule_6 ml_X9_98 mX9_isIn (ct_X9_isIn κ.2.1 g ((6 : Int32).toInt64) 0 7) rfl (Nat.le_of_ble_eq_true rfl) (by decide) (Nat.le_refl _) (Nat.le_refl _) ?_
  refine x_rei (1) (by decide) ?_
  refine x_if_ne dX9_rule_9 (fun c9 => ?_) (fun c9 => ?_)
  rotate_left
  · exact absurd c9 (by decide)
  refine x_iload_n dX9_rule_19 rfl ?_
  refine x_if_ne dX9_rule_20 (fun c20 => ?_) (fun c20 => ?_)
  rotate_left
  · exact absurd c20 (by decide)
  refine x_iload_n dX9_rule_28 rfl ?_
  refine x_bipush 6 dX9_rule_29 (by decide) ?_
  refine x_icmp_ne dX9_rule_31 (fun c31 => ?_) (fun c31 => ?_)
  · exact absurd c31 (by decide)
  refine x_ldc dX9_rule_34 k_X9_204 ?_
  refine x_goto dX9_rule_36 ?_
  refine x_istore_n (lv' := [some (.ref aN), some (.int 6), some (.int (nI v)), some (.int 999999), none]) dX9_rule_52 (xlt rfl) rfl ?_
  refine x_iload_n dX9_rule_53 rfl ?_
  refine x_i2l dX9_rule_54 ?_
  refine x_iload_n dX9_rule_55 rfl ?_
  refine x_if_ne dX9_rule_56 (fun c56 => ?_) (fun c56 => ?_)
  rotate_left
  · exact absurd c56 (by decide)
  refine x_lconst 0 dX9_rule_63 (by decide) ?_
  refine x_iload_n dX9_rule_64 rfl ?_
  refine x_i2l dX9_rule_65 ?_
  refine x_cSi dX9_rule_66 ml_X9_98 mX9_isIn (ct_X9_isIn κ.2.1 g ((nI v).toInt64) 0 ((999999 : Int32).toInt64)) rfl (Nat.le_of_ble_eq_true rfl) (by decide) (Nat.le_refl _) (Nat.le_refl _) ?_
  refine x_rei (wI (nI v) 0 999999) (inL_w (nI v) 0 999999 (by first | rfl | decide) (by first | rfl | decide)) ?_
  refine x_rei 1 (show wI (nI v) 0 999999 = 1 from wI_nat (n := v) (a := 0) (b := 999999) ⟨by omega, by omega, by omega, by omega⟩) ?_
  refine x_if_ne dX9_rule_69 (fun c69 => ?_) (fun c69 => ?_)
  rotate_left
  · exact absurd c69 (by decide)
  refine x_aload_n dX9_rule_79 rfl ?_
  refine x_get dX9_rule_80 0 0 inX9 fl_X9_7 rfl rfl (by decide) rfl ?_
  refine x_bipush 10 dX9_rule_83 (by decide) ?_
  refine x_iload_n dX9_rule_85 rfl ?_
  refine x_iadd dX9_rule_86 ?_
  refine x_rei 16 (by decide) ?_
  refine x_iald dX9_rule_87 2 16 rfl (rfl) (by decide) (by decide) ?_
  refine x_rei (nI (ru 6)) (msg_ru (x := 6) (by omega) (by omega)) ?_
  refine x_istore (lv' := [some (.ref aN), some (.int 6), some (.int (nI v)), some (.int 999999), some (.int (nI (ru 6)))]) dX9_rule_88 (xlt rfl) rfl ?_
  refine x_aload_n dX9_rule_90 rfl ?_
  refine x_get dX9_rule_91 0 0 inX9 fl_X9_7 rfl rfl (by decide) rfl ?_
  refine x_bipush 10 dX9_rule_94 (by decide) ?_
  refine x_iload_n dX9_rule_96 rfl ?_
  refine x_iadd dX9_rule_97 ?_
  refine x_rei 16 (by decide) ?_
  refine x_iload_n dX9_rule_98 rfl ?_
  refine x_iast (ws' := [(aN, .inr (9, [.ref aNs, .ref aNk, .int nkp, .ref aNf, .ref aNr, .ref aNp, .ref aNb, .ref aNa, .ref aNt, .int (nI nts), .ref aNbo, .ref aNsz, .ref aNnu, .int (nI nta), .int (nI nop), .int nbd, .int ntp, .int (nI npr), .int nnw, .int nsn, .int nwn, .ref aNl, .ref aNal, .ref aNlo, .int (nI nac), .ref aNw, .ref aNtr, .ref aNis, .ref aNbg, .ref aNow])), (aNf, .inl (g.2.1 0, 8, .inl (nIf (fnF fi)))), (aNs, .inl (g.2.1 0, 919, .inl (msF gr wk z lk sz br (updN ru 6 v) ki ma bb ce hd)))]) dX9_rule_99 2 16 rfl (rfl) (by decide) (by decide) (by rw [mss_ru (x := 6) (by omega) (by omega)]; rfl) ?_
  refine x_iload dX9_rule_100 rfl ?_
  rw [← hQ]
  refine x_iret dX9_rule_102 rfl (Nat.le_of_ble_eq_true rfl) (Nat.le_of_ble_eq_true rfl) ?_
  exact ⟨rfl, rfl⟩

-- == nrule_c7 ==
set_option maxRecDepth 100000 in
set_option maxHeartbeats 4000000 in
theorem ct_nrule_c7 (l : Launch) (g : XG) (aN aNs aNk aNf aNr aNp aNb aNa aNt aNbo aNsz aNnu aNl aNal aNlo aNw aNtr aNis aNbg aNow nts nta nop npr nac : Nat) (nkp nbd ntp nnw nsn nwn : Int32) (fi : Nat → Nat) (v : Int32) (gr wk lk sz br : Nat) (z : Int32) (ru ki ma bb hd : Nat → Nat) (ce : Nat → Int32) (hb : wI v 0 99999999 = 0) : Ct l g 34 0 0 yX9_rule cX9_rule 5 (some .int) [.ref aN, .int 7, .int v] [(aN, .inr (9, [.ref aNs, .ref aNk, .int nkp, .ref aNf, .ref aNr, .ref aNp, .ref aNb, .ref aNa, .ref aNt, .int (nI nts), .ref aNbo, .ref aNsz, .ref aNnu, .int (nI nta), .int (nI nop), .int nbd, .int ntp, .int (nI npr), .int nnw, .int nsn, .int nwn, .ref aNl, .ref aNal, .ref aNlo, .int (nI nac), .ref aNw, .ref aNtr, .ref aNis, .ref aNbg, .ref aNow])), (aNf, .inl (g.2.1 0, 8, .inl (nIf (fnF fi)))), (aNs, .inl (g.2.1 0, 919, .inl (msF gr wk z lk sz br ru ki ma bb ce hd)))] (xpi (fndI 0) [(aN, .inr (9, [.ref aNs, .ref aNk, .int nkp, .ref aNf, .ref aNr, .ref aNp, .ref aNb, .ref aNa, .ref aNt, .int (nI nts), .ref aNbo, .ref aNsz, .ref aNnu, .int (nI nta), .int (nI nop), .int nbd, .int ntp, .int (nI npr), .int nnw, .int nsn, .int nwn, .ref aNl, .ref aNal, .ref aNlo, .int (nI nac), .ref aNw, .ref aNtr, .ref aNis, .ref aNbg, .ref aNow])), (aNf, .inl (g.2.1 0, 8, .inl (nIf (fnF (updN fi 0 (fi 0 + 1)))))), (aNs, .inl (g.2.1 0, 919, .inl (msF gr wk z lk sz br ru ki ma bb ce hd)))]) := by
  refine Ct.ofX (lv := [some (.ref aN), some (.int 7), some (.int v), none, none]) (by decide) rfl (Nat.le_of_ble_eq_true rfl) (fun κ => ?_)
  generalize hQ : xQ κ g 0 0 _ = Q
  refine x_iload_n dX9_rule_0 rfl ?_
  refine x_i2l dX9_rule_1 ?_
  refine x_lconst 0 dX9_rule_2 (by decide) ?_
  refine x_ldc2 dX9_rule_3 kl_X9_96 ?_
  refine x_cSi dX9_rule_6 ml_X9_98 mX9_isIn (ct_X9_isIn κ.2.1 g ((7 : Int32).toInt64) 0 7) rfl (Nat.le_of_ble_eq_true rfl) (by decide) (Nat.le_refl _) (Nat.le_refl _) ?_
  refine x_rei (1) (by decide) ?_
  refine x_if_ne dX9_rule_9 (fun c9 => ?_) (fun c9 => ?_)
  rotate_left
  · exact absurd c9 (by decide)
  refine x_iload_n dX9_rule_19 rfl ?_
  refine x_if_ne dX9_rule_20 (fun c20 => ?_) (fun c20 => ?_)
  rotate_left
  · exact absurd c20 (by decide)
  refine x_iload_n dX9_rule_28 rfl ?_
  refine x_bipush 6 dX9_rule_29 (by decide) ?_
  refine x_icmp_ne dX9_rule_31 (fun c31 => ?_) (fun c31 => ?_)
  rotate_left
  · exact absurd c31 (by decide)
  refine x_iload_n dX9_rule_39 rfl ?_
  refine x_bipush 7 dX9_rule_40 (by decide) ?_
  refine x_icmp_ne dX9_rule_42 (fun c42 => ?_) (fun c42 => ?_)
  · exact absurd c42 (by decide)
  refine x_ldc dX9_rule_45 k_X9_205 ?_
  refine x_goto dX9_rule_47 ?_
  refine x_istore_n (lv' := [some (.ref aN), some (.int 7), some (.int v), some (.int 99999999), none]) dX9_rule_52 (xlt rfl) rfl ?_
  refine x_iload_n dX9_rule_53 rfl ?_
  refine x_i2l dX9_rule_54 ?_
  refine x_iload_n dX9_rule_55 rfl ?_
  refine x_if_ne dX9_rule_56 (fun c56 => ?_) (fun c56 => ?_)
  rotate_left
  · exact absurd c56 (by decide)
  refine x_lconst 0 dX9_rule_63 (by decide) ?_
  refine x_iload_n dX9_rule_64 rfl ?_
  refine x_i2l dX9_rule_65 ?_
  refine x_cSi dX9_rule_66 ml_X9_98 mX9_isIn (ct_X9_isIn κ.2.1 g v.toInt64 0 ((99999999 : Int32).toInt64)) rfl (Nat.le_of_ble_eq_true rfl) (by decide) (Nat.le_refl _) (Nat.le_refl _) ?_
  refine x_rei (wI v 0 99999999) (inL_w v 0 99999999 (by first | rfl | decide) (by first | rfl | decide)) ?_
  refine x_if_ne dX9_rule_69 (fun c69 => ?_) (fun c69 => ?_)
  · have c69 : ¬ ((wI v 0 99999999) = 0) := c69
    exact absurd hb c69
  · have c69 : (wI v 0 99999999) = 0 := c69
    refine x_aload_n dX9_rule_72 rfl ?_
    refine x_ldc dX9_rule_73 k_X9_87 ?_
    refine x_cVi (ws' := [(aN, .inr (9, [.ref aNs, .ref aNk, .int nkp, .ref aNf, .ref aNr, .ref aNp, .ref aNb, .ref aNa, .ref aNt, .int (nI nts), .ref aNbo, .ref aNsz, .ref aNnu, .int (nI nta), .int (nI nop), .int nbd, .int ntp, .int (nI npr), .int nnw, .int nsn, .int nwn, .ref aNl, .ref aNal, .ref aNlo, .int (nI nac), .ref aNw, .ref aNtr, .ref aNis, .ref aNbg, .ref aNow])), (aNf, .inl (g.2.1 0, 8, .inl (nIf (fnF (updN fi 0 (fi 0 + 1)))))), (aNs, .inl (g.2.1 0, 919, .inl (msF gr wk z lk sz br ru ki ma bb ce hd)))]) dX9_rule_75 ml_X9_88 mX9_finds (ct_finds_0 κ.2.1 g aN aNs aNk aNf aNr aNp aNb aNa aNt aNbo aNsz aNnu aNl aNal aNlo aNw aNtr aNis aNbg aNow nts nta nop npr nac nkp nbd ntp nnw nsn nwn fi) [0, 1] rfl rfl 0 rfl rfl rfl (Nat.le_of_ble_eq_true rfl) (by decide) (Nat.le_refl _) (Nat.le_refl _) (rfl : [aN, aNf] = [aN, aNf]) rfl ?_
    rw [← hQ]
    refine x_iret dX9_rule_78 rfl (Nat.le_of_ble_eq_true rfl) (Nat.le_of_ble_eq_true rfl) ?_
    exact ⟨rfl, rfl⟩

-- == nrule_o7 ==
set_option maxRecDepth 100000 in
set_option maxHeartbeats 4000000 in
theorem ct_nrule_o7 (l : Launch) (g : XG) (aN aNs aNk aNf aNr aNp aNb aNa aNt aNbo aNsz aNnu aNl aNal aNlo aNw aNtr aNis aNbg aNow nts nta nop npr nac : Nat) (nkp nbd ntp nnw nsn nwn : Int32) (fi : Nat → Nat) (v : Nat) (gr wk lk sz br : Nat) (z : Int32) (ru ki ma bb hd : Nat → Nat) (ce : Nat → Int32) (hv : 0 ≤ v ∧ v ≤ 99999999) : Ct l g 34 0 0 yX9_rule cX9_rule 5 (some .int) [.ref aN, .int 7, .int (nI v)] [(aN, .inr (9, [.ref aNs, .ref aNk, .int nkp, .ref aNf, .ref aNr, .ref aNp, .ref aNb, .ref aNa, .ref aNt, .int (nI nts), .ref aNbo, .ref aNsz, .ref aNnu, .int (nI nta), .int (nI nop), .int nbd, .int ntp, .int (nI npr), .int nnw, .int nsn, .int nwn, .ref aNl, .ref aNal, .ref aNlo, .int (nI nac), .ref aNw, .ref aNtr, .ref aNis, .ref aNbg, .ref aNow])), (aNf, .inl (g.2.1 0, 8, .inl (nIf (fnF fi)))), (aNs, .inl (g.2.1 0, 919, .inl (msF gr wk z lk sz br ru ki ma bb ce hd)))] (xpi (nI (ru 7)) [(aN, .inr (9, [.ref aNs, .ref aNk, .int nkp, .ref aNf, .ref aNr, .ref aNp, .ref aNb, .ref aNa, .ref aNt, .int (nI nts), .ref aNbo, .ref aNsz, .ref aNnu, .int (nI nta), .int (nI nop), .int nbd, .int ntp, .int (nI npr), .int nnw, .int nsn, .int nwn, .ref aNl, .ref aNal, .ref aNlo, .int (nI nac), .ref aNw, .ref aNtr, .ref aNis, .ref aNbg, .ref aNow])), (aNf, .inl (g.2.1 0, 8, .inl (nIf (fnF fi)))), (aNs, .inl (g.2.1 0, 919, .inl (msF gr wk z lk sz br (updN ru 7 v) ki ma bb ce hd)))]) := by
  refine Ct.ofX (lv := [some (.ref aN), some (.int 7), some (.int (nI v)), none, none]) (by decide) rfl (Nat.le_of_ble_eq_true rfl) (fun κ => ?_)
  generalize hQ : xQ κ g 0 0 _ = Q
  refine x_iload_n dX9_rule_0 rfl ?_
  refine x_i2l dX9_rule_1 ?_
  refine x_lconst 0 dX9_rule_2 (by decide) ?_
  refine x_ldc2 dX9_rule_3 kl_X9_96 ?_
  refine x_cSi dX9_rule_6 ml_X9_98 mX9_isIn (ct_X9_isIn κ.2.1 g ((7 : Int32).toInt64) 0 7) rfl (Nat.le_of_ble_eq_true rfl) (by decide) (Nat.le_refl _) (Nat.le_refl _) ?_
  refine x_rei (1) (by decide) ?_
  refine x_if_ne dX9_rule_9 (fun c9 => ?_) (fun c9 => ?_)
  rotate_left
  · exact absurd c9 (by decide)
  refine x_iload_n dX9_rule_19 rfl ?_
  refine x_if_ne dX9_rule_20 (fun c20 => ?_) (fun c20 => ?_)
  rotate_left
  · exact absurd c20 (by decide)
  refine x_iload_n dX9_rule_28 rfl ?_
  refine x_bipush 6 dX9_rule_29 (by decide) ?_
  refine x_icmp_ne dX9_rule_31 (fun c31 => ?_) (fun c31 => ?_)
  rotate_left
  · exact absurd c31 (by decide)
  refine x_iload_n dX9_rule_39 rfl ?_
  refine x_bipush 7 dX9_rule_40 (by decide) ?_
  refine x_icmp_ne dX9_rule_42 (fun c42 => ?_) (fun c42 => ?_)
  · exact absurd c42 (by decide)
  refine x_ldc dX9_rule_45 k_X9_205 ?_
  refine x_goto dX9_rule_47 ?_
  refine x_istore_n (lv' := [some (.ref aN), some (.int 7), some (.int (nI v)), some (.int 99999999), none]) dX9_rule_52 (xlt rfl) rfl ?_
  refine x_iload_n dX9_rule_53 rfl ?_
  refine x_i2l dX9_rule_54 ?_
  refine x_iload_n dX9_rule_55 rfl ?_
  refine x_if_ne dX9_rule_56 (fun c56 => ?_) (fun c56 => ?_)
  rotate_left
  · exact absurd c56 (by decide)
  refine x_lconst 0 dX9_rule_63 (by decide) ?_
  refine x_iload_n dX9_rule_64 rfl ?_
  refine x_i2l dX9_rule_65 ?_
  refine x_cSi dX9_rule_66 ml_X9_98 mX9_isIn (ct_X9_isIn κ.2.1 g ((nI v).toInt64) 0 ((99999999 : Int32).toInt64)) rfl (Nat.le_of_ble_eq_true rfl) (by decide) (Nat.le_refl _) (Nat.le_refl _) ?_
  refine x_rei (wI (nI v) 0 99999999) (inL_w (nI v) 0 99999999 (by first | rfl | decide) (by first | rfl | decide)) ?_
  refine x_rei 1 (show wI (nI v) 0 99999999 = 1 from wI_nat (n := v) (a := 0) (b := 99999999) ⟨by omega, by omega, by omega, by omega⟩) ?_
  refine x_if_ne dX9_rule_69 (fun c69 => ?_) (fun c69 => ?_)
  rotate_left
  · exact absurd c69 (by decide)
  refine x_aload_n dX9_rule_79 rfl ?_
  refine x_get dX9_rule_80 0 0 inX9 fl_X9_7 rfl rfl (by decide) rfl ?_
  refine x_bipush 10 dX9_rule_83 (by decide) ?_
  refine x_iload_n dX9_rule_85 rfl ?_
  refine x_iadd dX9_rule_86 ?_
  refine x_rei 17 (by decide) ?_
  refine x_iald dX9_rule_87 2 17 rfl (rfl) (by decide) (by decide) ?_
  refine x_rei (nI (ru 7)) (msg_ru (x := 7) (by omega) (by omega)) ?_
  refine x_istore (lv' := [some (.ref aN), some (.int 7), some (.int (nI v)), some (.int 99999999), some (.int (nI (ru 7)))]) dX9_rule_88 (xlt rfl) rfl ?_
  refine x_aload_n dX9_rule_90 rfl ?_
  refine x_get dX9_rule_91 0 0 inX9 fl_X9_7 rfl rfl (by decide) rfl ?_
  refine x_bipush 10 dX9_rule_94 (by decide) ?_
  refine x_iload_n dX9_rule_96 rfl ?_
  refine x_iadd dX9_rule_97 ?_
  refine x_rei 17 (by decide) ?_
  refine x_iload_n dX9_rule_98 rfl ?_
  refine x_iast (ws' := [(aN, .inr (9, [.ref aNs, .ref aNk, .int nkp, .ref aNf, .ref aNr, .ref aNp, .ref aNb, .ref aNa, .ref aNt, .int (nI nts), .ref aNbo, .ref aNsz, .ref aNnu, .int (nI nta), .int (nI nop), .int nbd, .int ntp, .int (nI npr), .int nnw, .int nsn, .int nwn, .ref aNl, .ref aNal, .ref aNlo, .int (nI nac), .ref aNw, .ref aNtr, .ref aNis, .ref aNbg, .ref aNow])), (aNf, .inl (g.2.1 0, 8, .inl (nIf (fnF fi)))), (aNs, .inl (g.2.1 0, 919, .inl (msF gr wk z lk sz br (updN ru 7 v) ki ma bb ce hd)))]) dX9_rule_99 2 17 rfl (rfl) (by decide) (by decide) (by rw [mss_ru (x := 7) (by omega) (by omega)]; rfl) ?_
  refine x_iload dX9_rule_100 rfl ?_
  rw [← hQ]
  refine x_iret dX9_rule_102 rfl (Nat.le_of_ble_eq_true rfl) (Nat.le_of_ble_eq_true rfl) ?_
  exact ⟨rfl, rfl⟩

-- == nseed_o ==
theorem dX9_seed_0 : xd cX9_seed 0 (.aload_n 0) 1 1 := ⟨by decide +kernel, rfl⟩
theorem dX9_seed_1 : xd cX9_seed 1 (.getfield 7) 3 4 := ⟨by decide +kernel, rfl⟩
theorem dX9_seed_4 : xd cX9_seed 4 (.iconst 2) 1 5 := ⟨by decide +kernel, rfl⟩
theorem dX9_seed_5 : xd cX9_seed 5 .iaload 1 6 := ⟨by decide +kernel, rfl⟩
theorem dX9_seed_6 : xd cX9_seed 6 (.istore_n 2) 1 7 := ⟨by decide +kernel, rfl⟩
theorem dX9_seed_7 : xd cX9_seed 7 (.aload_n 0) 1 8 := ⟨by decide +kernel, rfl⟩
theorem dX9_seed_8 : xd cX9_seed 8 (.getfield 7) 3 11 := ⟨by decide +kernel, rfl⟩
theorem dX9_seed_11 : xd cX9_seed 11 (.iconst 2) 1 12 := ⟨by decide +kernel, rfl⟩
theorem dX9_seed_12 : xd cX9_seed 12 (.iload_n 1) 1 13 := ⟨by decide +kernel, rfl⟩
theorem dX9_seed_13 : xd cX9_seed 13 .iastore 1 14 := ⟨by decide +kernel, rfl⟩
theorem dX9_seed_14 : xd cX9_seed 14 (.iload_n 2) 1 15 := ⟨by decide +kernel, rfl⟩
theorem dX9_seed_15 : xd cX9_seed 15 .ireturn 1 16 := ⟨by decide +kernel, rfl⟩

set_option maxRecDepth 100000 in
set_option maxHeartbeats 4000000 in
theorem ct_nseed_o (l : Launch) (g : XG) (aN aNs aNk aNf aNr aNp aNb aNa aNt aNbo aNsz aNnu aNl aNal aNlo aNw aNtr aNis aNbg aNow nts nta nop npr nac : Nat) (nkp nbd ntp nnw nsn nwn : Int32) (gr wk lk sz br : Nat) (z : Int32) (ru ki ma bb hd : Nat → Nat) (ce : Nat → Int32) (v : Int32) : Ct l g 34 0 0 yX9_seed cX9_seed 3 (some .int) [.ref aN, .int v] [(aN, .inr (9, [.ref aNs, .ref aNk, .int nkp, .ref aNf, .ref aNr, .ref aNp, .ref aNb, .ref aNa, .ref aNt, .int (nI nts), .ref aNbo, .ref aNsz, .ref aNnu, .int (nI nta), .int (nI nop), .int nbd, .int ntp, .int (nI npr), .int nnw, .int nsn, .int nwn, .ref aNl, .ref aNal, .ref aNlo, .int (nI nac), .ref aNw, .ref aNtr, .ref aNis, .ref aNbg, .ref aNow])), (aNs, .inl (g.2.1 0, 919, .inl (msF gr wk z lk sz br ru ki ma bb ce hd)))] (xpi (z) [(aN, .inr (9, [.ref aNs, .ref aNk, .int nkp, .ref aNf, .ref aNr, .ref aNp, .ref aNb, .ref aNa, .ref aNt, .int (nI nts), .ref aNbo, .ref aNsz, .ref aNnu, .int (nI nta), .int (nI nop), .int nbd, .int ntp, .int (nI npr), .int nnw, .int nsn, .int nwn, .ref aNl, .ref aNal, .ref aNlo, .int (nI nac), .ref aNw, .ref aNtr, .ref aNis, .ref aNbg, .ref aNow])), (aNs, .inl (g.2.1 0, 919, .inl (msF gr wk v lk sz br ru ki ma bb ce hd)))]) := by
  refine Ct.ofX (lv := [some (.ref aN), some (.int v), none]) (by decide) rfl (Nat.le_of_ble_eq_true rfl) (fun κ => ?_)
  generalize hQ : xQ κ g 0 0 _ = Q
  refine x_aload_n dX9_seed_0 rfl ?_
  refine x_get dX9_seed_1 0 0 inX9 fl_X9_7 rfl rfl (by decide) rfl ?_
  refine x_iconst 2 dX9_seed_4 (by decide) ?_
  refine x_iald dX9_seed_5 1 2 rfl (rfl) (by decide) (by decide) ?_
  refine x_rei (z) (rfl) ?_
  refine x_istore_n (lv' := [some (.ref aN), some (.int v), some (.int z)]) dX9_seed_6 (xlt rfl) rfl ?_
  refine x_aload_n dX9_seed_7 rfl ?_
  refine x_get dX9_seed_8 0 0 inX9 fl_X9_7 rfl rfl (by decide) rfl ?_
  refine x_iconst 2 dX9_seed_11 (by decide) ?_
  refine x_iload_n dX9_seed_12 rfl ?_
  refine x_iast (ws' := [(aN, .inr (9, [.ref aNs, .ref aNk, .int nkp, .ref aNf, .ref aNr, .ref aNp, .ref aNb, .ref aNa, .ref aNt, .int (nI nts), .ref aNbo, .ref aNsz, .ref aNnu, .int (nI nta), .int (nI nop), .int nbd, .int ntp, .int (nI npr), .int nnw, .int nsn, .int nwn, .ref aNl, .ref aNal, .ref aNlo, .int (nI nac), .ref aNw, .ref aNtr, .ref aNis, .ref aNbg, .ref aNow])), (aNs, .inl (g.2.1 0, 919, .inl (msF gr wk v lk sz br ru ki ma bb ce hd)))]) dX9_seed_13 1 2 rfl (rfl) (by decide) (by decide) (by rw [mss_2]; rfl) ?_
  refine x_iload_n dX9_seed_14 rfl ?_
  rw [← hQ]
  refine x_iret dX9_seed_15 rfl (Nat.le_of_ble_eq_true rfl) (Nat.le_of_ble_eq_true rfl) ?_
  exact ⟨rfl, rfl⟩

-- == neven_o ==
theorem dX9_even_0 : xd cX9_even 0 (.aload_n 0) 1 1 := ⟨by decide +kernel, rfl⟩
theorem dX9_even_1 : xd cX9_even 1 (.getfield 7) 3 4 := ⟨by decide +kernel, rfl⟩
theorem dX9_even_4 : xd cX9_even 4 (.iconst 3) 1 5 := ⟨by decide +kernel, rfl⟩
theorem dX9_even_5 : xd cX9_even 5 .iaload 1 6 := ⟨by decide +kernel, rfl⟩
theorem dX9_even_6 : xd cX9_even 6 (.istore_n 1) 1 7 := ⟨by decide +kernel, rfl⟩
theorem dX9_even_7 : xd cX9_even 7 (.aload_n 0) 1 8 := ⟨by decide +kernel, rfl⟩
theorem dX9_even_8 : xd cX9_even 8 (.getfield 7) 3 11 := ⟨by decide +kernel, rfl⟩
theorem dX9_even_11 : xd cX9_even 11 (.iconst 3) 1 12 := ⟨by decide +kernel, rfl⟩
theorem dX9_even_12 : xd cX9_even 12 (.iconst 0) 1 13 := ⟨by decide +kernel, rfl⟩
theorem dX9_even_13 : xd cX9_even 13 .iastore 1 14 := ⟨by decide +kernel, rfl⟩
theorem dX9_even_14 : xd cX9_even 14 (.aload_n 0) 1 15 := ⟨by decide +kernel, rfl⟩
theorem dX9_even_15 : xd cX9_even 15 (.iconst 1) 1 16 := ⟨by decide +kernel, rfl⟩
theorem dX9_even_16 : xd cX9_even 16 (.putfield 44) 3 19 := ⟨by decide +kernel, rfl⟩
theorem dX9_even_19 : xd cX9_even 19 (.aload_n 0) 1 20 := ⟨by decide +kernel, rfl⟩
theorem dX9_even_20 : xd cX9_even 20 (.iconst 1) 1 21 := ⟨by decide +kernel, rfl⟩
theorem dX9_even_21 : xd cX9_even 21 (.putfield 48) 3 24 := ⟨by decide +kernel, rfl⟩
theorem dX9_even_24 : xd cX9_even 24 (.iload_n 1) 1 25 := ⟨by decide +kernel, rfl⟩
theorem dX9_even_25 : xd cX9_even 25 .ireturn 1 26 := ⟨by decide +kernel, rfl⟩

set_option maxRecDepth 100000 in
set_option maxHeartbeats 4000000 in
theorem ct_neven_o (l : Launch) (g : XG) (aN aNs aNk aNf aNr aNp aNb aNa aNt aNbo aNsz aNnu aNl aNal aNlo aNw aNtr aNis aNbg aNow nts nta nop npr nac : Nat) (nkp nbd ntp nnw nsn nwn : Int32) (gr wk lk sz br : Nat) (z : Int32) (ru ki ma bb hd : Nat → Nat) (ce : Nat → Int32) : Ct l g 34 0 0 yX9_even cX9_even 2 (some .int) [.ref aN] [(aN, .inr (9, [.ref aNs, .ref aNk, .int nkp, .ref aNf, .ref aNr, .ref aNp, .ref aNb, .ref aNa, .ref aNt, .int (nI nts), .ref aNbo, .ref aNsz, .ref aNnu, .int (nI nta), .int (nI nop), .int nbd, .int ntp, .int (nI npr), .int nnw, .int nsn, .int nwn, .ref aNl, .ref aNal, .ref aNlo, .int (nI nac), .ref aNw, .ref aNtr, .ref aNis, .ref aNbg, .ref aNow])), (aNs, .inl (g.2.1 0, 919, .inl (msF gr wk z lk sz br ru ki ma bb ce hd)))] (xpi (nI (lk)) [(aN, .inr (9, [.ref aNs, .ref aNk, .int nkp, .ref aNf, .ref aNr, .ref aNp, .ref aNb, .ref aNa, .ref aNt, .int (nI nts), .ref aNbo, .ref aNsz, .ref aNnu, .int (nI nta), .int (nI nop), .int nbd, .int ntp, .int (nI npr), .int 1, .int 1, .int nwn, .ref aNl, .ref aNal, .ref aNlo, .int (nI nac), .ref aNw, .ref aNtr, .ref aNis, .ref aNbg, .ref aNow])), (aNs, .inl (g.2.1 0, 919, .inl (msF gr wk z 0 sz br ru ki ma bb ce hd)))]) := by
  refine Ct.ofX (lv := [some (.ref aN), none]) (by decide) rfl (Nat.le_of_ble_eq_true rfl) (fun κ => ?_)
  generalize hQ : xQ κ g 0 0 _ = Q
  refine x_aload_n dX9_even_0 rfl ?_
  refine x_get dX9_even_1 0 0 inX9 fl_X9_7 rfl rfl (by decide) rfl ?_
  refine x_iconst 3 dX9_even_4 (by decide) ?_
  refine x_iald dX9_even_5 1 3 rfl (rfl) (by decide) (by decide) ?_
  refine x_rei (nI lk) (rfl) ?_
  refine x_istore_n (lv' := [some (.ref aN), some (.int (nI lk))]) dX9_even_6 (xlt rfl) rfl ?_
  refine x_aload_n dX9_even_7 rfl ?_
  refine x_get dX9_even_8 0 0 inX9 fl_X9_7 rfl rfl (by decide) rfl ?_
  refine x_iconst 3 dX9_even_11 (by decide) ?_
  refine x_iconst 0 dX9_even_12 (by decide) ?_
  refine x_rei (nI 0) rfl ?_
  refine x_iast (ws' := [(aN, .inr (9, [.ref aNs, .ref aNk, .int nkp, .ref aNf, .ref aNr, .ref aNp, .ref aNb, .ref aNa, .ref aNt, .int (nI nts), .ref aNbo, .ref aNsz, .ref aNnu, .int (nI nta), .int (nI nop), .int nbd, .int ntp, .int (nI npr), .int nnw, .int nsn, .int nwn, .ref aNl, .ref aNal, .ref aNlo, .int (nI nac), .ref aNw, .ref aNtr, .ref aNis, .ref aNbg, .ref aNow])), (aNs, .inl (g.2.1 0, 919, .inl (msF gr wk z 0 sz br ru ki ma bb ce hd)))]) dX9_even_13 1 3 rfl (rfl) (by decide) (by decide) (by rw [mss_3]; rfl) ?_
  refine x_aload_n dX9_even_14 rfl ?_
  refine x_iconst 1 dX9_even_15 (by decide) ?_
  refine x_put (ws' := [(aN, .inr (9, [.ref aNs, .ref aNk, .int nkp, .ref aNf, .ref aNr, .ref aNp, .ref aNb, .ref aNa, .ref aNt, .int (nI nts), .ref aNbo, .ref aNsz, .ref aNnu, .int (nI nta), .int (nI nop), .int nbd, .int ntp, .int (nI npr), .int 1, .int nsn, .int nwn, .ref aNl, .ref aNal, .ref aNlo, .int (nI nac), .ref aNw, .ref aNtr, .ref aNis, .ref aNbg, .ref aNow])), (aNs, .inl (g.2.1 0, 919, .inl (msF gr wk z 0 sz br ru ki ma bb ce hd)))]) dX9_even_16 0 18 inX9 tyX9_ok nmX9 fl_X9_44 rfl rfl (by decide) rfl (rfl) rfl (xlt rfl) rfl ?_
  refine x_aload_n dX9_even_19 rfl ?_
  refine x_iconst 1 dX9_even_20 (by decide) ?_
  refine x_put (ws' := [(aN, .inr (9, [.ref aNs, .ref aNk, .int nkp, .ref aNf, .ref aNr, .ref aNp, .ref aNb, .ref aNa, .ref aNt, .int (nI nts), .ref aNbo, .ref aNsz, .ref aNnu, .int (nI nta), .int (nI nop), .int nbd, .int ntp, .int (nI npr), .int 1, .int 1, .int nwn, .ref aNl, .ref aNal, .ref aNlo, .int (nI nac), .ref aNw, .ref aNtr, .ref aNis, .ref aNbg, .ref aNow])), (aNs, .inl (g.2.1 0, 919, .inl (msF gr wk z 0 sz br ru ki ma bb ce hd)))]) dX9_even_21 0 19 inX9 tyX9_ok nmX9 fl_X9_48 rfl rfl (by decide) rfl (rfl) rfl (xlt rfl) rfl ?_
  refine x_iload_n dX9_even_24 rfl ?_
  rw [← hQ]
  refine x_iret dX9_even_25 rfl (Nat.le_of_ble_eq_true rfl) (Nat.le_of_ble_eq_true rfl) ?_
  exact ⟨rfl, rfl⟩

-- == nweek_f ==
theorem dX9_week_0 : xd cX9_week 0 (.aload_n 0) 1 1 := ⟨by decide +kernel, rfl⟩
theorem dX9_week_1 : xd cX9_week 1 (.getfield 7) 3 4 := ⟨by decide +kernel, rfl⟩
theorem dX9_week_4 : xd cX9_week 4 (.iconst 1) 1 5 := ⟨by decide +kernel, rfl⟩
theorem dX9_week_5 : xd cX9_week 5 .iaload 1 6 := ⟨by decide +kernel, rfl⟩
theorem dX9_week_6 : xd cX9_week 6 (.bipush 40) 2 8 := ⟨by decide +kernel, rfl⟩
theorem dX9_week_8 : xj cX9_week 8 (.if_icmp .ne) 11 18 := ⟨10, by decide +kernel, rfl, by decide⟩
theorem dX9_week_11 : xd cX9_week 11 (.aload_n 0) 1 12 := ⟨by decide +kernel, rfl⟩
theorem dX9_week_12 : xd cX9_week 12 (.ldc 104) 2 14 := ⟨by decide +kernel, rfl⟩
theorem dX9_week_14 : xd cX9_week 14 (.invokevirtual 88) 3 17 := ⟨by decide +kernel, rfl⟩
theorem dX9_week_17 : xd cX9_week 17 .ireturn 1 18 := ⟨by decide +kernel, rfl⟩
theorem dX9_week_18 : xd cX9_week 18 (.iconst 0) 1 19 := ⟨by decide +kernel, rfl⟩
theorem dX9_week_19 : xd cX9_week 19 (.istore_n 1) 1 20 := ⟨by decide +kernel, rfl⟩
theorem dX9_week_20 : xd cX9_week 20 (.aload_n 0) 1 21 := ⟨by decide +kernel, rfl⟩
theorem dX9_week_21 : xd cX9_week 21 (.iload_n 1) 1 22 := ⟨by decide +kernel, rfl⟩
theorem dX9_week_22 : xd cX9_week 22 (.invokevirtual 132) 3 25 := ⟨by decide +kernel, rfl⟩
theorem dX9_week_25 : xd cX9_week 25 (.iconst 4) 1 26 := ⟨by decide +kernel, rfl⟩
theorem dX9_week_26 : xj cX9_week 26 (.if_icmp .ge) 29 68 := ⟨42, by decide +kernel, rfl, by decide⟩
theorem dX9_week_29 : xd cX9_week 29 (.aload_n 0) 1 30 := ⟨by decide +kernel, rfl⟩
theorem dX9_week_30 : xd cX9_week 30 (.getfield 7) 3 33 := ⟨by decide +kernel, rfl⟩
theorem dX9_week_33 : xd cX9_week 33 (.iconst 2) 1 34 := ⟨by decide +kernel, rfl⟩
theorem dX9_week_34 : xd cX9_week 34 (.aload_n 0) 1 35 := ⟨by decide +kernel, rfl⟩
theorem dX9_week_35 : xd cX9_week 35 (.getfield 7) 3 38 := ⟨by decide +kernel, rfl⟩
theorem dX9_week_38 : xd cX9_week 38 (.iconst 2) 1 39 := ⟨by decide +kernel, rfl⟩
theorem dX9_week_39 : xd cX9_week 39 .iaload 1 40 := ⟨by decide +kernel, rfl⟩
theorem dX9_week_40 : xd cX9_week 40 (.ldc 218) 2 42 := ⟨by decide +kernel, rfl⟩
theorem dX9_week_42 : xd cX9_week 42 .imul 1 43 := ⟨by decide +kernel, rfl⟩
theorem dX9_week_43 : xd cX9_week 43 (.sipush 12345) 3 46 := ⟨by decide +kernel, rfl⟩
theorem dX9_week_46 : xd cX9_week 46 .iadd 1 47 := ⟨by decide +kernel, rfl⟩
theorem dX9_week_47 : xd cX9_week 47 .iastore 1 48 := ⟨by decide +kernel, rfl⟩
theorem dX9_week_48 : xd cX9_week 48 (.iload_n 1) 1 49 := ⟨by decide +kernel, rfl⟩
theorem dX9_week_49 : xd cX9_week 49 (.iconst 1) 1 50 := ⟨by decide +kernel, rfl⟩
theorem dX9_week_50 : xd cX9_week 50 (.aload_n 0) 1 51 := ⟨by decide +kernel, rfl⟩
theorem dX9_week_51 : xd cX9_week 51 (.getfield 7) 3 54 := ⟨by decide +kernel, rfl⟩
theorem dX9_week_54 : xd cX9_week 54 (.iconst 2) 1 55 := ⟨by decide +kernel, rfl⟩
theorem dX9_week_55 : xd cX9_week 55 .iaload 1 56 := ⟨by decide +kernel, rfl⟩
theorem dX9_week_56 : xd cX9_week 56 (.bipush 16) 2 58 := ⟨by decide +kernel, rfl⟩
theorem dX9_week_58 : xd cX9_week 58 .iushr 1 59 := ⟨by decide +kernel, rfl⟩
theorem dX9_week_59 : xd cX9_week 59 (.bipush 12) 2 61 := ⟨by decide +kernel, rfl⟩
theorem dX9_week_61 : xd cX9_week 61 .irem 1 62 := ⟨by decide +kernel, rfl⟩
theorem dX9_week_62 : xd cX9_week 62 .ishl 1 63 := ⟨by decide +kernel, rfl⟩
theorem dX9_week_63 : xd cX9_week 63 .ior 1 64 := ⟨by decide +kernel, rfl⟩
theorem dX9_week_64 : xd cX9_week 64 (.istore_n 1) 1 65 := ⟨by decide +kernel, rfl⟩
theorem dX9_week_65 : xj cX9_week 65 .goto 68 20 := ⟨(-45), by decide +kernel, rfl, by decide⟩
theorem dX9_week_68 : xd cX9_week 68 (.aload_n 0) 1 69 := ⟨by decide +kernel, rfl⟩
theorem dX9_week_69 : xd cX9_week 69 (.iload_n 1) 1 70 := ⟨by decide +kernel, rfl⟩
theorem dX9_week_70 : xd cX9_week 70 (.invokevirtual 219) 3 73 := ⟨by decide +kernel, rfl⟩
theorem dX9_week_73 : xd cX9_week 73 (.iload_n 1) 1 74 := ⟨by decide +kernel, rfl⟩
theorem dX9_week_74 : xd cX9_week 74 .ireturn 1 75 := ⟨by decide +kernel, rfl⟩

set_option maxRecDepth 100000 in
set_option maxHeartbeats 4000000 in
theorem ct_nweek_f (l : Launch) (g : XG) (aN aNs aNk aNf aNr aNp aNb aNa aNt aNbo aNsz aNnu aNl aNal aNlo aNw aNtr aNis aNbg aNow nts nta nop npr nac : Nat) (nkp nbd ntp nnw nsn nwn : Int32) (fi : Nat → Nat) (gr wk lk sz br : Nat) (z : Int32) (ru ki ma bb hd : Nat → Nat) (ce : Nat → Int32) (hw : wk = 40) : Ct l g 34 0 0 yX9_week cX9_week 2 (some .int) [.ref aN] [(aN, .inr (9, [.ref aNs, .ref aNk, .int nkp, .ref aNf, .ref aNr, .ref aNp, .ref aNb, .ref aNa, .ref aNt, .int (nI nts), .ref aNbo, .ref aNsz, .ref aNnu, .int (nI nta), .int (nI nop), .int nbd, .int ntp, .int (nI npr), .int nnw, .int nsn, .int nwn, .ref aNl, .ref aNal, .ref aNlo, .int (nI nac), .ref aNw, .ref aNtr, .ref aNis, .ref aNbg, .ref aNow])), (aNf, .inl (g.2.1 0, 8, .inl (nIf (fnF fi)))), (aNs, .inl (g.2.1 0, 919, .inl (msF gr wk z lk sz br ru ki ma bb ce hd)))] (xpi (fndI 1) [(aN, .inr (9, [.ref aNs, .ref aNk, .int nkp, .ref aNf, .ref aNr, .ref aNp, .ref aNb, .ref aNa, .ref aNt, .int (nI nts), .ref aNbo, .ref aNsz, .ref aNnu, .int (nI nta), .int (nI nop), .int nbd, .int ntp, .int (nI npr), .int nnw, .int nsn, .int nwn, .ref aNl, .ref aNal, .ref aNlo, .int (nI nac), .ref aNw, .ref aNtr, .ref aNis, .ref aNbg, .ref aNow])), (aNf, .inl (g.2.1 0, 8, .inl (nIf (fnF (updN fi 1 (fi 1 + 1)))))), (aNs, .inl (g.2.1 0, 919, .inl (msF gr wk z lk sz br ru ki ma bb ce hd)))]) := by
  refine Ct.ofX (lv := [some (.ref aN), none]) (by decide) rfl (Nat.le_of_ble_eq_true rfl) (fun κ => ?_)
  generalize hQ : xQ κ g 0 0 _ = Q
  refine x_aload_n dX9_week_0 rfl ?_
  refine x_get dX9_week_1 0 0 inX9 fl_X9_7 rfl rfl (by decide) rfl ?_
  refine x_iconst 1 dX9_week_4 (by decide) ?_
  refine x_iald dX9_week_5 2 1 rfl (rfl) (by decide) (by decide) ?_
  refine x_rei (nI wk) (rfl) ?_
  refine x_bipush 40 dX9_week_6 (by decide) ?_
  refine x_icmp_ne dX9_week_8 (fun c8 => ?_) (fun c8 => ?_)
  · have c8 : ¬ ((nI wk) = 40) := c8
    have c8n := mt (nI_eq (a := wk) (b := 40) (by omega) (by omega)).mpr c8
    exact absurd c8n (by omega)
  · have c8 : (nI wk) = 40 := c8
    have c8n := (nI_eq (a := wk) (b := 40) (by omega) (by omega)).mp c8
    refine x_aload_n dX9_week_11 rfl ?_
    refine x_ldc dX9_week_12 k_X9_104 ?_
    refine x_cVi (ws' := [(aN, .inr (9, [.ref aNs, .ref aNk, .int nkp, .ref aNf, .ref aNr, .ref aNp, .ref aNb, .ref aNa, .ref aNt, .int (nI nts), .ref aNbo, .ref aNsz, .ref aNnu, .int (nI nta), .int (nI nop), .int nbd, .int ntp, .int (nI npr), .int nnw, .int nsn, .int nwn, .ref aNl, .ref aNal, .ref aNlo, .int (nI nac), .ref aNw, .ref aNtr, .ref aNis, .ref aNbg, .ref aNow])), (aNf, .inl (g.2.1 0, 8, .inl (nIf (fnF (updN fi 1 (fi 1 + 1)))))), (aNs, .inl (g.2.1 0, 919, .inl (msF gr wk z lk sz br ru ki ma bb ce hd)))]) dX9_week_14 ml_X9_88 mX9_finds (ct_finds_1 κ.2.1 g aN aNs aNk aNf aNr aNp aNb aNa aNt aNbo aNsz aNnu aNl aNal aNlo aNw aNtr aNis aNbg aNow nts nta nop npr nac nkp nbd ntp nnw nsn nwn fi) [0, 1] rfl rfl 0 rfl rfl rfl (Nat.le_of_ble_eq_true rfl) (by decide) (Nat.le_refl _) (Nat.le_refl _) (rfl : [aN, aNf] = [aN, aNf]) rfl ?_
    rw [← hQ]
    refine x_iret dX9_week_17 rfl (Nat.le_of_ble_eq_true rfl) (Nat.le_of_ble_eq_true rfl) ?_
    exact ⟨rfl, rfl⟩

-- == nweek_o ==
set_option maxRecDepth 100000 in
set_option maxHeartbeats 4000000 in
theorem ct_nweek_o (l : Launch) (g : XG) (aN aNs aNk aNf aNr aNp aNb aNa aNt aNbo aNsz aNnu aNl aNal aNlo aNw aNtr aNis aNbg aNow nts nta nop npr nac : Nat) (nkp nbd nnw nsn nwn : Int32) (gr wk lk sz br : Nat) (z : Int32) (ru ki ma bb hd : Nat → Nat) (ce : Nat → Int32) (tb nli nal nlo sd : Nat → Nat) (L : Nat) (K : Nat) (hgr : gr ≤ 12) (hki : ∀ j, ki j ≤ 7) (hma : ∀ j, ma j ≤ 99999) (hwk : wk ≤ 40) (hlat : latI ce wk = nI L) (hL : L < 4096) (hsz : sz ≤ 60) (hbb : ∀ j, bb j < 256) (hsd : ∀ p, sd p ≤ 99) (hsv : ∀ p, p < 495 → sd p = if lk = 1 then clN (txV bb sz wk L p) else 1) (hlk : lk ≤ 1) (hwo : (nnw = 1 ∧ (nsn = 1 ∨ (nsn = 0 ∧ nli = sd))) ∨ (nnw = 0 ∧ nsn = 0 ∧ nli = sd ∧ nal = crH gr ki ma hd L sd ∧ nac = toH gr ki ma hd L sd ∧ ∀ q, q < gr → nlo q = laN (ki q) (ma q) L sd)) (hw4 : wk < 40) (htot : toH gr ki ma hd L sd < 2 ^ 30) (hK1 : K ≤ 300000) (hK2 : ∀ j, j < K → popN (dT z j) < 4) (hK3 : 4 ≤ popN (dT z K)) : Ct l g 34 0 0 yX9_week cX9_week 2 (some .int) [.ref aN] [(aN, .inr (9, [.ref aNs, .ref aNk, .int nkp, .ref aNf, .ref aNr, .ref aNp, .ref aNb, .ref aNa, .ref aNt, .int (nI nts), .ref aNbo, .ref aNsz, .ref aNnu, .int (nI nta), .int (nI nop), .int nbd, .int 0, .int (nI npr), .int nnw, .int nsn, .int nwn, .ref aNl, .ref aNal, .ref aNlo, .int (nI nac), .ref aNw, .ref aNtr, .ref aNis, .ref aNbg, .ref aNow])), (aNs, .inl (g.2.1 0, 919, .inl (msF gr wk z lk sz br ru ki ma bb ce hd))), (aNt, .inl (g.2.1 0, 60, .inl (nIf tb))), (aNa, .inl (g.2.1 0, 2475, .inl (nIf fcN))), (aNr, .inl (g.2.1 0, 495, .inl (nIf rowB))), (aNb, .inl (g.2.1 0, 4096, .inl (nIf popN))), (aNl, .inl (g.2.1 0, 495, .inl (nIf nli))), (aNal, .inl (g.2.1 0, 495, .inl (nIf nal))), (aNlo, .inl (g.2.1 0, 12, .inl (nIf nlo)))] (fun vv_ ww_ => ∃ (zat : Nat) (zop : Nat) (zbd : Int32) (zpr : Nat) (lo2 : Nat → Nat), vv_ = some (.int (nI (dT z K))) ∧ ww_ = [(aN, .inr (9, [.ref aNs, .ref aNk, .int nkp, .ref aNf, .ref aNr, .ref aNp, .ref aNb, .ref aNa, .ref aNt, .int (nI nts), .ref aNbo, .ref aNsz, .ref aNnu, .int (nI zat), .int (nI zop), .int zbd, .int 0, .int (nI zpr), .int 1, .int 1, .int (wnI nnw nwn), .ref aNl, .ref aNal, .ref aNlo, .int (nI (toH gr ki ma hd L sd)), .ref aNw, .ref aNtr, .ref aNis, .ref aNbg, .ref aNow])), (aNs, .inl (g.2.1 0, 919, .inl (msF gr (wk + 1) (zT z K) lk sz br (updN ru 7 (potE (wkLeft ru (toH gr ki ma hd L sd) (crH gr ki ma hd L sd) (dT z K)))) ki ma bb (wkCells ce wk ru (toH gr ki ma hd L sd) (crH gr ki ma hd L sd) (dT z K)) hd))), (aNt, .inl (g.2.1 0, 60, .inl (nIf tb))), (aNa, .inl (g.2.1 0, 2475, .inl (nIf fcN))), (aNr, .inl (g.2.1 0, 495, .inl (nIf rowB))), (aNb, .inl (g.2.1 0, 4096, .inl (nIf popN))), (aNl, .inl (g.2.1 0, 495, .inl (nIf sd))), (aNal, .inl (g.2.1 0, 495, .inl (nIf (crH gr ki ma hd L sd)))), (aNlo, .inl (g.2.1 0, 12, .inl (nIf lo2)))] ∧ (∀ q, q < gr → lo2 q = laN (ki q) (ma q) L sd)) := by
  refine Ct.ofX (lv := [some (.ref aN), none]) (by decide) rfl (Nat.le_of_ble_eq_true rfl) (fun κ => ?_)
  generalize hQ : xQ κ g 0 0 _ = Q
  refine x_aload_n dX9_week_0 rfl ?_
  refine x_get dX9_week_1 0 0 inX9 fl_X9_7 rfl rfl (by decide) rfl ?_
  refine x_iconst 1 dX9_week_4 (by decide) ?_
  refine x_iald dX9_week_5 1 1 rfl (rfl) (by decide) (by decide) ?_
  refine x_rei (nI wk) (rfl) ?_
  refine x_bipush 40 dX9_week_6 (by decide) ?_
  refine x_icmp_ne dX9_week_8 (fun c8 => ?_) (fun c8 => ?_)
  · have c8 : ¬ ((nI wk) = 40) := c8
    have c8n := mt (nI_eq (a := wk) (b := 40) (by omega) (by omega)).mpr c8
    refine x_iconst 0 dX9_week_18 (by decide) ?_
    refine x_istore_n (lv' := [some (.ref aN), some (.int 0)]) dX9_week_19 (xlt rfl) rfl ?_
    have L20_1 : ∀ (i : Nat), i ≤ K → ∀ (zf : Int32), zf = zT z i → ∀ (dd : Nat), dd = dT z i → Xs κ g 34 0 0 cX9_week yX9_week (some .int) Q 0 0 20 [some (.ref aN), some (.int (nI dd))] [] [(aN, .inr (9, [.ref aNs, .ref aNk, .int nkp, .ref aNf, .ref aNr, .ref aNp, .ref aNb, .ref aNa, .ref aNt, .int (nI nts), .ref aNbo, .ref aNsz, .ref aNnu, .int (nI nta), .int (nI nop), .int nbd, .int 0, .int (nI npr), .int nnw, .int nsn, .int nwn, .ref aNl, .ref aNal, .ref aNlo, .int (nI nac), .ref aNw, .ref aNtr, .ref aNis, .ref aNbg, .ref aNow])), (aNs, .inl (g.2.1 0, 919, .inl (msF gr wk zf lk sz br ru ki ma bb ce hd))), (aNt, .inl (g.2.1 0, 60, .inl (nIf tb))), (aNa, .inl (g.2.1 0, 2475, .inl (nIf fcN))), (aNr, .inl (g.2.1 0, 495, .inl (nIf rowB))), (aNb, .inl (g.2.1 0, 4096, .inl (nIf popN))), (aNl, .inl (g.2.1 0, 495, .inl (nIf nli))), (aNal, .inl (g.2.1 0, 495, .inl (nIf nal))), (aNlo, .inl (g.2.1 0, 12, .inl (nIf nlo)))] := by
      refine upTo K (fun i hi20 ih20 => ?_)
      intro zf ezf
      subst ezf
      intro dd edd
      subst edd
      have hdl := dT_lt z i
      have hpl := popN_le (dT z i)
      refine x_aload_n dX9_week_20 rfl ?_
      refine x_iload_n dX9_week_21 rfl ?_
      refine x_cVi0 dX9_week_22 ml_X9_132 mX9_ones (ct_X9_ones κ.2.1 g aN aNs aNk aNf aNr aNp aNb aNa aNt aNbo aNsz aNnu aNl aNal aNlo aNw aNtr aNis aNbg aNow nts nta nop npr nac nkp nbd 0 nnw nsn nwn (dT z i) (dT_lt z i)) [0, 5] rfl rfl 0 rfl rfl rfl (Nat.le_of_ble_eq_true rfl) (by decide) (Nat.le_refl _) (Nat.le_refl _) ?_
      refine x_iconst 4 dX9_week_25 (by decide) ?_
      refine x_icmp_ge dX9_week_26 (fun c26 => ?_) (fun c26 => ?_)
      · have c26 : 4 ≤ (nI (popN (dT z i))) := c26
        have c26n := (nI_leI (a := 4) (b := (popN (dT z i))) (by omega) (by omega)).mp c26
        have hxK : i = K := by rcases Nat.lt_or_ge i K with q | q; have := hK2 i q; omega; omega
        rw [hxK]
        refine x_aload_n dX9_week_68 rfl ?_
        refine x_iload_n dX9_week_69 rfl ?_
        refine x_callV dX9_week_70 ml_X9_219 mX9_goes (ct_X9_goes κ.2.1 g aN aNs aNk aNf aNr aNp aNb aNa aNt aNbo aNsz aNnu aNl aNal aNlo aNw aNtr aNis aNbg aNow nts nta nop npr nac nkp nbd nnw nsn nwn gr wk lk sz br (zT z K) ru ki ma bb hd ce tb nli nal nlo sd L (dT z K) (hgr) (hki) (hma) (hwk) (hlat) (hL) (hsz) (hbb) (hsd) (hsv) (hlk) (hwo) (dT_lt z K) (hw4) (htot)) [0, 1, 2, 3, 4, 5, 6, 7, 8] rfl rfl 0 rfl rfl rfl (Nat.le_of_ble_eq_true rfl) (by decide) (Nat.le_refl _) (Nat.le_refl _) (fun vv ww hp => ?_)
        obtain ⟨z2, z3, z4, z5, z6, rfl, rfl, p7⟩ := hp
        refine ⟨(rfl : [aN, aNs, aNt, aNa, aNr, aNb, aNl, aNal, aNlo] = [aN, aNs, aNt, aNa, aNr, aNb, aNl, aNal, aNlo]), x_eq (lv' := [some (.ref aN), some (.int (nI ((dT z K))))]) (st' := []) (ws' := [(aN, .inr (9, [.ref aNs, .ref aNk, .int nkp, .ref aNf, .ref aNr, .ref aNp, .ref aNb, .ref aNa, .ref aNt, .int (nI nts), .ref aNbo, .ref aNsz, .ref aNnu, .int (nI z2), .int (nI z3), .int z4, .int 0, .int (nI z5), .int 1, .int 1, .int (wnI nnw nwn), .ref aNl, .ref aNal, .ref aNlo, .int (nI (toH gr ki ma hd L sd)), .ref aNw, .ref aNtr, .ref aNis, .ref aNbg, .ref aNow])), (aNs, .inl (g.2.1 0, 919, .inl (msF gr (wk + 1) (zT z K) lk sz br (updN ru 7 (potE (wkLeft ru (toH gr ki ma hd L sd) (crH gr ki ma hd L sd) (dT z K)))) ki ma bb (wkCells ce wk ru (toH gr ki ma hd L sd) (crH gr ki ma hd L sd) (dT z K)) hd))), (aNt, .inl (g.2.1 0, 60, .inl (nIf tb))), (aNa, .inl (g.2.1 0, 2475, .inl (nIf fcN))), (aNr, .inl (g.2.1 0, 495, .inl (nIf rowB))), (aNb, .inl (g.2.1 0, 4096, .inl (nIf popN))), (aNl, .inl (g.2.1 0, 495, .inl (nIf sd))), (aNal, .inl (g.2.1 0, 495, .inl (nIf (crH gr ki ma hd L sd)))), (aNlo, .inl (g.2.1 0, 12, .inl (nIf z6)))]) ?_ rfl rfl rfl⟩
        refine x_iload_n dX9_week_73 rfl ?_
        rw [← hQ]
        refine x_iret dX9_week_74 rfl (Nat.le_of_ble_eq_true rfl) (Nat.le_of_ble_eq_true rfl) ?_
        exact ⟨_, _, _, _, _, rfl, rfl, p7⟩
      · have c26 : ¬ (4 ≤ (nI (popN (dT z i)))) := c26
        have c26n := mt (nI_leI (a := 4) (b := (popN (dT z i))) (by omega) (by omega)).mpr c26
        have hltK : i < K := by rcases Nat.lt_or_ge i K with q | q; exact q; have e : i = K := (by omega); rw [e] at c26n; omega
        refine x_aload_n dX9_week_29 rfl ?_
        refine x_get dX9_week_30 0 0 inX9 fl_X9_7 rfl rfl (by decide) rfl ?_
        refine x_iconst 2 dX9_week_33 (by decide) ?_
        refine x_aload_n dX9_week_34 rfl ?_
        refine x_get dX9_week_35 0 0 inX9 fl_X9_7 rfl rfl (by decide) rfl ?_
        refine x_iconst 2 dX9_week_38 (by decide) ?_
        refine x_iald dX9_week_39 1 2 rfl (rfl) (by decide) (by decide) ?_
        refine x_rei ((zT z i)) (rfl) ?_
        refine x_ldc dX9_week_40 k_X9_218 ?_
        refine x_imul dX9_week_42 ?_
        refine x_sipush 12345 dX9_week_43 (by decide) ?_
        refine x_iadd dX9_week_46 ?_
        refine x_iast (ws' := [(aN, .inr (9, [.ref aNs, .ref aNk, .int nkp, .ref aNf, .ref aNr, .ref aNp, .ref aNb, .ref aNa, .ref aNt, .int (nI nts), .ref aNbo, .ref aNsz, .ref aNnu, .int (nI nta), .int (nI nop), .int nbd, .int 0, .int (nI npr), .int nnw, .int nsn, .int nwn, .ref aNl, .ref aNal, .ref aNlo, .int (nI nac), .ref aNw, .ref aNtr, .ref aNis, .ref aNbg, .ref aNow])), (aNs, .inl (g.2.1 0, 919, .inl (msF gr wk (((zT z i) * 1103515245) + 12345) lk sz br ru ki ma bb ce hd))), (aNt, .inl (g.2.1 0, 60, .inl (nIf tb))), (aNa, .inl (g.2.1 0, 2475, .inl (nIf fcN))), (aNr, .inl (g.2.1 0, 495, .inl (nIf rowB))), (aNb, .inl (g.2.1 0, 4096, .inl (nIf popN))), (aNl, .inl (g.2.1 0, 495, .inl (nIf nli))), (aNal, .inl (g.2.1 0, 495, .inl (nIf nal))), (aNlo, .inl (g.2.1 0, 12, .inl (nIf nlo)))]) dX9_week_47 1 2 rfl (rfl) (by decide) (by decide) (by rw [mss_2]; rfl) ?_
        refine x_iload_n dX9_week_48 rfl ?_
        refine x_iconst 1 dX9_week_49 (by decide) ?_
        refine x_aload_n dX9_week_50 rfl ?_
        refine x_get dX9_week_51 0 0 inX9 fl_X9_7 rfl rfl (by decide) rfl ?_
        refine x_iconst 2 dX9_week_54 (by decide) ?_
        refine x_iald dX9_week_55 1 2 rfl (rfl) (by decide) (by decide) ?_
        refine x_rei ((((zT z i) * 1103515245) + 12345)) (rfl) ?_
        refine x_bipush 16 dX9_week_56 (by decide) ?_
        refine x_iushr dX9_week_58 ?_
        refine x_bipush 12 dX9_week_59 (by decide) ?_
        refine x_irem dX9_week_61 (by decide) ?_
        refine x_ishl dX9_week_62 ?_
        refine x_rei (nI (2 ^ lotN (zT z (i + 1)))) (lot_eq (zT z (i + 1))) ?_
        refine x_ior dX9_week_63 ?_
        refine x_rei (nI ((dT z i) ||| (2 ^ lotN (zT z (i + 1))))) (nI_ior (dT z i) (2 ^ lotN (zT z (i + 1)))) ?_
        refine x_istore_n (lv' := [some (.ref aN), some (.int (nI ((dT z i) ||| (2 ^ lotN (zT z (i + 1))))))]) dX9_week_64 (xlt rfl) rfl ?_
        refine x_goto dX9_week_65 ?_
        exact ih20 (by omega) _ (by rfl) ((dT z i) ||| (2 ^ lotN (zT z (i + 1)))) (by rfl)
    exact L20_1 0 (Nat.zero_le _) _ (by rfl) 0 (by rfl)
  · have c8 : (nI wk) = 40 := c8
    have c8n := (nI_eq (a := wk) (b := 40) (by omega) (by omega)).mp c8
    exact absurd c8n (by omega)

