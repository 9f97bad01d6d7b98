
-- == nalone_b ==
theorem dX9_alone_0 : xd cX9_alone 0 (.iload_n 1) 1 1 := ⟨by decide +kernel, rfl⟩
theorem dX9_alone_1 : xd cX9_alone 1 .i2l 1 2 := ⟨by decide +kernel, rfl⟩
theorem dX9_alone_2 : xd cX9_alone 2 (.lconst 0) 1 3 := ⟨by decide +kernel, rfl⟩
theorem dX9_alone_3 : xd cX9_alone 3 (.lconst 1) 1 4 := ⟨by decide +kernel, rfl⟩
theorem dX9_alone_4 : xd cX9_alone 4 (.invokestatic 98) 3 7 := ⟨by decide +kernel, rfl⟩
theorem dX9_alone_7 : xj cX9_alone 7 (.ifCond .ne) 10 17 := ⟨10, by decide +kernel, rfl, by decide⟩
theorem dX9_alone_10 : xd cX9_alone 10 (.aload_n 0) 1 11 := ⟨by decide +kernel, rfl⟩
theorem dX9_alone_11 : xd cX9_alone 11 (.ldc 87) 2 13 := ⟨by decide +kernel, rfl⟩
theorem dX9_alone_13 : xd cX9_alone 13 (.invokevirtual 88) 3 16 := ⟨by decide +kernel, rfl⟩
theorem dX9_alone_16 : xd cX9_alone 16 .ireturn 1 17 := ⟨by decide +kernel, rfl⟩
theorem dX9_alone_17 : xd cX9_alone 17 (.aload_n 0) 1 18 := ⟨by decide +kernel, rfl⟩
theorem dX9_alone_18 : xd cX9_alone 18 (.invokevirtual 198) 3 21 := ⟨by decide +kernel, rfl⟩
theorem dX9_alone_21 : xd cX9_alone 21 (.iconst 0) 1 22 := ⟨by decide +kernel, rfl⟩
theorem dX9_alone_22 : xd cX9_alone 22 (.istore_n 2) 1 23 := ⟨by decide +kernel, rfl⟩
theorem dX9_alone_23 : xd cX9_alone 23 (.iconst (-1)) 1 24 := ⟨by decide +kernel, rfl⟩
theorem dX9_alone_24 : xd cX9_alone 24 (.istore_n 3) 1 25 := ⟨by decide +kernel, rfl⟩
theorem dX9_alone_25 : xd cX9_alone 25 (.iconst 0) 1 26 := ⟨by decide +kernel, rfl⟩
theorem dX9_alone_26 : xd cX9_alone 26 (.istore 4) 2 28 := ⟨by decide +kernel, rfl⟩
theorem dX9_alone_28 : xd cX9_alone 28 (.iload 4) 2 30 := ⟨by decide +kernel, rfl⟩
theorem dX9_alone_30 : xd cX9_alone 30 (.sipush 495) 3 33 := ⟨by decide +kernel, rfl⟩
theorem dX9_alone_33 : xj cX9_alone 33 (.if_icmp .ge) 36 81 := ⟨48, by decide +kernel, rfl, by decide⟩
theorem dX9_alone_36 : xd cX9_alone 36 (.aload_n 0) 1 37 := ⟨by decide +kernel, rfl⟩
theorem dX9_alone_37 : xd cX9_alone 37 (.getfield 57) 3 40 := ⟨by decide +kernel, rfl⟩
theorem dX9_alone_40 : xd cX9_alone 40 (.iload 4) 2 42 := ⟨by decide +kernel, rfl⟩
theorem dX9_alone_42 : xd cX9_alone 42 .iaload 1 43 := ⟨by decide +kernel, rfl⟩
theorem dX9_alone_43 : xj cX9_alone 43 (.ifCond .ne) 46 55 := ⟨12, by decide +kernel, rfl, by decide⟩
theorem dX9_alone_46 : xd cX9_alone 46 (.iload_n 3) 1 47 := ⟨by decide +kernel, rfl⟩
theorem dX9_alone_47 : xj cX9_alone 47 (.ifCond .ge) 50 55 := ⟨8, by decide +kernel, rfl, by decide⟩
theorem dX9_alone_50 : xd cX9_alone 50 (.iload 4) 2 52 := ⟨by decide +kernel, rfl⟩
theorem dX9_alone_52 : xj cX9_alone 52 .goto 55 56 := ⟨4, by decide +kernel, rfl, by decide⟩
theorem dX9_alone_55 : xd cX9_alone 55 (.iload_n 3) 1 56 := ⟨by decide +kernel, rfl⟩
theorem dX9_alone_56 : xd cX9_alone 56 (.istore_n 3) 1 57 := ⟨by decide +kernel, rfl⟩
theorem dX9_alone_57 : xd cX9_alone 57 (.iload_n 2) 1 58 := ⟨by decide +kernel, rfl⟩
theorem dX9_alone_58 : xd cX9_alone 58 (.aload_n 0) 1 59 := ⟨by decide +kernel, rfl⟩
theorem dX9_alone_59 : xd cX9_alone 59 (.getfield 57) 3 62 := ⟨by decide +kernel, rfl⟩
theorem dX9_alone_62 : xd cX9_alone 62 (.iload 4) 2 64 := ⟨by decide +kernel, rfl⟩
theorem dX9_alone_64 : xd cX9_alone 64 .iaload 1 65 := ⟨by decide +kernel, rfl⟩
theorem dX9_alone_65 : xj cX9_alone 65 (.ifCond .ne) 68 72 := ⟨7, by decide +kernel, rfl, by decide⟩
theorem dX9_alone_68 : xd cX9_alone 68 (.iconst 1) 1 69 := ⟨by decide +kernel, rfl⟩
theorem dX9_alone_69 : xj cX9_alone 69 .goto 72 73 := ⟨4, by decide +kernel, rfl, by decide⟩
theorem dX9_alone_72 : xd cX9_alone 72 (.iconst 0) 1 73 := ⟨by decide +kernel, rfl⟩
theorem dX9_alone_73 : xd cX9_alone 73 .iadd 1 74 := ⟨by decide +kernel, rfl⟩
theorem dX9_alone_74 : xd cX9_alone 74 (.istore_n 2) 1 75 := ⟨by decide +kernel, rfl⟩
theorem dX9_alone_75 : xd cX9_alone 75 (.iinc 4 1) 3 78 := ⟨by decide +kernel, rfl⟩
theorem dX9_alone_78 : xj cX9_alone 78 .goto 81 28 := ⟨(-50), by decide +kernel, rfl, by decide⟩
theorem dX9_alone_81 : xd cX9_alone 81 (.iload_n 1) 1 82 := ⟨by decide +kernel, rfl⟩
theorem dX9_alone_82 : xj cX9_alone 82 (.ifCond .ne) 85 89 := ⟨7, by decide +kernel, rfl, by decide⟩
theorem dX9_alone_85 : xd cX9_alone 85 (.iload_n 2) 1 86 := ⟨by decide +kernel, rfl⟩
theorem dX9_alone_86 : xj cX9_alone 86 .goto 89 103 := ⟨17, by decide +kernel, rfl, by decide⟩
theorem dX9_alone_89 : xd cX9_alone 89 (.iload_n 3) 1 90 := ⟨by decide +kernel, rfl⟩
theorem dX9_alone_90 : xj cX9_alone 90 (.ifCond .ge) 93 102 := ⟨12, by decide +kernel, rfl, by decide⟩
theorem dX9_alone_93 : xd cX9_alone 93 (.aload_n 0) 1 94 := ⟨by decide +kernel, rfl⟩
theorem dX9_alone_94 : xd cX9_alone 94 (.ldc 239) 2 96 := ⟨by decide +kernel, rfl⟩
theorem dX9_alone_96 : xd cX9_alone 96 (.invokevirtual 88) 3 99 := ⟨by decide +kernel, rfl⟩
theorem dX9_alone_99 : xj cX9_alone 99 .goto 102 103 := ⟨4, by decide +kernel, rfl, by decide⟩
theorem dX9_alone_102 : xd cX9_alone 102 (.iload_n 3) 1 103 := ⟨by decide +kernel, rfl⟩
theorem dX9_alone_103 : xd cX9_alone 103 .ireturn 1 104 := ⟨by decide +kernel, rfl⟩

set_option maxRecDepth 100000 in
set_option maxHeartbeats 4000000 in
theorem ct_nalone_b (l : Launch) (g : XG) (aN aNs aNk aNf aNr aNp aNb aNa aNt aNbo aNsz aNnu aNl aNal aNlo aNw aNtr aNis aNbg aNow nts nta nop npr nac : Nat) (nkp nbd ntp nnw nsn nwn : Int32) (fi : Nat → Nat) (wh : Int32) (hb : wI wh 0 1 = 0) : Ct l g 34 0 0 yX9_alone cX9_alone 5 (some .int) [.ref aN, .int wh] [(aN, .inr (9, [.ref aNs, .ref aNk, .int nkp, .ref aNf, .ref aNr, .ref aNp, .ref aNb, .ref aNa, .ref aNt, .int (nI nts), .ref aNbo, .ref aNsz, .ref aNnu, .int (nI nta), .int (nI nop), .int nbd, .int ntp, .int (nI npr), .int nnw, .int nsn, .int nwn, .ref aNl, .ref aNal, .ref aNlo, .int (nI nac), .ref aNw, .ref aNtr, .ref aNis, .ref aNbg, .ref aNow])), (aNf, .inl (g.2.1 0, 8, .inl (nIf (fnF fi))))] (xpi (fndI 0) [(aN, .inr (9, [.ref aNs, .ref aNk, .int nkp, .ref aNf, .ref aNr, .ref aNp, .ref aNb, .ref aNa, .ref aNt, .int (nI nts), .ref aNbo, .ref aNsz, .ref aNnu, .int (nI nta), .int (nI nop), .int nbd, .int ntp, .int (nI npr), .int nnw, .int nsn, .int nwn, .ref aNl, .ref aNal, .ref aNlo, .int (nI nac), .ref aNw, .ref aNtr, .ref aNis, .ref aNbg, .ref aNow])), (aNf, .inl (g.2.1 0, 8, .inl (nIf (fnF (updN fi 0 (fi 0 + 1))))))]) := by
  refine Ct.ofX (lv := [some (.ref aN), some (.int wh), none, none, none]) (by decide) rfl (Nat.le_of_ble_eq_true rfl) (fun κ => ?_)
  generalize hQ : xQ κ g 0 0 _ = Q
  refine x_iload_n dX9_alone_0 rfl ?_
  refine x_i2l dX9_alone_1 ?_
  refine x_lconst 0 dX9_alone_2 (by decide) ?_
  refine x_lconst 1 dX9_alone_3 (by decide) ?_
  refine x_cSi dX9_alone_4 ml_X9_98 mX9_isIn (ct_X9_isIn κ.2.1 g wh.toInt64 0 1) rfl (Nat.le_of_ble_eq_true rfl) (by decide) (Nat.le_refl _) (Nat.le_refl _) ?_
  refine x_rei (wI wh 0 1) (inL_w wh 0 1 (by first | rfl | decide) (by first | rfl | decide)) ?_
  refine x_if_ne dX9_alone_7 (fun c7 => ?_) (fun c7 => ?_)
  · have c7 : ¬ ((wI wh 0 1) = 0) := c7
    exact absurd hb c7
  · have c7 : (wI wh 0 1) = 0 := c7
    refine x_aload_n dX9_alone_10 rfl ?_
    refine x_ldc dX9_alone_11 k_X9_87 ?_
    refine x_cVi (ws' := [(aN, .inr (9, [.ref aNs, .ref aNk, .int nkp, .ref aNf, .ref aNr, .ref aNp, .ref aNb, .ref aNa, .ref aNt, .int (nI nts), .ref aNbo, .ref aNsz, .ref aNnu, .int (nI nta), .int (nI nop), .int nbd, .int ntp, .int (nI npr), .int nnw, .int nsn, .int nwn, .ref aNl, .ref aNal, .ref aNlo, .int (nI nac), .ref aNw, .ref aNtr, .ref aNis, .ref aNbg, .ref aNow])), (aNf, .inl (g.2.1 0, 8, .inl (nIf (fnF (updN fi 0 (fi 0 + 1))))))]) dX9_alone_13 ml_X9_88 mX9_finds (ct_finds_0 κ.2.1 g aN aNs aNk aNf aNr aNp aNb aNa aNt aNbo aNsz aNnu aNl aNal aNlo aNw aNtr aNis aNbg aNow nts nta nop npr nac nkp nbd ntp nnw nsn nwn fi) [0, 1] rfl rfl 0 rfl rfl rfl (Nat.le_of_ble_eq_true rfl) (by decide) (Nat.le_refl _) (Nat.le_refl _) (rfl : [aN, aNf] = [aN, aNf]) rfl ?_
    rw [← hQ]
    refine x_iret dX9_alone_16 rfl (Nat.le_of_ble_eq_true rfl) (Nat.le_of_ble_eq_true rfl) ?_
    exact ⟨rfl, rfl⟩

-- == nalone_0 ==
set_option maxRecDepth 100000 in
set_option maxHeartbeats 4000000 in
theorem ct_nalone_0 (l : Launch) (g : XG) (aN aNs aNk aNf aNr aNp aNb aNa aNt aNbo aNsz aNnu aNl aNal aNlo aNw aNtr aNis aNbg aNow nts nta nop npr nac : Nat) (nkp nbd nnw nsn nwn : Int32) (gr wk lk sz br : Nat) (z : Int32) (ru ki ma bb hd : Nat → Nat) (ce : Nat → Int32) (tb nli nal nlo sd : Nat → Nat) (L : Nat) (fi : Nat → Nat) (p : Nat) (hgr : gr ≤ 12) (hki : ∀ j, ki j ≤ 7) (hma : ∀ j, ma j ≤ 99999) (hwk : wk ≤ 40) (hlat : latI ce wk = nI L) (hL : L < 4096) (hsz : sz ≤ 60) (hbb : ∀ j, bb j < 256) (hsd : ∀ p, sd p ≤ 99) (hsv : ∀ p, p < 495 → sd p = if lk = 1 then clN (txV bb sz wk L p) else 1) (hlk : lk ≤ 1) (hwo : (nnw = 1 ∧ (nsn = 1 ∨ (nsn = 0 ∧ nli = sd))) ∨ (nnw = 0 ∧ nsn = 0 ∧ nli = sd ∧ nal = crH gr ki ma hd L sd ∧ nac = toH gr ki ma hd L sd ∧ ∀ q, q < gr → nlo q = laN (ki q) (ma q) L sd)) : Ct l g 34 0 0 yX9_alone cX9_alone 5 (some .int) [.ref aN, .int 0] [(aN, .inr (9, [.ref aNs, .ref aNk, .int nkp, .ref aNf, .ref aNr, .ref aNp, .ref aNb, .ref aNa, .ref aNt, .int (nI nts), .ref aNbo, .ref aNsz, .ref aNnu, .int (nI nta), .int (nI nop), .int nbd, .int 0, .int (nI npr), .int nnw, .int nsn, .int nwn, .ref aNl, .ref aNal, .ref aNlo, .int (nI nac), .ref aNw, .ref aNtr, .ref aNis, .ref aNbg, .ref aNow])), (aNf, .inl (g.2.1 0, 8, .inl (nIf (fnF fi)))), (aNs, .inl (g.2.1 0, 919, .inl (msF gr wk z lk sz br ru ki ma bb ce hd))), (aNt, .inl (g.2.1 0, 60, .inl (nIf tb))), (aNa, .inl (g.2.1 0, 2475, .inl (nIf fcN))), (aNr, .inl (g.2.1 0, 495, .inl (nIf rowB))), (aNb, .inl (g.2.1 0, 4096, .inl (nIf popN))), (aNl, .inl (g.2.1 0, 495, .inl (nIf nli))), (aNal, .inl (g.2.1 0, 495, .inl (nIf nal))), (aNlo, .inl (g.2.1 0, 12, .inl (nIf nlo)))] (fun vv_ ww_ => ∃ (zat : Nat) (zop : Nat) (zbd : Int32) (zpr : Nat) (lo2 : Nat → Nat), vv_ = some (.int (nI (ahC (crH gr ki ma hd L sd) 495))) ∧ ww_ = [(aN, .inr (9, [.ref aNs, .ref aNk, .int nkp, .ref aNf, .ref aNr, .ref aNp, .ref aNb, .ref aNa, .ref aNt, .int (nI nts), .ref aNbo, .ref aNsz, .ref aNnu, .int (nI zat), .int (nI zop), .int zbd, .int 0, .int (nI zpr), .int 0, .int 0, .int (wnI nnw nwn), .ref aNl, .ref aNal, .ref aNlo, .int (nI (toH gr ki ma hd L sd)), .ref aNw, .ref aNtr, .ref aNis, .ref aNbg, .ref aNow])), (aNf, .inl (g.2.1 0, 8, .inl (nIf (fnF fi)))), (aNs, .inl (g.2.1 0, 919, .inl (msF gr wk z lk sz br ru ki ma bb ce hd))), (aNt, .inl (g.2.1 0, 60, .inl (nIf tb))), (aNa, .inl (g.2.1 0, 2475, .inl (nIf fcN))), (aNr, .inl (g.2.1 0, 495, .inl (nIf rowB))), (aNb, .inl (g.2.1 0, 4096, .inl (nIf popN))), (aNl, .inl (g.2.1 0, 495, .inl (nIf sd))), (aNal, .inl (g.2.1 0, 495, .inl (nIf (crH gr ki ma hd L sd)))), (aNlo, .inl (g.2.1 0, 12, .inl (nIf lo2)))] ∧ (∀ q, q < gr → lo2 q = laN (ki q) (ma q) L sd)) := by
  refine Ct.ofX (lv := [some (.ref aN), some (.int 0), none, none, none]) (by decide) rfl (Nat.le_of_ble_eq_true rfl) (fun κ => ?_)
  generalize hQ : xQ κ g 0 0 _ = Q
  refine x_iload_n dX9_alone_0 rfl ?_
  refine x_i2l dX9_alone_1 ?_
  refine x_lconst 0 dX9_alone_2 (by decide) ?_
  refine x_lconst 1 dX9_alone_3 (by decide) ?_
  refine x_cSi dX9_alone_4 ml_X9_98 mX9_isIn (ct_X9_isIn κ.2.1 g ((0 : Int32).toInt64) 0 1) rfl (Nat.le_of_ble_eq_true rfl) (by decide) (Nat.le_refl _) (Nat.le_refl _) ?_
  refine x_rei (1) (by decide) ?_
  refine x_if_ne dX9_alone_7 (fun c7 => ?_) (fun c7 => ?_)
  rotate_left
  · exact absurd c7 (by decide)
  refine x_aload_n dX9_alone_17 rfl ?_
  refine x_callV dX9_alone_18 ml_X9_198 mX9_works (ct_X9_works κ.2.1 g aN aNs aNk aNf aNr aNp aNb aNa aNt aNbo aNsz aNnu aNl aNal aNlo aNw aNtr aNis aNbg aNow nts nta nop npr nac nkp nbd nnw nsn nwn gr wk lk sz br z ru ki ma bb hd ce tb nli nal nlo sd L (hgr) (hki) (hma) (hwk) (hlat) (hL) (hsz) (hbb) (hsd) (hsv) (hlk) (hwo)) [0, 2, 3, 4, 5, 6, 7, 8, 9] rfl rfl 0 rfl rfl rfl (Nat.le_of_ble_eq_true rfl) (by decide) (Nat.le_refl _) (Nat.le_refl _) (fun vv ww hp => ?_)
  obtain ⟨z1, z2, z3, z4, z5, rfl, rfl, p6⟩ := hp
  refine ⟨(rfl : [aN, aNs, aNt, aNa, aNr, aNb, aNl, aNal, aNlo] = [aN, aNs, aNt, aNa, aNr, aNb, aNl, aNal, aNlo]), x_eq (lv' := [some (.ref aN), some (.int 0), none, none, none]) (st' := []) (ws' := [(aN, .inr (9, [.ref aNs, .ref aNk, .int nkp, .ref aNf, .ref aNr, .ref aNp, .ref aNb, .ref aNa, .ref aNt, .int (nI nts), .ref aNbo, .ref aNsz, .ref aNnu, .int (nI z1), .int (nI z2), .int z3, .int 0, .int (nI z4), .int 0, .int 0, .int (wnI nnw nwn), .ref aNl, .ref aNal, .ref aNlo, .int (nI (toH gr ki ma hd L sd)), .ref aNw, .ref aNtr, .ref aNis, .ref aNbg, .ref aNow])), (aNf, .inl (g.2.1 0, 8, .inl (nIf (fnF fi)))), (aNs, .inl (g.2.1 0, 919, .inl (msF gr wk z lk sz br ru ki ma bb ce hd))), (aNt, .inl (g.2.1 0, 60, .inl (nIf tb))), (aNa, .inl (g.2.1 0, 2475, .inl (nIf fcN))), (aNr, .inl (g.2.1 0, 495, .inl (nIf rowB))), (aNb, .inl (g.2.1 0, 4096, .inl (nIf popN))), (aNl, .inl (g.2.1 0, 495, .inl (nIf sd))), (aNal, .inl (g.2.1 0, 495, .inl (nIf (crH gr ki ma hd L sd)))), (aNlo, .inl (g.2.1 0, 12, .inl (nIf z5)))]) ?_ rfl rfl rfl⟩
  refine x_iconst 0 dX9_alone_21 (by decide) ?_
  refine x_istore_n (lv' := [some (.ref aN), some (.int 0), some (.int 0), none, none]) dX9_alone_22 (xlt rfl) rfl ?_
  refine x_iconst (-1) dX9_alone_23 (by decide) ?_
  refine x_istore_n (lv' := [some (.ref aN), some (.int 0), some (.int 0), some (.int ((-1))), none]) dX9_alone_24 (xlt rfl) rfl ?_
  refine x_iconst 0 dX9_alone_25 (by decide) ?_
  refine x_istore (lv' := [some (.ref aN), some (.int 0), some (.int 0), some (.int ((-1))), some (.int 0)]) dX9_alone_26 (xlt rfl) rfl ?_
  have L28_7 : ∀ (i : Nat), i ≤ 495 → ∀ (nq : Nat), nq = ahC (crH gr ki ma hd L sd) i → ∀ (fq : Int32), fq = ahB (crH gr ki ma hd L sd) i → Xs κ g 34 0 0 cX9_alone yX9_alone (some .int) Q 0 0 28 [some (.ref aN), some (.int 0), some (.int (nI nq)), some (.int fq), some (.int (nI i))] [] [(aN, .inr (9, [.ref aNs, .ref aNk, .int nkp, .ref aNf, .ref aNr, .ref aNp, .ref aNb, .ref aNa, .ref aNt, .int (nI nts), .ref aNbo, .ref aNsz, .ref aNnu, .int (nI z1), .int (nI z2), .int z3, .int 0, .int (nI z4), .int 0, .int 0, .int (wnI nnw nwn), .ref aNl, .ref aNal, .ref aNlo, .int (nI (toH gr ki ma hd L sd)), .ref aNw, .ref aNtr, .ref aNis, .ref aNbg, .ref aNow])), (aNf, .inl (g.2.1 0, 8, .inl (nIf (fnF fi)))), (aNs, .inl (g.2.1 0, 919, .inl (msF gr wk z lk sz br ru ki ma bb ce hd))), (aNt, .inl (g.2.1 0, 60, .inl (nIf tb))), (aNa, .inl (g.2.1 0, 2475, .inl (nIf fcN))), (aNr, .inl (g.2.1 0, 495, .inl (nIf rowB))), (aNb, .inl (g.2.1 0, 4096, .inl (nIf popN))), (aNl, .inl (g.2.1 0, 495, .inl (nIf sd))), (aNal, .inl (g.2.1 0, 495, .inl (nIf (crH gr ki ma hd L sd)))), (aNlo, .inl (g.2.1 0, 12, .inl (nIf z5)))] := by
    refine upTo 495 (fun i hi28 ih28 => ?_)
    intro nq enq
    subst enq
    intro fq efq
    subst efq
    refine x_iload dX9_alone_28 rfl ?_
    refine x_sipush 495 dX9_alone_30 (by decide) ?_
    refine x_icmp_ge dX9_alone_33 (fun c33 => ?_) (fun c33 => ?_)
    · have c33 : 495 ≤ (nI i) := c33
      have c33n := (nI_leI (a := 495) (b := i) (by omega) (by omega)).mp c33
      have hxc33 : i = 495 := by omega
      try rw [hxc33]
      refine x_iload_n dX9_alone_81 rfl ?_
      refine x_if_ne dX9_alone_82 (fun c82 => ?_) (fun c82 => ?_)
      · exact absurd c82 (by decide)
      refine x_iload_n dX9_alone_85 rfl ?_
      refine x_goto dX9_alone_86 ?_
      rw [← hQ]
      refine x_iret dX9_alone_103 rfl (Nat.le_of_ble_eq_true rfl) (Nat.le_of_ble_eq_true rfl) ?_
      exact ⟨_, _, _, _, _, rfl, rfl, p6⟩
    · have c33 : ¬ (495 ≤ (nI i)) := c33
      have c33n := mt (nI_leI (a := 495) (b := i) (by omega) (by omega)).mpr c33
      refine x_aload_n dX9_alone_36 rfl ?_
      refine x_get dX9_alone_37 0 22 inX9 fl_X9_57 rfl rfl (by decide) rfl ?_
      refine x_iload dX9_alone_40 rfl ?_
      refine x_iald dX9_alone_42 8 i rfl (rfl) (by omega) (by decide) ?_
      have J43_11 : ∀ (v10 : Int32), v10 = (if (nI ((crH gr ki ma hd L sd) i)) = 0 then ((if 0 ≤ (ahB (crH gr ki ma hd L sd) i) then ahB (crH gr ki ma hd L sd) i else nI i)) else ahB (crH gr ki ma hd L sd) i) → Xs κ g 34 0 0 cX9_alone yX9_alone (some .int) Q 0 0 56 [some (.ref aN), some (.int 0), some (.int (nI ((ahC (crH gr ki ma hd L sd) i)))), some (.int (ahB (crH gr ki ma hd L sd) i)), some (.int (nI i))] [.int v10] [(aN, .inr (9, [.ref aNs, .ref aNk, .int nkp, .ref aNf, .ref aNr, .ref aNp, .ref aNb, .ref aNa, .ref aNt, .int (nI nts), .ref aNbo, .ref aNsz, .ref aNnu, .int (nI z1), .int (nI z2), .int z3, .int 0, .int (nI z4), .int 0, .int 0, .int (wnI nnw nwn), .ref aNl, .ref aNal, .ref aNlo, .int (nI (toH gr ki ma hd L sd)), .ref aNw, .ref aNtr, .ref aNis, .ref aNbg, .ref aNow])), (aNf, .inl (g.2.1 0, 8, .inl (nIf (fnF fi)))), (aNs, .inl (g.2.1 0, 919, .inl (msF gr wk z lk sz br ru ki ma bb ce hd))), (aNt, .inl (g.2.1 0, 60, .inl (nIf tb))), (aNa, .inl (g.2.1 0, 2475, .inl (nIf fcN))), (aNr, .inl (g.2.1 0, 495, .inl (nIf rowB))), (aNb, .inl (g.2.1 0, 4096, .inl (nIf popN))), (aNl, .inl (g.2.1 0, 495, .inl (nIf sd))), (aNal, .inl (g.2.1 0, 495, .inl (nIf (crH gr ki ma hd L sd)))), (aNlo, .inl (g.2.1 0, 12, .inl (nIf z5)))] := by
        intro v10 ev10
        refine x_istore_n (lv' := [some (.ref aN), some (.int 0), some (.int (nI ((ahC (crH gr ki ma hd L sd) i)))), some (.int v10), some (.int (nI i))]) dX9_alone_56 (xlt rfl) rfl ?_
        refine x_iload_n dX9_alone_57 rfl ?_
        refine x_aload_n dX9_alone_58 rfl ?_
        refine x_get dX9_alone_59 0 22 inX9 fl_X9_57 rfl rfl (by decide) rfl ?_
        refine x_iload dX9_alone_62 rfl ?_
        refine x_iald dX9_alone_64 8 i rfl (rfl) (by omega) (by decide) ?_
        have J65_13 : ∀ (v12 : Int32), v12 = (if (nI ((crH gr ki ma hd L sd) i)) = 0 then 1 else 0) → Xs κ g 34 0 0 cX9_alone yX9_alone (some .int) Q 0 0 73 [some (.ref aN), some (.int 0), some (.int (nI ((ahC (crH gr ki ma hd L sd) i)))), some (.int v10), some (.int (nI i))] [.int v12, .int (nI ((ahC (crH gr ki ma hd L sd) i)))] [(aN, .inr (9, [.ref aNs, .ref aNk, .int nkp, .ref aNf, .ref aNr, .ref aNp, .ref aNb, .ref aNa, .ref aNt, .int (nI nts), .ref aNbo, .ref aNsz, .ref aNnu, .int (nI z1), .int (nI z2), .int z3, .int 0, .int (nI z4), .int 0, .int 0, .int (wnI nnw nwn), .ref aNl, .ref aNal, .ref aNlo, .int (nI (toH gr ki ma hd L sd)), .ref aNw, .ref aNtr, .ref aNis, .ref aNbg, .ref aNow])), (aNf, .inl (g.2.1 0, 8, .inl (nIf (fnF fi)))), (aNs, .inl (g.2.1 0, 919, .inl (msF gr wk z lk sz br ru ki ma bb ce hd))), (aNt, .inl (g.2.1 0, 60, .inl (nIf tb))), (aNa, .inl (g.2.1 0, 2475, .inl (nIf fcN))), (aNr, .inl (g.2.1 0, 495, .inl (nIf rowB))), (aNb, .inl (g.2.1 0, 4096, .inl (nIf popN))), (aNl, .inl (g.2.1 0, 495, .inl (nIf sd))), (aNal, .inl (g.2.1 0, 495, .inl (nIf (crH gr ki ma hd L sd)))), (aNlo, .inl (g.2.1 0, 12, .inl (nIf z5)))] := by
          intro v12 ev12
          refine x_rei (nI (if nI ((crH gr ki ma hd L sd) i) = 0 then 1 else 0)) (by simp only [ev12]; split <;> rfl) ?_
          refine x_iadd dX9_alone_73 ?_
          refine x_rei (nI ((ahC (crH gr ki ma hd L sd) i) + (if nI ((crH gr ki ma hd L sd) i) = 0 then 1 else 0))) (nI_iadd (ahC (crH gr ki ma hd L sd) i) (if nI ((crH gr ki ma hd L sd) i) = 0 then 1 else 0)) ?_
          refine x_istore_n (lv' := [some (.ref aN), some (.int 0), some (.int (nI ((ahC (crH gr ki ma hd L sd) i) + (if nI ((crH gr ki ma hd L sd) i) = 0 then 1 else 0)))), some (.int v10), some (.int (nI i))]) dX9_alone_74 (xlt rfl) rfl ?_
          refine x_iinc (lv' := [some (.ref aN), some (.int 0), some (.int (nI ((ahC (crH gr ki ma hd L sd) i) + (if nI ((crH gr ki ma hd L sd) i) = 0 then 1 else 0)))), some (.int v10), some (.int (nI (i + 1)))]) (nI (i + 1)) dX9_alone_75 rfl (nI_addc i 1 rfl) rfl ?_
          refine x_goto dX9_alone_78 ?_
          exact ih28 (by omega) ((ahC (crH gr ki ma hd L sd) i) + (if nI ((crH gr ki ma hd L sd) i) = 0 then 1 else 0)) (by rfl) _ (by simp only [ev10]; rfl)
        refine x_if_ne dX9_alone_65 (fun c65 => ?_) (fun c65 => ?_)
        · have c65 : ¬ ((nI ((crH gr ki ma hd L sd) i)) = 0) := c65
          refine x_iconst 0 dX9_alone_72 (by decide) ?_
          exact J65_13 _ (if_neg c65).symm
        · have c65 : (nI ((crH gr ki ma hd L sd) i)) = 0 := c65
          refine x_iconst 1 dX9_alone_68 (by decide) ?_
          refine x_goto dX9_alone_69 ?_
          exact J65_13 _ (if_pos c65).symm
      refine x_if_ne dX9_alone_43 (fun c43 => ?_) (fun c43 => ?_)
      · have c43 : ¬ ((nI ((crH gr ki ma hd L sd) i)) = 0) := c43
        refine x_iload_n dX9_alone_55 rfl ?_
        exact J43_11 _ (if_neg c43).symm
      · have c43 : (nI ((crH gr ki ma hd L sd) i)) = 0 := c43
        refine x_iload_n dX9_alone_46 rfl ?_
        have J47_15 : ∀ (v14 : Int32), v14 = (if 0 ≤ (ahB (crH gr ki ma hd L sd) i) then ahB (crH gr ki ma hd L sd) i else nI i) → Xs κ g 34 0 0 cX9_alone yX9_alone (some .int) Q 0 0 56 [some (.ref aN), some (.int 0), some (.int (nI ((ahC (crH gr ki ma hd L sd) i)))), some (.int (ahB (crH gr ki ma hd L sd) i)), some (.int (nI i))] [.int v14] [(aN, .inr (9, [.ref aNs, .ref aNk, .int nkp, .ref aNf, .ref aNr, .ref aNp, .ref aNb, .ref aNa, .ref aNt, .int (nI nts), .ref aNbo, .ref aNsz, .ref aNnu, .int (nI z1), .int (nI z2), .int z3, .int 0, .int (nI z4), .int 0, .int 0, .int (wnI nnw nwn), .ref aNl, .ref aNal, .ref aNlo, .int (nI (toH gr ki ma hd L sd)), .ref aNw, .ref aNtr, .ref aNis, .ref aNbg, .ref aNow])), (aNf, .inl (g.2.1 0, 8, .inl (nIf (fnF fi)))), (aNs, .inl (g.2.1 0, 919, .inl (msF gr wk z lk sz br ru ki ma bb ce hd))), (aNt, .inl (g.2.1 0, 60, .inl (nIf tb))), (aNa, .inl (g.2.1 0, 2475, .inl (nIf fcN))), (aNr, .inl (g.2.1 0, 495, .inl (nIf rowB))), (aNb, .inl (g.2.1 0, 4096, .inl (nIf popN))), (aNl, .inl (g.2.1 0, 495, .inl (nIf sd))), (aNal, .inl (g.2.1 0, 495, .inl (nIf (crH gr ki ma hd L sd)))), (aNlo, .inl (g.2.1 0, 12, .inl (nIf z5)))] := by
          intro v14 ev14
          exact J43_11 _ (by rw [if_pos c43]; try simp only [ev14])
        refine x_if_ge dX9_alone_47 (fun c47 => ?_) (fun c47 => ?_)
        · have c47 : 0 ≤ (ahB (crH gr ki ma hd L sd) i) := c47
          refine x_iload_n dX9_alone_55 rfl ?_
          exact J47_15 _ (if_pos c47).symm
        · have c47 : ¬ (0 ≤ (ahB (crH gr ki ma hd L sd) i)) := c47
          refine x_iload dX9_alone_50 rfl ?_
          refine x_goto dX9_alone_52 ?_
          exact J47_15 _ (if_neg c47).symm
  exact L28_7 0 (Nat.zero_le _) 0 (by rfl) _ (by rfl)

-- == nalone_1 ==
set_option maxRecDepth 100000 in
set_option maxHeartbeats 4000000 in
theorem ct_nalone_1 (l : Launch) (g : XG) (aN aNs aNk aNf aNr aNp aNb aNa aNt aNbo aNsz aNnu aNl aNal aNlo aNw aNtr aNis aNbg aNow nts nta nop npr nac : Nat) (nkp nbd nnw nsn nwn : Int32) (gr wk lk sz br : Nat) (z : Int32) (ru ki ma bb hd : Nat → Nat) (ce : Nat → Int32) (tb nli nal nlo sd : Nat → Nat) (L : Nat) (fi : Nat → Nat) (p : Nat) (hgr : gr ≤ 12) (hki : ∀ j, ki j ≤ 7) (hma : ∀ j, ma j ≤ 99999) (hwk : wk ≤ 40) (hlat : latI ce wk = nI L) (hL : L < 4096) (hsz : sz ≤ 60) (hbb : ∀ j, bb j < 256) (hsd : ∀ p, sd p ≤ 99) (hsv : ∀ p, p < 495 → sd p = if lk = 1 then clN (txV bb sz wk L p) else 1) (hlk : lk ≤ 1) (hwo : (nnw = 1 ∧ (nsn = 1 ∨ (nsn = 0 ∧ nli = sd))) ∨ (nnw = 0 ∧ nsn = 0 ∧ nli = sd ∧ nal = crH gr ki ma hd L sd ∧ nac = toH gr ki ma hd L sd ∧ ∀ q, q < gr → nlo q = laN (ki q) (ma q) L sd)) (hp1 : p < 495) (hal : ahB (crH gr ki ma hd L sd) 495 = nI p) : Ct l g 34 0 0 yX9_alone cX9_alone 5 (some .int) [.ref aN, .int 1] [(aN, .inr (9, [.ref aNs, .ref aNk, .int nkp, .ref aNf, .ref aNr, .ref aNp, .ref aNb, .ref aNa, .ref aNt, .int (nI nts), .ref aNbo, .ref aNsz, .ref aNnu, .int (nI nta), .int (nI nop), .int nbd, .int 0, .int (nI npr), .int nnw, .int nsn, .int nwn, .ref aNl, .ref aNal, .ref aNlo, .int (nI nac), .ref aNw, .ref aNtr, .ref aNis, .ref aNbg, .ref aNow])), (aNf, .inl (g.2.1 0, 8, .inl (nIf (fnF fi)))), (aNs, .inl (g.2.1 0, 919, .inl (msF gr wk z lk sz br ru ki ma bb ce hd))), (aNt, .inl (g.2.1 0, 60, .inl (nIf tb))), (aNa, .inl (g.2.1 0, 2475, .inl (nIf fcN))), (aNr, .inl (g.2.1 0, 495, .inl (nIf rowB))), (aNb, .inl (g.2.1 0, 4096, .inl (nIf popN))), (aNl, .inl (g.2.1 0, 495, .inl (nIf nli))), (aNal, .inl (g.2.1 0, 495, .inl (nIf nal))), (aNlo, .inl (g.2.1 0, 12, .inl (nIf nlo)))] (fun vv_ ww_ => ∃ (zat : Nat) (zop : Nat) (zbd : Int32) (zpr : Nat) (lo2 : Nat → Nat), vv_ = some (.int (nI p)) ∧ ww_ = [(aN, .inr (9, [.ref aNs, .ref aNk, .int nkp, .ref aNf, .ref aNr, .ref aNp, .ref aNb, .ref aNa, .ref aNt, .int (nI nts), .ref aNbo, .ref aNsz, .ref aNnu, .int (nI zat), .int (nI zop), .int zbd, .int 0, .int (nI zpr), .int 0, .int 0, .int (wnI nnw nwn), .ref aNl, .ref aNal, .ref aNlo, .int (nI (toH gr ki ma hd L sd)), .ref aNw, .ref aNtr, .ref aNis, .ref aNbg, .ref aNow])), (aNf, .inl (g.2.1 0, 8, .inl (nIf (fnF fi)))), (aNs, .inl (g.2.1 0, 919, .inl (msF gr wk z lk sz br ru ki ma bb ce hd))), (aNt, .inl (g.2.1 0, 60, .inl (nIf tb))), (aNa, .inl (g.2.1 0, 2475, .inl (nIf fcN))), (aNr, .inl (g.2.1 0, 495, .inl (nIf rowB))), (aNb, .inl (g.2.1 0, 4096, .inl (nIf popN))), (aNl, .inl (g.2.1 0, 495, .inl (nIf sd))), (aNal, .inl (g.2.1 0, 495, .inl (nIf (crH gr ki ma hd L sd)))), (aNlo, .inl (g.2.1 0, 12, .inl (nIf lo2)))] ∧ (∀ q, q < gr → lo2 q = laN (ki q) (ma q) L sd)) := by
  refine Ct.ofX (lv := [some (.ref aN), some (.int 1), none, none, none]) (by decide) rfl (Nat.le_of_ble_eq_true rfl) (fun κ => ?_)
  generalize hQ : xQ κ g 0 0 _ = Q
  refine x_iload_n dX9_alone_0 rfl ?_
  refine x_i2l dX9_alone_1 ?_
  refine x_lconst 0 dX9_alone_2 (by decide) ?_
  refine x_lconst 1 dX9_alone_3 (by decide) ?_
  refine x_cSi dX9_alone_4 ml_X9_98 mX9_isIn (ct_X9_isIn κ.2.1 g ((1 : Int32).toInt64) 0 1) rfl (Nat.le_of_ble_eq_true rfl) (by decide) (Nat.le_refl _) (Nat.le_refl _) ?_
  refine x_rei (1) (by decide) ?_
  refine x_if_ne dX9_alone_7 (fun c7 => ?_) (fun c7 => ?_)
  rotate_left
  · exact absurd c7 (by decide)
  refine x_aload_n dX9_alone_17 rfl ?_
  refine x_callV dX9_alone_18 ml_X9_198 mX9_works (ct_X9_works κ.2.1 g aN aNs aNk aNf aNr aNp aNb aNa aNt aNbo aNsz aNnu aNl aNal aNlo aNw aNtr aNis aNbg aNow nts nta nop npr nac nkp nbd nnw nsn nwn gr wk lk sz br z ru ki ma bb hd ce tb nli nal nlo sd L (hgr) (hki) (hma) (hwk) (hlat) (hL) (hsz) (hbb) (hsd) (hsv) (hlk) (hwo)) [0, 2, 3, 4, 5, 6, 7, 8, 9] rfl rfl 0 rfl rfl rfl (Nat.le_of_ble_eq_true rfl) (by decide) (Nat.le_refl _) (Nat.le_refl _) (fun vv ww hp => ?_)
  obtain ⟨z1, z2, z3, z4, z5, rfl, rfl, p6⟩ := hp
  refine ⟨(rfl : [aN, aNs, aNt, aNa, aNr, aNb, aNl, aNal, aNlo] = [aN, aNs, aNt, aNa, aNr, aNb, aNl, aNal, aNlo]), x_eq (lv' := [some (.ref aN), some (.int 1), none, none, none]) (st' := []) (ws' := [(aN, .inr (9, [.ref aNs, .ref aNk, .int nkp, .ref aNf, .ref aNr, .ref aNp, .ref aNb, .ref aNa, .ref aNt, .int (nI nts), .ref aNbo, .ref aNsz, .ref aNnu, .int (nI z1), .int (nI z2), .int z3, .int 0, .int (nI z4), .int 0, .int 0, .int (wnI nnw nwn), .ref aNl, .ref aNal, .ref aNlo, .int (nI (toH gr ki ma hd L sd)), .ref aNw, .ref aNtr, .ref aNis, .ref aNbg, .ref aNow])), (aNf, .inl (g.2.1 0, 8, .inl (nIf (fnF fi)))), (aNs, .inl (g.2.1 0, 919, .inl (msF gr wk z lk sz br ru ki ma bb ce hd))), (aNt, .inl (g.2.1 0, 60, .inl (nIf tb))), (aNa, .inl (g.2.1 0, 2475, .inl (nIf fcN))), (aNr, .inl (g.2.1 0, 495, .inl (nIf rowB))), (aNb, .inl (g.2.1 0, 4096, .inl (nIf popN))), (aNl, .inl (g.2.1 0, 495, .inl (nIf sd))), (aNal, .inl (g.2.1 0, 495, .inl (nIf (crH gr ki ma hd L sd)))), (aNlo, .inl (g.2.1 0, 12, .inl (nIf z5)))]) ?_ rfl rfl rfl⟩
  refine x_iconst 0 dX9_alone_21 (by decide) ?_
  refine x_istore_n (lv' := [some (.ref aN), some (.int 1), some (.int 0), none, none]) dX9_alone_22 (xlt rfl) rfl ?_
  refine x_iconst (-1) dX9_alone_23 (by decide) ?_
  refine x_istore_n (lv' := [some (.ref aN), some (.int 1), some (.int 0), some (.int ((-1))), none]) dX9_alone_24 (xlt rfl) rfl ?_
  refine x_iconst 0 dX9_alone_25 (by decide) ?_
  refine x_istore (lv' := [some (.ref aN), some (.int 1), some (.int 0), some (.int ((-1))), some (.int 0)]) dX9_alone_26 (xlt rfl) rfl ?_
  have L28_7 : ∀ (i : Nat), i ≤ 495 → ∀ (nq : Nat), nq = ahC (crH gr ki ma hd L sd) i → ∀ (fq : Int32), fq = ahB (crH gr ki ma hd L sd) i → Xs κ g 34 0 0 cX9_alone yX9_alone (some .int) Q 0 0 28 [some (.ref aN), some (.int 1), some (.int (nI nq)), some (.int fq), some (.int (nI i))] [] [(aN, .inr (9, [.ref aNs, .ref aNk, .int nkp, .ref aNf, .ref aNr, .ref aNp, .ref aNb, .ref aNa, .ref aNt, .int (nI nts), .ref aNbo, .ref aNsz, .ref aNnu, .int (nI z1), .int (nI z2), .int z3, .int 0, .int (nI z4), .int 0, .int 0, .int (wnI nnw nwn), .ref aNl, .ref aNal, .ref aNlo, .int (nI (toH gr ki ma hd L sd)), .ref aNw, .ref aNtr, .ref aNis, .ref aNbg, .ref aNow])), (aNf, .inl (g.2.1 0, 8, .inl (nIf (fnF fi)))), (aNs, .inl (g.2.1 0, 919, .inl (msF gr wk z lk sz br ru ki ma bb ce hd))), (aNt, .inl (g.2.1 0, 60, .inl (nIf tb))), (aNa, .inl (g.2.1 0, 2475, .inl (nIf fcN))), (aNr, .inl (g.2.1 0, 495, .inl (nIf rowB))), (aNb, .inl (g.2.1 0, 4096, .inl (nIf popN))), (aNl, .inl (g.2.1 0, 495, .inl (nIf sd))), (aNal, .inl (g.2.1 0, 495, .inl (nIf (crH gr ki ma hd L sd)))), (aNlo, .inl (g.2.1 0, 12, .inl (nIf z5)))] := by
    refine upTo 495 (fun i hi28 ih28 => ?_)
    intro nq enq
    subst enq
    intro fq efq
    subst efq
    refine x_iload dX9_alone_28 rfl ?_
    refine x_sipush 495 dX9_alone_30 (by decide) ?_
    refine x_icmp_ge dX9_alone_33 (fun c33 => ?_) (fun c33 => ?_)
    · have c33 : 495 ≤ (nI i) := c33
      have c33n := (nI_leI (a := 495) (b := i) (by omega) (by omega)).mp c33
      have hxc33 : i = 495 := by omega
      try rw [hxc33]
      refine x_iload_n dX9_alone_81 rfl ?_
      refine x_if_ne dX9_alone_82 (fun c82 => ?_) (fun c82 => ?_)
      rotate_left
      · exact absurd c82 (by decide)
      refine x_iload_n dX9_alone_89 rfl ?_
      refine x_rei (nI p) (hal) ?_
      refine x_if_ge dX9_alone_90 (fun c90 => ?_) (fun c90 => ?_)
      · have c90 : 0 ≤ (nI p) := c90
        have c90n := (nI_leI (a := 0) (b := p) (by omega) (by omega)).mp c90
        refine x_iload_n dX9_alone_102 rfl ?_
        refine x_rei (nI p) (hal) ?_
        rw [← hQ]
        refine x_iret dX9_alone_103 rfl (Nat.le_of_ble_eq_true rfl) (Nat.le_of_ble_eq_true rfl) ?_
        exact ⟨_, _, _, _, _, rfl, rfl, p6⟩
      · have c90 : ¬ (0 ≤ (nI p)) := c90
        have c90n := mt (nI_leI (a := 0) (b := p) (by omega) (by omega)).mpr c90
        exact absurd c90n (by omega)
    · have c33 : ¬ (495 ≤ (nI i)) := c33
      have c33n := mt (nI_leI (a := 495) (b := i) (by omega) (by omega)).mpr c33
      refine x_aload_n dX9_alone_36 rfl ?_
      refine x_get dX9_alone_37 0 22 inX9 fl_X9_57 rfl rfl (by decide) rfl ?_
      refine x_iload dX9_alone_40 rfl ?_
      refine x_iald dX9_alone_42 8 i rfl (rfl) (by omega) (by decide) ?_
      have J43_11 : ∀ (v10 : Int32), v10 = (if (nI ((crH gr ki ma hd L sd) i)) = 0 then ((if 0 ≤ (ahB (crH gr ki ma hd L sd) i) then ahB (crH gr ki ma hd L sd) i else nI i)) else ahB (crH gr ki ma hd L sd) i) → Xs κ g 34 0 0 cX9_alone yX9_alone (some .int) Q 0 0 56 [some (.ref aN), some (.int 1), some (.int (nI ((ahC (crH gr ki ma hd L sd) i)))), some (.int (ahB (crH gr ki ma hd L sd) i)), some (.int (nI i))] [.int v10] [(aN, .inr (9, [.ref aNs, .ref aNk, .int nkp, .ref aNf, .ref aNr, .ref aNp, .ref aNb, .ref aNa, .ref aNt, .int (nI nts), .ref aNbo, .ref aNsz, .ref aNnu, .int (nI z1), .int (nI z2), .int z3, .int 0, .int (nI z4), .int 0, .int 0, .int (wnI nnw nwn), .ref aNl, .ref aNal, .ref aNlo, .int (nI (toH gr ki ma hd L sd)), .ref aNw, .ref aNtr, .ref aNis, .ref aNbg, .ref aNow])), (aNf, .inl (g.2.1 0, 8, .inl (nIf (fnF fi)))), (aNs, .inl (g.2.1 0, 919, .inl (msF gr wk z lk sz br ru ki ma bb ce hd))), (aNt, .inl (g.2.1 0, 60, .inl (nIf tb))), (aNa, .inl (g.2.1 0, 2475, .inl (nIf fcN))), (aNr, .inl (g.2.1 0, 495, .inl (nIf rowB))), (aNb, .inl (g.2.1 0, 4096, .inl (nIf popN))), (aNl, .inl (g.2.1 0, 495, .inl (nIf sd))), (aNal, .inl (g.2.1 0, 495, .inl (nIf (crH gr ki ma hd L sd)))), (aNlo, .inl (g.2.1 0, 12, .inl (nIf z5)))] := by
        intro v10 ev10
        refine x_istore_n (lv' := [some (.ref aN), some (.int 1), some (.int (nI ((ahC (crH gr ki ma hd L sd) i)))), some (.int v10), some (.int (nI i))]) dX9_alone_56 (xlt rfl) rfl ?_
        refine x_iload_n dX9_alone_57 rfl ?_
        refine x_aload_n dX9_alone_58 rfl ?_
        refine x_get dX9_alone_59 0 22 inX9 fl_X9_57 rfl rfl (by decide) rfl ?_
        refine x_iload dX9_alone_62 rfl ?_
        refine x_iald dX9_alone_64 8 i rfl (rfl) (by omega) (by decide) ?_
        have J65_13 : ∀ (v12 : Int32), v12 = (if (nI ((crH gr ki ma hd L sd) i)) = 0 then 1 else 0) → Xs κ g 34 0 0 cX9_alone yX9_alone (some .int) Q 0 0 73 [some (.ref aN), some (.int 1), some (.int (nI ((ahC (crH gr ki ma hd L sd) i)))), some (.int v10), some (.int (nI i))] [.int v12, .int (nI ((ahC (crH gr ki ma hd L sd) i)))] [(aN, .inr (9, [.ref aNs, .ref aNk, .int nkp, .ref aNf, .ref aNr, .ref aNp, .ref aNb, .ref aNa, .ref aNt, .int (nI nts), .ref aNbo, .ref aNsz, .ref aNnu, .int (nI z1), .int (nI z2), .int z3, .int 0, .int (nI z4), .int 0, .int 0, .int (wnI nnw nwn), .ref aNl, .ref aNal, .ref aNlo, .int (nI (toH gr ki ma hd L sd)), .ref aNw, .ref aNtr, .ref aNis, .ref aNbg, .ref aNow])), (aNf, .inl (g.2.1 0, 8, .inl (nIf (fnF fi)))), (aNs, .inl (g.2.1 0, 919, .inl (msF gr wk z lk sz br ru ki ma bb ce hd))), (aNt, .inl (g.2.1 0, 60, .inl (nIf tb))), (aNa, .inl (g.2.1 0, 2475, .inl (nIf fcN))), (aNr, .inl (g.2.1 0, 495, .inl (nIf rowB))), (aNb, .inl (g.2.1 0, 4096, .inl (nIf popN))), (aNl, .inl (g.2.1 0, 495, .inl (nIf sd))), (aNal, .inl (g.2.1 0, 495, .inl (nIf (crH gr ki ma hd L sd)))), (aNlo, .inl (g.2.1 0, 12, .inl (nIf z5)))] := by
          intro v12 ev12
          refine x_rei (nI (if nI ((crH gr ki ma hd L sd) i) = 0 then 1 else 0)) (by simp only [ev12]; split <;> rfl) ?_
          refine x_iadd dX9_alone_73 ?_
          refine x_rei (nI ((ahC (crH gr ki ma hd L sd) i) + (if nI ((crH gr ki ma hd L sd) i) = 0 then 1 else 0))) (nI_iadd (ahC (crH gr ki ma hd L sd) i) (if nI ((crH gr ki ma hd L sd) i) = 0 then 1 else 0)) ?_
          refine x_istore_n (lv' := [some (.ref aN), some (.int 1), some (.int (nI ((ahC (crH gr ki ma hd L sd) i) + (if nI ((crH gr ki ma hd L sd) i) = 0 then 1 else 0)))), some (.int v10), some (.int (nI i))]) dX9_alone_74 (xlt rfl) rfl ?_
          refine x_iinc (lv' := [some (.ref aN), some (.int 1), some (.int (nI ((ahC (crH gr ki ma hd L sd) i) + (if nI ((crH gr ki ma hd L sd) i) = 0 then 1 else 0)))), some (.int v10), some (.int (nI (i + 1)))]) (nI (i + 1)) dX9_alone_75 rfl (nI_addc i 1 rfl) rfl ?_
          refine x_goto dX9_alone_78 ?_
          exact ih28 (by omega) ((ahC (crH gr ki ma hd L sd) i) + (if nI ((crH gr ki ma hd L sd) i) = 0 then 1 else 0)) (by rfl) _ (by simp only [ev10]; rfl)
        refine x_if_ne dX9_alone_65 (fun c65 => ?_) (fun c65 => ?_)
        · have c65 : ¬ ((nI ((crH gr ki ma hd L sd) i)) = 0) := c65
          refine x_iconst 0 dX9_alone_72 (by decide) ?_
          exact J65_13 _ (if_neg c65).symm
        · have c65 : (nI ((crH gr ki ma hd L sd) i)) = 0 := c65
          refine x_iconst 1 dX9_alone_68 (by decide) ?_
          refine x_goto dX9_alone_69 ?_
          exact J65_13 _ (if_pos c65).symm
      refine x_if_ne dX9_alone_43 (fun c43 => ?_) (fun c43 => ?_)
      · have c43 : ¬ ((nI ((crH gr ki ma hd L sd) i)) = 0) := c43
        refine x_iload_n dX9_alone_55 rfl ?_
        exact J43_11 _ (if_neg c43).symm
      · have c43 : (nI ((crH gr ki ma hd L sd) i)) = 0 := c43
        refine x_iload_n dX9_alone_46 rfl ?_
        have J47_15 : ∀ (v14 : Int32), v14 = (if 0 ≤ (ahB (crH gr ki ma hd L sd) i) then ahB (crH gr ki ma hd L sd) i else nI i) → Xs κ g 34 0 0 cX9_alone yX9_alone (some .int) Q 0 0 56 [some (.ref aN), some (.int 1), some (.int (nI ((ahC (crH gr ki ma hd L sd) i)))), some (.int (ahB (crH gr ki ma hd L sd) i)), some (.int (nI i))] [.int v14] [(aN, .inr (9, [.ref aNs, .ref aNk, .int nkp, .ref aNf, .ref aNr, .ref aNp, .ref aNb, .ref aNa, .ref aNt, .int (nI nts), .ref aNbo, .ref aNsz, .ref aNnu, .int (nI z1), .int (nI z2), .int z3, .int 0, .int (nI z4), .int 0, .int 0, .int (wnI nnw nwn), .ref aNl, .ref aNal, .ref aNlo, .int (nI (toH gr ki ma hd L sd)), .ref aNw, .ref aNtr, .ref aNis, .ref aNbg, .ref aNow])), (aNf, .inl (g.2.1 0, 8, .inl (nIf (fnF fi)))), (aNs, .inl (g.2.1 0, 919, .inl (msF gr wk z lk sz br ru ki ma bb ce hd))), (aNt, .inl (g.2.1 0, 60, .inl (nIf tb))), (aNa, .inl (g.2.1 0, 2475, .inl (nIf fcN))), (aNr, .inl (g.2.1 0, 495, .inl (nIf rowB))), (aNb, .inl (g.2.1 0, 4096, .inl (nIf popN))), (aNl, .inl (g.2.1 0, 495, .inl (nIf sd))), (aNal, .inl (g.2.1 0, 495, .inl (nIf (crH gr ki ma hd L sd)))), (aNlo, .inl (g.2.1 0, 12, .inl (nIf z5)))] := by
          intro v14 ev14
          exact J43_11 _ (by rw [if_pos c43]; try simp only [ev14])
        refine x_if_ge dX9_alone_47 (fun c47 => ?_) (fun c47 => ?_)
        · have c47 : 0 ≤ (ahB (crH gr ki ma hd L sd) i) := c47
          refine x_iload_n dX9_alone_55 rfl ?_
          exact J47_15 _ (if_pos c47).symm
        · have c47 : ¬ (0 ≤ (ahB (crH gr ki ma hd L sd) i)) := c47
          refine x_iload dX9_alone_50 rfl ?_
          refine x_goto dX9_alone_52 ?_
          exact J47_15 _ (if_neg c47).symm
  exact L28_7 0 (Nat.zero_le _) 0 (by rfl) _ (by rfl)

-- == nalone_n ==
set_option maxRecDepth 100000 in
set_option maxHeartbeats 4000000 in
theorem ct_nalone_n (l : Launch) (g : XG) (aN aNs aNk aNf aNr aNp aNb aNa aNt aNbo aNsz aNnu aNl aNal aNlo aNw aNtr aNis aNbg aNow nts nta nop npr nac : Nat) (nkp nbd nnw nsn nwn : Int32) (gr wk lk sz br : Nat) (z : Int32) (ru ki ma bb hd : Nat → Nat) (ce : Nat → Int32) (tb nli nal nlo sd : Nat → Nat) (L : Nat) (fi : Nat → Nat) (p : Nat) (hgr : gr ≤ 12) (hki : ∀ j, ki j ≤ 7) (hma : ∀ j, ma j ≤ 99999) (hwk : wk ≤ 40) (hlat : latI ce wk = nI L) (hL : L < 4096) (hsz : sz ≤ 60) (hbb : ∀ j, bb j < 256) (hsd : ∀ p, sd p ≤ 99) (hsv : ∀ p, p < 495 → sd p = if lk = 1 then clN (txV bb sz wk L p) else 1) (hlk : lk ≤ 1) (hwo : (nnw = 1 ∧ (nsn = 1 ∨ (nsn = 0 ∧ nli = sd))) ∨ (nnw = 0 ∧ nsn = 0 ∧ nli = sd ∧ nal = crH gr ki ma hd L sd ∧ nac = toH gr ki ma hd L sd ∧ ∀ q, q < gr → nlo q = laN (ki q) (ma q) L sd)) (hal : ahB (crH gr ki ma hd L sd) 495 = -1) : Ct l g 34 0 0 yX9_alone cX9_alone 5 (some .int) [.ref aN, .int 1] [(aN, .inr (9, [.ref aNs, .ref aNk, .int nkp, .ref aNf, .ref aNr, .ref aNp, .ref aNb, .ref aNa, .ref aNt, .int (nI nts), .ref aNbo, .ref aNsz, .ref aNnu, .int (nI nta), .int (nI nop), .int nbd, .int 0, .int (nI npr), .int nnw, .int nsn, .int nwn, .ref aNl, .ref aNal, .ref aNlo, .int (nI nac), .ref aNw, .ref aNtr, .ref aNis, .ref aNbg, .ref aNow])), (aNf, .inl (g.2.1 0, 8, .inl (nIf (fnF fi)))), (aNs, .inl (g.2.1 0, 919, .inl (msF gr wk z lk sz br ru ki ma bb ce hd))), (aNt, .inl (g.2.1 0, 60, .inl (nIf tb))), (aNa, .inl (g.2.1 0, 2475, .inl (nIf fcN))), (aNr, .inl (g.2.1 0, 495, .inl (nIf rowB))), (aNb, .inl (g.2.1 0, 4096, .inl (nIf popN))), (aNl, .inl (g.2.1 0, 495, .inl (nIf nli))), (aNal, .inl (g.2.1 0, 495, .inl (nIf nal))), (aNlo, .inl (g.2.1 0, 12, .inl (nIf nlo)))] (fun vv_ ww_ => ∃ (zat : Nat) (zop : Nat) (zbd : Int32) (zpr : Nat) (lo2 : Nat → Nat), vv_ = some (.int (fndI 3)) ∧ ww_ = [(aN, .inr (9, [.ref aNs, .ref aNk, .int nkp, .ref aNf, .ref aNr, .ref aNp, .ref aNb, .ref aNa, .ref aNt, .int (nI nts), .ref aNbo, .ref aNsz, .ref aNnu, .int (nI zat), .int (nI zop), .int zbd, .int 0, .int (nI zpr), .int 0, .int 0, .int (wnI nnw nwn), .ref aNl, .ref aNal, .ref aNlo, .int (nI (toH gr ki ma hd L sd)), .ref aNw, .ref aNtr, .ref aNis, .ref aNbg, .ref aNow])), (aNf, .inl (g.2.1 0, 8, .inl (nIf (fnF (updN fi 3 (fi 3 + 1)))))), (aNs, .inl (g.2.1 0, 919, .inl (msF gr wk z lk sz br ru ki ma bb ce hd))), (aNt, .inl (g.2.1 0, 60, .inl (nIf tb))), (aNa, .inl (g.2.1 0, 2475, .inl (nIf fcN))), (aNr, .inl (g.2.1 0, 495, .inl (nIf rowB))), (aNb, .inl (g.2.1 0, 4096, .inl (nIf popN))), (aNl, .inl (g.2.1 0, 495, .inl (nIf sd))), (aNal, .inl (g.2.1 0, 495, .inl (nIf (crH gr ki ma hd L sd)))), (aNlo, .inl (g.2.1 0, 12, .inl (nIf lo2)))] ∧ (∀ q, q < gr → lo2 q = laN (ki q) (ma q) L sd)) := by
  refine Ct.ofX (lv := [some (.ref aN), some (.int 1), none, none, none]) (by decide) rfl (Nat.le_of_ble_eq_true rfl) (fun κ => ?_)
  generalize hQ : xQ κ g 0 0 _ = Q
  refine x_iload_n dX9_alone_0 rfl ?_
  refine x_i2l dX9_alone_1 ?_
  refine x_lconst 0 dX9_alone_2 (by decide) ?_
  refine x_lconst 1 dX9_alone_3 (by decide) ?_
  refine x_cSi dX9_alone_4 ml_X9_98 mX9_isIn (ct_X9_isIn κ.2.1 g ((1 : Int32).toInt64) 0 1) rfl (Nat.le_of_ble_eq_true rfl) (by decide) (Nat.le_refl _) (Nat.le_refl _) ?_
  refine x_rei (1) (by decide) ?_
  refine x_if_ne dX9_alone_7 (fun c7 => ?_) (fun c7 => ?_)
  rotate_left
  · exact absurd c7 (by decide)
  refine x_aload_n dX9_alone_17 rfl ?_
  refine x_callV dX9_alone_18 ml_X9_198 mX9_works (ct_X9_works κ.2.1 g aN aNs aNk aNf aNr aNp aNb aNa aNt aNbo aNsz aNnu aNl aNal aNlo aNw aNtr aNis aNbg aNow nts nta nop npr nac nkp nbd nnw nsn nwn gr wk lk sz br z ru ki ma bb hd ce tb nli nal nlo sd L (hgr) (hki) (hma) (hwk) (hlat) (hL) (hsz) (hbb) (hsd) (hsv) (hlk) (hwo)) [0, 2, 3, 4, 5, 6, 7, 8, 9] rfl rfl 0 rfl rfl rfl (Nat.le_of_ble_eq_true rfl) (by decide) (Nat.le_refl _) (Nat.le_refl _) (fun vv ww hp => ?_)
  obtain ⟨z1, z2, z3, z4, z5, rfl, rfl, p6⟩ := hp
  refine ⟨(rfl : [aN, aNs, aNt, aNa, aNr, aNb, aNl, aNal, aNlo] = [aN, aNs, aNt, aNa, aNr, aNb, aNl, aNal, aNlo]), x_eq (lv' := [some (.ref aN), some (.int 1), none, none, none]) (st' := []) (ws' := [(aN, .inr (9, [.ref aNs, .ref aNk, .int nkp, .ref aNf, .ref aNr, .ref aNp, .ref aNb, .ref aNa, .ref aNt, .int (nI nts), .ref aNbo, .ref aNsz, .ref aNnu, .int (nI z1), .int (nI z2), .int z3, .int 0, .int (nI z4), .int 0, .int 0, .int (wnI nnw nwn), .ref aNl, .ref aNal, .ref aNlo, .int (nI (toH gr ki ma hd L sd)), .ref aNw, .ref aNtr, .ref aNis, .ref aNbg, .ref aNow])), (aNf, .inl (g.2.1 0, 8, .inl (nIf (fnF fi)))), (aNs, .inl (g.2.1 0, 919, .inl (msF gr wk z lk sz br ru ki ma bb ce hd))), (aNt, .inl (g.2.1 0, 60, .inl (nIf tb))), (aNa, .inl (g.2.1 0, 2475, .inl (nIf fcN))), (aNr, .inl (g.2.1 0, 495, .inl (nIf rowB))), (aNb, .inl (g.2.1 0, 4096, .inl (nIf popN))), (aNl, .inl (g.2.1 0, 495, .inl (nIf sd))), (aNal, .inl (g.2.1 0, 495, .inl (nIf (crH gr ki ma hd L sd)))), (aNlo, .inl (g.2.1 0, 12, .inl (nIf z5)))]) ?_ rfl rfl rfl⟩
  refine x_iconst 0 dX9_alone_21 (by decide) ?_
  refine x_istore_n (lv' := [some (.ref aN), some (.int 1), some (.int 0), none, none]) dX9_alone_22 (xlt rfl) rfl ?_
  refine x_iconst (-1) dX9_alone_23 (by decide) ?_
  refine x_istore_n (lv' := [some (.ref aN), some (.int 1), some (.int 0), some (.int ((-1))), none]) dX9_alone_24 (xlt rfl) rfl ?_
  refine x_iconst 0 dX9_alone_25 (by decide) ?_
  refine x_istore (lv' := [some (.ref aN), some (.int 1), some (.int 0), some (.int ((-1))), some (.int 0)]) dX9_alone_26 (xlt rfl) rfl ?_
  have L28_7 : ∀ (i : Nat), i ≤ 495 → ∀ (nq : Nat), nq = ahC (crH gr ki ma hd L sd) i → ∀ (fq : Int32), fq = ahB (crH gr ki ma hd L sd) i → Xs κ g 34 0 0 cX9_alone yX9_alone (some .int) Q 0 0 28 [some (.ref aN), some (.int 1), some (.int (nI nq)), some (.int fq), some (.int (nI i))] [] [(aN, .inr (9, [.ref aNs, .ref aNk, .int nkp, .ref aNf, .ref aNr, .ref aNp, .ref aNb, .ref aNa, .ref aNt, .int (nI nts), .ref aNbo, .ref aNsz, .ref aNnu, .int (nI z1), .int (nI z2), .int z3, .int 0, .int (nI z4), .int 0, .int 0, .int (wnI nnw nwn), .ref aNl, .ref aNal, .ref aNlo, .int (nI (toH gr ki ma hd L sd)), .ref aNw, .ref aNtr, .ref aNis, .ref aNbg, .ref aNow])), (aNf, .inl (g.2.1 0, 8, .inl (nIf (fnF fi)))), (aNs, .inl (g.2.1 0, 919, .inl (msF gr wk z lk sz br ru ki ma bb ce hd))), (aNt, .inl (g.2.1 0, 60, .inl (nIf tb))), (aNa, .inl (g.2.1 0, 2475, .inl (nIf fcN))), (aNr, .inl (g.2.1 0, 495, .inl (nIf rowB))), (aNb, .inl (g.2.1 0, 4096, .inl (nIf popN))), (aNl, .inl (g.2.1 0, 495, .inl (nIf sd))), (aNal, .inl (g.2.1 0, 495, .inl (nIf (crH gr ki ma hd L sd)))), (aNlo, .inl (g.2.1 0, 12, .inl (nIf z5)))] := by
    refine upTo 495 (fun i hi28 ih28 => ?_)
    intro nq enq
    subst enq
    intro fq efq
    subst efq
    refine x_iload dX9_alone_28 rfl ?_
    refine x_sipush 495 dX9_alone_30 (by decide) ?_
    refine x_icmp_ge dX9_alone_33 (fun c33 => ?_) (fun c33 => ?_)
    · have c33 : 495 ≤ (nI i) := c33
      have c33n := (nI_leI (a := 495) (b := i) (by omega) (by omega)).mp c33
      have hxc33 : i = 495 := by omega
      try rw [hxc33]
      refine x_iload_n dX9_alone_81 rfl ?_
      refine x_if_ne dX9_alone_82 (fun c82 => ?_) (fun c82 => ?_)
      rotate_left
      · exact absurd c82 (by decide)
      refine x_iload_n dX9_alone_89 rfl ?_
      refine x_rei ((-1)) (hal) ?_
      refine x_if_ge dX9_alone_90 (fun c90 => ?_) (fun c90 => ?_)
      · exact absurd c90 (by decide)
      refine x_aload_n dX9_alone_93 rfl ?_
      refine x_ldc dX9_alone_94 k_X9_239 ?_
      refine x_cVi (ws' := [(aN, .inr (9, [.ref aNs, .ref aNk, .int nkp, .ref aNf, .ref aNr, .ref aNp, .ref aNb, .ref aNa, .ref aNt, .int (nI nts), .ref aNbo, .ref aNsz, .ref aNnu, .int (nI z1), .int (nI z2), .int z3, .int 0, .int (nI z4), .int 0, .int 0, .int (wnI nnw nwn), .ref aNl, .ref aNal, .ref aNlo, .int (nI (toH gr ki ma hd L sd)), .ref aNw, .ref aNtr, .ref aNis, .ref aNbg, .ref aNow])), (aNf, .inl (g.2.1 0, 8, .inl (nIf (fnF (updN fi 3 (fi 3 + 1)))))), (aNs, .inl (g.2.1 0, 919, .inl (msF gr wk z lk sz br ru ki ma bb ce hd))), (aNt, .inl (g.2.1 0, 60, .inl (nIf tb))), (aNa, .inl (g.2.1 0, 2475, .inl (nIf fcN))), (aNr, .inl (g.2.1 0, 495, .inl (nIf rowB))), (aNb, .inl (g.2.1 0, 4096, .inl (nIf popN))), (aNl, .inl (g.2.1 0, 495, .inl (nIf sd))), (aNal, .inl (g.2.1 0, 495, .inl (nIf (crH gr ki ma hd L sd)))), (aNlo, .inl (g.2.1 0, 12, .inl (nIf z5)))]) dX9_alone_96 ml_X9_88 mX9_finds (ct_finds_3 κ.2.1 g aN aNs aNk aNf aNr aNp aNb aNa aNt aNbo aNsz aNnu aNl aNal aNlo aNw aNtr aNis aNbg aNow nts z1 z2 z4 (toH gr ki ma hd L sd) nkp z3 0 0 0 (wnI nnw nwn) fi) [0, 1] rfl rfl 0 rfl rfl rfl (Nat.le_of_ble_eq_true rfl) (by decide) (Nat.le_refl _) (Nat.le_refl _) (rfl : [aN, aNf] = [aN, aNf]) rfl ?_
      refine x_goto dX9_alone_99 ?_
      rw [← hQ]
      refine x_iret dX9_alone_103 rfl (Nat.le_of_ble_eq_true rfl) (Nat.le_of_ble_eq_true rfl) ?_
      exact ⟨_, _, _, _, _, rfl, rfl, p6⟩
    · have c33 : ¬ (495 ≤ (nI i)) := c33
      have c33n := mt (nI_leI (a := 495) (b := i) (by omega) (by omega)).mpr c33
      refine x_aload_n dX9_alone_36 rfl ?_
      refine x_get dX9_alone_37 0 22 inX9 fl_X9_57 rfl rfl (by decide) rfl ?_
      refine x_iload dX9_alone_40 rfl ?_
      refine x_iald dX9_alone_42 8 i rfl (rfl) (by omega) (by decide) ?_
      have J43_11 : ∀ (v10 : Int32), v10 = (if (nI ((crH gr ki ma hd L sd) i)) = 0 then ((if 0 ≤ (ahB (crH gr ki ma hd L sd) i) then ahB (crH gr ki ma hd L sd) i else nI i)) else ahB (crH gr ki ma hd L sd) i) → Xs κ g 34 0 0 cX9_alone yX9_alone (some .int) Q 0 0 56 [some (.ref aN), some (.int 1), some (.int (nI ((ahC (crH gr ki ma hd L sd) i)))), some (.int (ahB (crH gr ki ma hd L sd) i)), some (.int (nI i))] [.int v10] [(aN, .inr (9, [.ref aNs, .ref aNk, .int nkp, .ref aNf, .ref aNr, .ref aNp, .ref aNb, .ref aNa, .ref aNt, .int (nI nts), .ref aNbo, .ref aNsz, .ref aNnu, .int (nI z1), .int (nI z2), .int z3, .int 0, .int (nI z4), .int 0, .int 0, .int (wnI nnw nwn), .ref aNl, .ref aNal, .ref aNlo, .int (nI (toH gr ki ma hd L sd)), .ref aNw, .ref aNtr, .ref aNis, .ref aNbg, .ref aNow])), (aNf, .inl (g.2.1 0, 8, .inl (nIf (fnF fi)))), (aNs, .inl (g.2.1 0, 919, .inl (msF gr wk z lk sz br ru ki ma bb ce hd))), (aNt, .inl (g.2.1 0, 60, .inl (nIf tb))), (aNa, .inl (g.2.1 0, 2475, .inl (nIf fcN))), (aNr, .inl (g.2.1 0, 495, .inl (nIf rowB))), (aNb, .inl (g.2.1 0, 4096, .inl (nIf popN))), (aNl, .inl (g.2.1 0, 495, .inl (nIf sd))), (aNal, .inl (g.2.1 0, 495, .inl (nIf (crH gr ki ma hd L sd)))), (aNlo, .inl (g.2.1 0, 12, .inl (nIf z5)))] := by
        intro v10 ev10
        refine x_istore_n (lv' := [some (.ref aN), some (.int 1), some (.int (nI ((ahC (crH gr ki ma hd L sd) i)))), some (.int v10), some (.int (nI i))]) dX9_alone_56 (xlt rfl) rfl ?_
        refine x_iload_n dX9_alone_57 rfl ?_
        refine x_aload_n dX9_alone_58 rfl ?_
        refine x_get dX9_alone_59 0 22 inX9 fl_X9_57 rfl rfl (by decide) rfl ?_
        refine x_iload dX9_alone_62 rfl ?_
        refine x_iald dX9_alone_64 8 i rfl (rfl) (by omega) (by decide) ?_
        have J65_13 : ∀ (v12 : Int32), v12 = (if (nI ((crH gr ki ma hd L sd) i)) = 0 then 1 else 0) → Xs κ g 34 0 0 cX9_alone yX9_alone (some .int) Q 0 0 73 [some (.ref aN), some (.int 1), some (.int (nI ((ahC (crH gr ki ma hd L sd) i)))), some (.int v10), some (.int (nI i))] [.int v12, .int (nI ((ahC (crH gr ki ma hd L sd) i)))] [(aN, .inr (9, [.ref aNs, .ref aNk, .int nkp, .ref aNf, .ref aNr, .ref aNp, .ref aNb, .ref aNa, .ref aNt, .int (nI nts), .ref aNbo, .ref aNsz, .ref aNnu, .int (nI z1), .int (nI z2), .int z3, .int 0, .int (nI z4), .int 0, .int 0, .int (wnI nnw nwn), .ref aNl, .ref aNal, .ref aNlo, .int (nI (toH gr ki ma hd L sd)), .ref aNw, .ref aNtr, .ref aNis, .ref aNbg, .ref aNow])), (aNf, .inl (g.2.1 0, 8, .inl (nIf (fnF fi)))), (aNs, .inl (g.2.1 0, 919, .inl (msF gr wk z lk sz br ru ki ma bb ce hd))), (aNt, .inl (g.2.1 0, 60, .inl (nIf tb))), (aNa, .inl (g.2.1 0, 2475, .inl (nIf fcN))), (aNr, .inl (g.2.1 0, 495, .inl (nIf rowB))), (aNb, .inl (g.2.1 0, 4096, .inl (nIf popN))), (aNl, .inl (g.2.1 0, 495, .inl (nIf sd))), (aNal, .inl (g.2.1 0, 495, .inl (nIf (crH gr ki ma hd L sd)))), (aNlo, .inl (g.2.1 0, 12, .inl (nIf z5)))] := by
          intro v12 ev12
          refine x_rei (nI (if nI ((crH gr ki ma hd L sd) i) = 0 then 1 else 0)) (by simp only [ev12]; split <;> rfl) ?_
          refine x_iadd dX9_alone_73 ?_
          refine x_rei (nI ((ahC (crH gr ki ma hd L sd) i) + (if nI ((crH gr ki ma hd L sd) i) = 0 then 1 else 0))) (nI_iadd (ahC (crH gr ki ma hd L sd) i) (if nI ((crH gr ki ma hd L sd) i) = 0 then 1 else 0)) ?_
          refine x_istore_n (lv' := [some (.ref aN), some (.int 1), some (.int (nI ((ahC (crH gr ki ma hd L sd) i) + (if nI ((crH gr ki ma hd L sd) i) = 0 then 1 else 0)))), some (.int v10), some (.int (nI i))]) dX9_alone_74 (xlt rfl) rfl ?_
          refine x_iinc (lv' := [some (.ref aN), some (.int 1), some (.int (nI ((ahC (crH gr ki ma hd L sd) i) + (if nI ((crH gr ki ma hd L sd) i) = 0 then 1 else 0)))), some (.int v10), some (.int (nI (i + 1)))]) (nI (i + 1)) dX9_alone_75 rfl (nI_addc i 1 rfl) rfl ?_
          refine x_goto dX9_alone_78 ?_
          exact ih28 (by omega) ((ahC (crH gr ki ma hd L sd) i) + (if nI ((crH gr ki ma hd L sd) i) = 0 then 1 else 0)) (by rfl) _ (by simp only [ev10]; rfl)
        refine x_if_ne dX9_alone_65 (fun c65 => ?_) (fun c65 => ?_)
        · have c65 : ¬ ((nI ((crH gr ki ma hd L sd) i)) = 0) := c65
          refine x_iconst 0 dX9_alone_72 (by decide) ?_
          exact J65_13 _ (if_neg c65).symm
        · have c65 : (nI ((crH gr ki ma hd L sd) i)) = 0 := c65
          refine x_iconst 1 dX9_alone_68 (by decide) ?_
          refine x_goto dX9_alone_69 ?_
          exact J65_13 _ (if_pos c65).symm
      refine x_if_ne dX9_alone_43 (fun c43 => ?_) (fun c43 => ?_)
      · have c43 : ¬ ((nI ((crH gr ki ma hd L sd) i)) = 0) := c43
        refine x_iload_n dX9_alone_55 rfl ?_
        exact J43_11 _ (if_neg c43).symm
      · have c43 : (nI ((crH gr ki ma hd L sd) i)) = 0 := c43
        refine x_iload_n dX9_alone_46 rfl ?_
        have J47_15 : ∀ (v14 : Int32), v14 = (if 0 ≤ (ahB (crH gr ki ma hd L sd) i) then ahB (crH gr ki ma hd L sd) i else nI i) → Xs κ g 34 0 0 cX9_alone yX9_alone (some .int) Q 0 0 56 [some (.ref aN), some (.int 1), some (.int (nI ((ahC (crH gr ki ma hd L sd) i)))), some (.int (ahB (crH gr ki ma hd L sd) i)), some (.int (nI i))] [.int v14] [(aN, .inr (9, [.ref aNs, .ref aNk, .int nkp, .ref aNf, .ref aNr, .ref aNp, .ref aNb, .ref aNa, .ref aNt, .int (nI nts), .ref aNbo, .ref aNsz, .ref aNnu, .int (nI z1), .int (nI z2), .int z3, .int 0, .int (nI z4), .int 0, .int 0, .int (wnI nnw nwn), .ref aNl, .ref aNal, .ref aNlo, .int (nI (toH gr ki ma hd L sd)), .ref aNw, .ref aNtr, .ref aNis, .ref aNbg, .ref aNow])), (aNf, .inl (g.2.1 0, 8, .inl (nIf (fnF fi)))), (aNs, .inl (g.2.1 0, 919, .inl (msF gr wk z lk sz br ru ki ma bb ce hd))), (aNt, .inl (g.2.1 0, 60, .inl (nIf tb))), (aNa, .inl (g.2.1 0, 2475, .inl (nIf fcN))), (aNr, .inl (g.2.1 0, 495, .inl (nIf rowB))), (aNb, .inl (g.2.1 0, 4096, .inl (nIf popN))), (aNl, .inl (g.2.1 0, 495, .inl (nIf sd))), (aNal, .inl (g.2.1 0, 495, .inl (nIf (crH gr ki ma hd L sd)))), (aNlo, .inl (g.2.1 0, 12, .inl (nIf z5)))] := by
          intro v14 ev14
          exact J43_11 _ (by rw [if_pos c43]; try simp only [ev14])
        refine x_if_ge dX9_alone_47 (fun c47 => ?_) (fun c47 => ?_)
        · have c47 : 0 ≤ (ahB (crH gr ki ma hd L sd) i) := c47
          refine x_iload_n dX9_alone_55 rfl ?_
          exact J47_15 _ (if_pos c47).symm
        · have c47 : ¬ (0 ≤ (ahB (crH gr ki ma hd L sd) i)) := c47
          refine x_iload dX9_alone_50 rfl ?_
          refine x_goto dX9_alone_52 ?_
          exact J47_15 _ (if_neg c47).symm
  exact L28_7 0 (Nat.zero_le _) 0 (by rfl) _ (by rfl)

