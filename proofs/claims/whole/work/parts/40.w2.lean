
-- == ntold_f ==
set_option maxRecDepth 100000 in
set_option maxHeartbeats 4000000 in
theorem ct_ntold_f (l : Launch) (g : XG) (aN aNs aNk aNf aNr aNp aNb aNa aNt aNbo aNsz aNnu aNl aNal aNlo aNw aNtr aNis aNbg aNow nts nta nop npr nac : Nat) (nkp nbd ntp nnw nsn nwn : Int32) (fi : Nat → Nat) (gr wk lk sz br : Nat) (z : Int32) (ru ki ma bb hd : Nat → Nat) (ce : Nat → Int32) (r : Nat) (hr : r < 4096) (hp : popN r = 4) (hw : wk = 40) : Ct l g 34 0 0 yX9_told cX9_told 2 (some .int) [.ref aN, .int (nI r)] [(aN, .inr (9, [.ref aNs, .ref aNk, .int nkp, .ref aNf, .ref aNr, .ref aNp, .ref aNb, .ref aNa, .ref aNt, .int (nI nts), .ref aNbo, .ref aNsz, .ref aNnu, .int (nI nta), .int (nI nop), .int nbd, .int ntp, .int (nI npr), .int nnw, .int nsn, .int nwn, .ref aNl, .ref aNal, .ref aNlo, .int (nI nac), .ref aNw, .ref aNtr, .ref aNis, .ref aNbg, .ref aNow])), (aNf, .inl (g.2.1 0, 8, .inl (nIf (fnF fi)))), (aNp, .inl (g.2.1 0, 4096, .inl plI)), (aNs, .inl (g.2.1 0, 919, .inl (msF gr wk z lk sz br ru ki ma bb ce hd)))] (xpi (fndI 1) [(aN, .inr (9, [.ref aNs, .ref aNk, .int nkp, .ref aNf, .ref aNr, .ref aNp, .ref aNb, .ref aNa, .ref aNt, .int (nI nts), .ref aNbo, .ref aNsz, .ref aNnu, .int (nI nta), .int (nI nop), .int nbd, .int ntp, .int (nI npr), .int nnw, .int nsn, .int nwn, .ref aNl, .ref aNal, .ref aNlo, .int (nI nac), .ref aNw, .ref aNtr, .ref aNis, .ref aNbg, .ref aNow])), (aNf, .inl (g.2.1 0, 8, .inl (nIf (fnF (updN fi 1 (fi 1 + 1)))))), (aNp, .inl (g.2.1 0, 4096, .inl plI)), (aNs, .inl (g.2.1 0, 919, .inl (msF gr wk z lk sz br ru ki ma bb ce hd)))]) := by
  refine Ct.ofX (lv := [some (.ref aN), some (.int (nI r))]) (by decide) rfl (Nat.le_of_ble_eq_true rfl) (fun κ => ?_)
  generalize hQ : xQ κ g 0 0 _ = Q
  have hpl := (plB_row hr hp).1
  refine x_iload_n dX9_told_0 rfl ?_
  refine x_if_lt dX9_told_1 (fun c1 => ?_) (fun c1 => ?_)
  · have c1 : (nI r) < 0 := c1
    have c1n := (nI_ltI (a := r) (b := 0) (by omega) (by omega)).mp c1
    exact absurd c1n (by omega)
  · have c1 : ¬ ((nI r) < 0) := c1
    have c1n := mt (nI_ltI (a := r) (b := 0) (by omega) (by omega)).mpr c1
    refine x_iload_n dX9_told_4 rfl ?_
    refine x_sipush 4095 dX9_told_5 (by decide) ?_
    refine x_icmp_gt dX9_told_8 (fun c8 => ?_) (fun c8 => ?_)
    · have c8 : 4095 < (nI r) := c8
      have c8n := (nI_ltI (a := 4095) (b := r) (by omega) (by omega)).mp c8
      exact absurd c8n (by omega)
    · have c8 : ¬ (4095 < (nI r)) := c8
      have c8n := mt (nI_ltI (a := 4095) (b := r) (by omega) (by omega)).mpr c8
      refine x_aload_n dX9_told_11 rfl ?_
      refine x_get dX9_told_12 0 5 inX9 fl_X9_22 rfl rfl (by decide) rfl ?_
      refine x_iload_n dX9_told_15 rfl ?_
      refine x_iald dX9_told_16 2 r rfl (rfl) (by omega) (by decide) ?_
      refine x_rei (nI (plB r 12)) (if_pos hp) ?_
      refine x_if_ge dX9_told_17 (fun c17 => ?_) (fun c17 => ?_)
      · have c17 : 0 ≤ (nI (plB r 12)) := c17
        have c17n := (nI_leI (a := 0) (b := (plB r 12)) (by omega) (by omega)).mp c17
        refine x_aload_n dX9_told_27 rfl ?_
        refine x_get dX9_told_28 0 0 inX9 fl_X9_7 rfl rfl (by decide) rfl ?_
        refine x_iconst 1 dX9_told_31 (by decide) ?_
        refine x_iald dX9_told_32 3 1 rfl (rfl) (by decide) (by decide) ?_
        refine x_rei (nI wk) (rfl) ?_
        refine x_bipush 40 dX9_told_33 (by decide) ?_
        refine x_icmp_ne dX9_told_35 (fun c35 => ?_) (fun c35 => ?_)
        · have c35 : ¬ ((nI wk) = 40) := c35
          have c35n := mt (nI_eq (a := wk) (b := 40) (by omega) (by omega)).mpr c35
          exact absurd c35n (by omega)
        · have c35 : (nI wk) = 40 := c35
          have c35n := (nI_eq (a := wk) (b := 40) (by omega) (by omega)).mp c35
          refine x_aload_n dX9_told_38 rfl ?_
          refine x_ldc dX9_told_39 k_X9_104 ?_
          refine x_cVi (ws' := [(aN, .inr (9, [.ref aNs, .ref aNk, .int nkp, .ref aNf, .ref aNr, .ref aNp, .ref aNb, .ref aNa, .ref aNt, .int (nI nts), .ref aNbo, .ref aNsz, .ref aNnu, .int (nI nta), .int (nI nop), .int nbd, .int ntp, .int (nI npr), .int nnw, .int nsn, .int nwn, .ref aNl, .ref aNal, .ref aNlo, .int (nI nac), .ref aNw, .ref aNtr, .ref aNis, .ref aNbg, .ref aNow])), (aNf, .inl (g.2.1 0, 8, .inl (nIf (fnF (updN fi 1 (fi 1 + 1)))))), (aNp, .inl (g.2.1 0, 4096, .inl plI)), (aNs, .inl (g.2.1 0, 919, .inl (msF gr wk z lk sz br ru ki ma bb ce hd)))]) dX9_told_41 ml_X9_88 mX9_finds (ct_finds_1 κ.2.1 g aN aNs aNk aNf aNr aNp aNb aNa aNt aNbo aNsz aNnu aNl aNal aNlo aNw aNtr aNis aNbg aNow nts nta nop npr nac nkp nbd ntp nnw nsn nwn fi) [0, 1] rfl rfl 0 rfl rfl rfl (Nat.le_of_ble_eq_true rfl) (by decide) (Nat.le_refl _) (Nat.le_refl _) (rfl : [aN, aNf] = [aN, aNf]) rfl ?_
          rw [← hQ]
          refine x_iret dX9_told_44 rfl (Nat.le_of_ble_eq_true rfl) (Nat.le_of_ble_eq_true rfl) ?_
          exact ⟨rfl, rfl⟩
      · have c17 : ¬ (0 ≤ (nI (plB r 12))) := c17
        have c17n := mt (nI_leI (a := 0) (b := (plB r 12)) (by omega) (by omega)).mpr c17
        exact absurd c17n (by omega)

-- == ntold_o ==
set_option maxRecDepth 100000 in
set_option maxHeartbeats 4000000 in
theorem ct_ntold_o (l : Launch) (g : XG) (aN aNs aNk aNf aNr aNp aNb aNa aNt aNbo aNsz aNnu aNl aNal aNlo aNw aNtr aNis aNbg aNow nts nta nop npr nac : Nat) (nkp nbd nnw nsn nwn : Int32) (gr wk lk sz br : Nat) (z : Int32) (ru ki ma bb hd : Nat → Nat) (ce : Nat → Int32) (tb nli nal nlo sd : Nat → Nat) (L : Nat) (d : Nat) (hgr : gr ≤ 12) (hki : ∀ j, ki j ≤ 7) (hma : ∀ j, ma j ≤ 99999) (hwk : wk ≤ 40) (hlat : latI ce wk = nI L) (hL : L < 4096) (hsz : sz ≤ 60) (hbb : ∀ j, bb j < 256) (hsd : ∀ p, sd p ≤ 99) (hsv : ∀ p, p < 495 → sd p = if lk = 1 then clN (txV bb sz wk L p) else 1) (hlk : lk ≤ 1) (hwo : (nnw = 1 ∧ (nsn = 1 ∨ (nsn = 0 ∧ nli = sd))) ∨ (nnw = 0 ∧ nsn = 0 ∧ nli = sd ∧ nal = crH gr ki ma hd L sd ∧ nac = toH gr ki ma hd L sd ∧ ∀ q, q < gr → nlo q = laN (ki q) (ma q) L sd)) (hdr : d < 4096) (hp : popN d = 4) (hw4 : wk < 40) (htot : toH gr ki ma hd L sd < 2 ^ 30) : Ct l g 34 0 0 yX9_told cX9_told 2 (some .int) [.ref aN, .int (nI d)] [(aN, .inr (9, [.ref aNs, .ref aNk, .int nkp, .ref aNf, .ref aNr, .ref aNp, .ref aNb, .ref aNa, .ref aNt, .int (nI nts), .ref aNbo, .ref aNsz, .ref aNnu, .int (nI nta), .int (nI nop), .int nbd, .int 0, .int (nI npr), .int nnw, .int nsn, .int nwn, .ref aNl, .ref aNal, .ref aNlo, .int (nI nac), .ref aNw, .ref aNtr, .ref aNis, .ref aNbg, .ref aNow])), (aNs, .inl (g.2.1 0, 919, .inl (msF gr wk z lk sz br ru ki ma bb ce hd))), (aNt, .inl (g.2.1 0, 60, .inl (nIf tb))), (aNa, .inl (g.2.1 0, 2475, .inl (nIf fcN))), (aNr, .inl (g.2.1 0, 495, .inl (nIf rowB))), (aNb, .inl (g.2.1 0, 4096, .inl (nIf popN))), (aNl, .inl (g.2.1 0, 495, .inl (nIf nli))), (aNal, .inl (g.2.1 0, 495, .inl (nIf nal))), (aNlo, .inl (g.2.1 0, 12, .inl (nIf nlo))), (aNp, .inl (g.2.1 0, 4096, .inl plI))] (fun vv_ ww_ => ∃ (zat : Nat) (zop : Nat) (zbd : Int32) (zpr : Nat) (lo2 : Nat → Nat), vv_ = some (.int (wkCells ce wk ru (toH gr ki ma hd L sd) (crH gr ki ma hd L sd) d (8 * (wk + 1 - 1) + 1))) ∧ ww_ = [(aN, .inr (9, [.ref aNs, .ref aNk, .int nkp, .ref aNf, .ref aNr, .ref aNp, .ref aNb, .ref aNa, .ref aNt, .int (nI nts), .ref aNbo, .ref aNsz, .ref aNnu, .int (nI zat), .int (nI zop), .int zbd, .int 0, .int (nI zpr), .int 1, .int 1, .int (wnI nnw nwn), .ref aNl, .ref aNal, .ref aNlo, .int (nI (toH gr ki ma hd L sd)), .ref aNw, .ref aNtr, .ref aNis, .ref aNbg, .ref aNow])), (aNs, .inl (g.2.1 0, 919, .inl (msF gr (wk + 1) z lk sz br (updN ru 7 (potE (wkLeft ru (toH gr ki ma hd L sd) (crH gr ki ma hd L sd) d))) ki ma bb (wkCells ce wk ru (toH gr ki ma hd L sd) (crH gr ki ma hd L sd) d) hd))), (aNt, .inl (g.2.1 0, 60, .inl (nIf tb))), (aNa, .inl (g.2.1 0, 2475, .inl (nIf fcN))), (aNr, .inl (g.2.1 0, 495, .inl (nIf rowB))), (aNb, .inl (g.2.1 0, 4096, .inl (nIf popN))), (aNl, .inl (g.2.1 0, 495, .inl (nIf sd))), (aNal, .inl (g.2.1 0, 495, .inl (nIf (crH gr ki ma hd L sd)))), (aNlo, .inl (g.2.1 0, 12, .inl (nIf lo2))), (aNp, .inl (g.2.1 0, 4096, .inl plI))] ∧ (∀ q, q < gr → lo2 q = laN (ki q) (ma q) L sd)) := by
  refine Ct.ofX (lv := [some (.ref aN), some (.int (nI d))]) (by decide) rfl (Nat.le_of_ble_eq_true rfl) (fun κ => ?_)
  generalize hQ : xQ κ g 0 0 _ = Q
  have hpl := (plB_row hdr hp).1
  refine x_iload_n dX9_told_0 rfl ?_
  refine x_if_lt dX9_told_1 (fun c1 => ?_) (fun c1 => ?_)
  · have c1 : (nI d) < 0 := c1
    have c1n := (nI_ltI (a := d) (b := 0) (by omega) (by omega)).mp c1
    exact absurd c1n (by omega)
  · have c1 : ¬ ((nI d) < 0) := c1
    have c1n := mt (nI_ltI (a := d) (b := 0) (by omega) (by omega)).mpr c1
    refine x_iload_n dX9_told_4 rfl ?_
    refine x_sipush 4095 dX9_told_5 (by decide) ?_
    refine x_icmp_gt dX9_told_8 (fun c8 => ?_) (fun c8 => ?_)
    · have c8 : 4095 < (nI d) := c8
      have c8n := (nI_ltI (a := 4095) (b := d) (by omega) (by omega)).mp c8
      exact absurd c8n (by omega)
    · have c8 : ¬ (4095 < (nI d)) := c8
      have c8n := mt (nI_ltI (a := 4095) (b := d) (by omega) (by omega)).mpr c8
      refine x_aload_n dX9_told_11 rfl ?_
      refine x_get dX9_told_12 0 5 inX9 fl_X9_22 rfl rfl (by decide) rfl ?_
      refine x_iload_n dX9_told_15 rfl ?_
      refine x_iald dX9_told_16 9 d rfl (rfl) (by omega) (by decide) ?_
      refine x_rei (nI (plB d 12)) (if_pos hp) ?_
      refine x_if_ge dX9_told_17 (fun c17 => ?_) (fun c17 => ?_)
      · have c17 : 0 ≤ (nI (plB d 12)) := c17
        have c17n := (nI_leI (a := 0) (b := (plB d 12)) (by omega) (by omega)).mp c17
        refine x_aload_n dX9_told_27 rfl ?_
        refine x_get dX9_told_28 0 0 inX9 fl_X9_7 rfl rfl (by decide) rfl ?_
        refine x_iconst 1 dX9_told_31 (by decide) ?_
        refine x_iald dX9_told_32 1 1 rfl (rfl) (by decide) (by decide) ?_
        refine x_rei (nI wk) (rfl) ?_
        refine x_bipush 40 dX9_told_33 (by decide) ?_
        refine x_icmp_ne dX9_told_35 (fun c35 => ?_) (fun c35 => ?_)
        · have c35 : ¬ ((nI wk) = 40) := c35
          have c35n := mt (nI_eq (a := wk) (b := 40) (by omega) (by omega)).mpr c35
          refine x_aload_n dX9_told_45 rfl ?_
          refine x_iload_n dX9_told_46 rfl ?_
          refine x_callV dX9_told_47 ml_X9_219 mX9_goes (ct_X9_goes κ.2.1 g aN aNs aNk aNf aNr aNp aNb aNa aNt aNbo aNsz aNnu aNl aNal aNlo aNw aNtr aNis aNbg aNow nts nta nop npr nac nkp nbd nnw nsn nwn gr wk lk sz br z ru ki ma bb hd ce tb nli nal nlo sd L d (hgr) (hki) (hma) (hwk) (hlat) (hL) (hsz) (hbb) (hsd) (hsv) (hlk) (hwo) (hdr) (hw4) (htot)) [0, 1, 2, 3, 4, 5, 6, 7, 8] rfl rfl 0 rfl rfl rfl (Nat.le_of_ble_eq_true rfl) (by decide) (Nat.le_refl _) (Nat.le_refl _) (fun vv ww hp => ?_)
          obtain ⟨z1, z2, z3, z4, z5, rfl, rfl, p6⟩ := hp
          refine ⟨(rfl : [aN, aNs, aNt, aNa, aNr, aNb, aNl, aNal, aNlo] = [aN, aNs, aNt, aNa, aNr, aNb, aNl, aNal, aNlo]), x_eq (lv' := [some (.ref aN), some (.int (nI d))]) (st' := []) (ws' := [(aN, .inr (9, [.ref aNs, .ref aNk, .int nkp, .ref aNf, .ref aNr, .ref aNp, .ref aNb, .ref aNa, .ref aNt, .int (nI nts), .ref aNbo, .ref aNsz, .ref aNnu, .int (nI z1), .int (nI z2), .int z3, .int 0, .int (nI z4), .int 1, .int 1, .int (wnI nnw nwn), .ref aNl, .ref aNal, .ref aNlo, .int (nI (toH gr ki ma hd L sd)), .ref aNw, .ref aNtr, .ref aNis, .ref aNbg, .ref aNow])), (aNs, .inl (g.2.1 0, 919, .inl (msF gr (wk + 1) z lk sz br (updN ru 7 (potE (wkLeft ru (toH gr ki ma hd L sd) (crH gr ki ma hd L sd) d))) ki ma bb (wkCells ce wk ru (toH gr ki ma hd L sd) (crH gr ki ma hd L sd) d) hd))), (aNt, .inl (g.2.1 0, 60, .inl (nIf tb))), (aNa, .inl (g.2.1 0, 2475, .inl (nIf fcN))), (aNr, .inl (g.2.1 0, 495, .inl (nIf rowB))), (aNb, .inl (g.2.1 0, 4096, .inl (nIf popN))), (aNl, .inl (g.2.1 0, 495, .inl (nIf sd))), (aNal, .inl (g.2.1 0, 495, .inl (nIf (crH gr ki ma hd L sd)))), (aNlo, .inl (g.2.1 0, 12, .inl (nIf z5))), (aNp, .inl (g.2.1 0, 4096, .inl plI))]) ?_ rfl rfl rfl⟩
          refine x_aload_n dX9_told_50 rfl ?_
          refine x_get dX9_told_51 0 0 inX9 fl_X9_7 rfl rfl (by decide) rfl ?_
          refine x_bipush 104 dX9_told_54 (by decide) ?_
          refine x_bipush 8 dX9_told_56 (by decide) ?_
          refine x_aload_n dX9_told_58 rfl ?_
          refine x_get dX9_told_59 0 0 inX9 fl_X9_7 rfl rfl (by decide) rfl ?_
          refine x_iconst 1 dX9_told_62 (by decide) ?_
          refine x_iald dX9_told_63 1 1 rfl (rfl) (by decide) (by decide) ?_
          refine x_rei (nI (wk + 1)) (rfl) ?_
          refine x_iconst 1 dX9_told_64 (by decide) ?_
          refine x_isub dX9_told_65 ?_
          refine x_rei (nI ((wk + 1) - 1)) (nI_isub (wk + 1) 1 (by omega)) ?_
          refine x_imul dX9_told_66 ?_
          refine x_rei (nI (8 * ((wk + 1) - 1))) (nI_imul 8 ((wk + 1) - 1)) ?_
          refine x_iadd dX9_told_67 ?_
          refine x_rei (nI (104 + (8 * ((wk + 1) - 1)))) (nI_iadd 104 (8 * ((wk + 1) - 1))) ?_
          refine x_iconst 1 dX9_told_68 (by decide) ?_
          refine x_iadd dX9_told_69 ?_
          refine x_rei (nI ((104 + (8 * ((wk + 1) - 1))) + 1)) (nI_addc (104 + (8 * ((wk + 1) - 1))) 1 rfl) ?_
          refine x_iald dX9_told_70 1 ((104 + (8 * ((wk + 1) - 1))) + 1) rfl (rfl) (by omega) (by decide) ?_
          refine x_rei (((wkCells ce wk ru (toH gr ki ma hd L sd) (crH gr ki ma hd L sd) d)) ((8 * ((wk + 1) - 1)) + 1)) (msg_ce (x := (8 * ((wk + 1) - 1)) + 1) (by omega) (by omega)) ?_
          rw [← hQ]
          refine x_iret dX9_told_71 rfl (Nat.le_of_ble_eq_true rfl) (Nat.le_of_ble_eq_true rfl) ?_
          exact ⟨_, _, _, _, _, rfl, rfl, p6⟩
        · have c35 : (nI wk) = 40 := c35
          have c35n := (nI_eq (a := wk) (b := 40) (by omega) (by omega)).mp c35
          exact absurd c35n (by omega)
      · have c17 : ¬ (0 ≤ (nI (plB d 12))) := c17
        have c17n := mt (nI_leI (a := 0) (b := (plB d 12)) (by omega) (by omega)).mpr c17
        exact absurd c17n (by omega)

-- == nbook_b ==
theorem dX9_book_0 : xd cX9_book 0 (.iload_n 1) 1 1 := ⟨by decide +kernel, rfl⟩
theorem dX9_book_1 : xd cX9_book 1 .i2l 1 2 := ⟨by decide +kernel, rfl⟩
theorem dX9_book_2 : xd cX9_book 2 (.lconst 0) 1 3 := ⟨by decide +kernel, rfl⟩
theorem dX9_book_3 : xd cX9_book 3 (.aload_n 0) 1 4 := ⟨by decide +kernel, rfl⟩
theorem dX9_book_4 : xd cX9_book 4 (.getfield 7) 3 7 := ⟨by decide +kernel, rfl⟩
theorem dX9_book_7 : xd cX9_book 7 (.iconst 1) 1 8 := ⟨by decide +kernel, rfl⟩
theorem dX9_book_8 : xd cX9_book 8 .iaload 1 9 := ⟨by decide +kernel, rfl⟩
theorem dX9_book_9 : xd cX9_book 9 (.iconst 1) 1 10 := ⟨by decide +kernel, rfl⟩
theorem dX9_book_10 : xd cX9_book 10 .isub 1 11 := ⟨by decide +kernel, rfl⟩
theorem dX9_book_11 : xd cX9_book 11 .i2l 1 12 := ⟨by decide +kernel, rfl⟩
theorem dX9_book_12 : xd cX9_book 12 (.invokestatic 98) 3 15 := ⟨by decide +kernel, rfl⟩
theorem dX9_book_15 : xj cX9_book 15 (.ifCond .eq) 18 47 := ⟨32, by decide +kernel, rfl, by decide⟩
theorem dX9_book_18 : xd cX9_book 18 (.iload_n 2) 1 19 := ⟨by decide +kernel, rfl⟩
theorem dX9_book_19 : xd cX9_book 19 .i2l 1 20 := ⟨by decide +kernel, rfl⟩
theorem dX9_book_20 : xd cX9_book 20 (.lconst 0) 1 21 := ⟨by decide +kernel, rfl⟩
theorem dX9_book_21 : xd cX9_book 21 (.ldc2_w 96) 3 24 := ⟨by decide +kernel, rfl⟩
theorem dX9_book_24 : xd cX9_book 24 (.invokestatic 98) 3 27 := ⟨by decide +kernel, rfl⟩
theorem dX9_book_27 : xj cX9_book 27 (.ifCond .eq) 30 47 := ⟨20, by decide +kernel, rfl, by decide⟩
theorem dX9_book_30 : xd cX9_book 30 (.aload_n 0) 1 31 := ⟨by decide +kernel, rfl⟩
theorem dX9_book_31 : xd cX9_book 31 (.getfield 7) 3 34 := ⟨by decide +kernel, rfl⟩
theorem dX9_book_34 : xd cX9_book 34 (.bipush 104) 2 36 := ⟨by decide +kernel, rfl⟩
theorem dX9_book_36 : xd cX9_book 36 (.bipush 8) 2 38 := ⟨by decide +kernel, rfl⟩
theorem dX9_book_38 : xd cX9_book 38 (.iload_n 1) 1 39 := ⟨by decide +kernel, rfl⟩
theorem dX9_book_39 : xd cX9_book 39 .imul 1 40 := ⟨by decide +kernel, rfl⟩
theorem dX9_book_40 : xd cX9_book 40 .iadd 1 41 := ⟨by decide +kernel, rfl⟩
theorem dX9_book_41 : xd cX9_book 41 (.iload_n 2) 1 42 := ⟨by decide +kernel, rfl⟩
theorem dX9_book_42 : xd cX9_book 42 .iadd 1 43 := ⟨by decide +kernel, rfl⟩
theorem dX9_book_43 : xd cX9_book 43 .iaload 1 44 := ⟨by decide +kernel, rfl⟩
theorem dX9_book_44 : xj cX9_book 44 .goto 47 53 := ⟨9, by decide +kernel, rfl, by decide⟩
theorem dX9_book_47 : xd cX9_book 47 (.aload_n 0) 1 48 := ⟨by decide +kernel, rfl⟩
theorem dX9_book_48 : xd cX9_book 48 (.ldc 87) 2 50 := ⟨by decide +kernel, rfl⟩
theorem dX9_book_50 : xd cX9_book 50 (.invokevirtual 88) 3 53 := ⟨by decide +kernel, rfl⟩
theorem dX9_book_53 : xd cX9_book 53 .ireturn 1 54 := ⟨by decide +kernel, rfl⟩

set_option maxRecDepth 100000 in
set_option maxHeartbeats 4000000 in
theorem ct_nbook_b (l : Launch) (g : XG) (aN aNs aNk aNf aNr aNp aNb aNa aNt aNbo aNsz aNnu aNl aNal aNlo aNw aNtr aNis aNbg aNow nts nta nop npr nac : Nat) (nkp nbd ntp nnw nsn nwn : Int32) (fi : Nat → Nat) (wq wh : Int32) (gr wk lk sz br : Nat) (z : Int32) (ru ki ma bb hd : Nat → Nat) (ce : Nat → Int32) (hb : wI wq 0 (nI wk - 1) = 0 ∨ wI wh 0 7 = 0) : Ct l g 34 0 0 yX9_book cX9_book 3 (some .int) [.ref aN, .int wq, .int wh] [(aN, .inr (9, [.ref aNs, .ref aNk, .int nkp, .ref aNf, .ref aNr, .ref aNp, .ref aNb, .ref aNa, .ref aNt, .int (nI nts), .ref aNbo, .ref aNsz, .ref aNnu, .int (nI nta), .int (nI nop), .int nbd, .int ntp, .int (nI npr), .int nnw, .int nsn, .int nwn, .ref aNl, .ref aNal, .ref aNlo, .int (nI nac), .ref aNw, .ref aNtr, .ref aNis, .ref aNbg, .ref aNow])), (aNf, .inl (g.2.1 0, 8, .inl (nIf (fnF fi)))), (aNs, .inl (g.2.1 0, 919, .inl (msF gr wk z lk sz br ru ki ma bb ce hd)))] (xpi (fndI 0) [(aN, .inr (9, [.ref aNs, .ref aNk, .int nkp, .ref aNf, .ref aNr, .ref aNp, .ref aNb, .ref aNa, .ref aNt, .int (nI nts), .ref aNbo, .ref aNsz, .ref aNnu, .int (nI nta), .int (nI nop), .int nbd, .int ntp, .int (nI npr), .int nnw, .int nsn, .int nwn, .ref aNl, .ref aNal, .ref aNlo, .int (nI nac), .ref aNw, .ref aNtr, .ref aNis, .ref aNbg, .ref aNow])), (aNf, .inl (g.2.1 0, 8, .inl (nIf (fnF (updN fi 0 (fi 0 + 1)))))), (aNs, .inl (g.2.1 0, 919, .inl (msF gr wk z lk sz br ru ki ma bb ce hd)))]) := by
  refine Ct.ofX (lv := [some (.ref aN), some (.int wq), some (.int wh)]) (by decide) rfl (Nat.le_of_ble_eq_true rfl) (fun κ => ?_)
  generalize hQ : xQ κ g 0 0 _ = Q
  refine x_iload_n dX9_book_0 rfl ?_
  refine x_i2l dX9_book_1 ?_
  refine x_lconst 0 dX9_book_2 (by decide) ?_
  refine x_aload_n dX9_book_3 rfl ?_
  refine x_get dX9_book_4 0 0 inX9 fl_X9_7 rfl rfl (by decide) rfl ?_
  refine x_iconst 1 dX9_book_7 (by decide) ?_
  refine x_iald dX9_book_8 2 1 rfl (rfl) (by decide) (by decide) ?_
  refine x_rei (nI wk) (rfl) ?_
  refine x_iconst 1 dX9_book_9 (by decide) ?_
  refine x_isub dX9_book_10 ?_
  refine x_i2l dX9_book_11 ?_
  refine x_cSi dX9_book_12 ml_X9_98 mX9_isIn (ct_X9_isIn κ.2.1 g wq.toInt64 0 (((nI wk) - 1).toInt64)) rfl (Nat.le_of_ble_eq_true rfl) (by decide) (Nat.le_refl _) (Nat.le_refl _) ?_
  refine x_rei (wI wq 0 ((nI wk) - 1)) (inL_w wq 0 ((nI wk) - 1) (by first | rfl | decide) (by first | rfl | decide)) ?_
  have J15_1 : Xs κ g 34 0 0 cX9_book yX9_book (some .int) Q 0 0 53 [some (.ref aN), some (.int wq), some (.int wh)] [.int (fndI 0)] [(aN, .inr (9, [.ref aNs, .ref aNk, .int nkp, .ref aNf, .ref aNr, .ref aNp, .ref aNb, .ref aNa, .ref aNt, .int (nI nts), .ref aNbo, .ref aNsz, .ref aNnu, .int (nI nta), .int (nI nop), .int nbd, .int ntp, .int (nI npr), .int nnw, .int nsn, .int nwn, .ref aNl, .ref aNal, .ref aNlo, .int (nI nac), .ref aNw, .ref aNtr, .ref aNis, .ref aNbg, .ref aNow])), (aNf, .inl (g.2.1 0, 8, .inl (nIf (fnF (updN fi 0 (fi 0 + 1)))))), (aNs, .inl (g.2.1 0, 919, .inl (msF gr wk z lk sz br ru ki ma bb ce hd)))] := by
    rw [← hQ]
    refine x_iret dX9_book_53 rfl (Nat.le_of_ble_eq_true rfl) (Nat.le_of_ble_eq_true rfl) ?_
    exact ⟨rfl, rfl⟩
  refine x_if_eq dX9_book_15 (fun c15 => ?_) (fun c15 => ?_)
  · have c15 : (wI wq 0 ((nI wk) - 1)) = 0 := c15
    refine x_aload_n dX9_book_47 rfl ?_
    refine x_ldc dX9_book_48 k_X9_87 ?_
    refine x_cVi (ws' := [(aN, .inr (9, [.ref aNs, .ref aNk, .int nkp, .ref aNf, .ref aNr, .ref aNp, .ref aNb, .ref aNa, .ref aNt, .int (nI nts), .ref aNbo, .ref aNsz, .ref aNnu, .int (nI nta), .int (nI nop), .int nbd, .int ntp, .int (nI npr), .int nnw, .int nsn, .int nwn, .ref aNl, .ref aNal, .ref aNlo, .int (nI nac), .ref aNw, .ref aNtr, .ref aNis, .ref aNbg, .ref aNow])), (aNf, .inl (g.2.1 0, 8, .inl (nIf (fnF (updN fi 0 (fi 0 + 1)))))), (aNs, .inl (g.2.1 0, 919, .inl (msF gr wk z lk sz br ru ki ma bb ce hd)))]) dX9_book_50 ml_X9_88 mX9_finds (ct_finds_0 κ.2.1 g aN aNs aNk aNf aNr aNp aNb aNa aNt aNbo aNsz aNnu aNl aNal aNlo aNw aNtr aNis aNbg aNow nts nta nop npr nac nkp nbd ntp nnw nsn nwn fi) [0, 1] rfl rfl 0 rfl rfl rfl (Nat.le_of_ble_eq_true rfl) (by decide) (Nat.le_refl _) (Nat.le_refl _) (rfl : [aN, aNf] = [aN, aNf]) rfl ?_
    exact J15_1
  · have c15 : ¬ ((wI wq 0 ((nI wk) - 1)) = 0) := c15
    refine x_iload_n dX9_book_18 rfl ?_
    refine x_i2l dX9_book_19 ?_
    refine x_lconst 0 dX9_book_20 (by decide) ?_
    refine x_ldc2 dX9_book_21 kl_X9_96 ?_
    refine x_cSi dX9_book_24 ml_X9_98 mX9_isIn (ct_X9_isIn κ.2.1 g wh.toInt64 0 7) rfl (Nat.le_of_ble_eq_true rfl) (by decide) (Nat.le_refl _) (Nat.le_refl _) ?_
    refine x_rei (wI wh 0 7) (inL_w wh 0 7 (by first | rfl | decide) (by first | rfl | decide)) ?_
    refine x_if_eq dX9_book_27 (fun c27 => ?_) (fun c27 => ?_)
    · have c27 : (wI wh 0 7) = 0 := c27
      refine x_aload_n dX9_book_47 rfl ?_
      refine x_ldc dX9_book_48 k_X9_87 ?_
      refine x_cVi (ws' := [(aN, .inr (9, [.ref aNs, .ref aNk, .int nkp, .ref aNf, .ref aNr, .ref aNp, .ref aNb, .ref aNa, .ref aNt, .int (nI nts), .ref aNbo, .ref aNsz, .ref aNnu, .int (nI nta), .int (nI nop), .int nbd, .int ntp, .int (nI npr), .int nnw, .int nsn, .int nwn, .ref aNl, .ref aNal, .ref aNlo, .int (nI nac), .ref aNw, .ref aNtr, .ref aNis, .ref aNbg, .ref aNow])), (aNf, .inl (g.2.1 0, 8, .inl (nIf (fnF (updN fi 0 (fi 0 + 1)))))), (aNs, .inl (g.2.1 0, 919, .inl (msF gr wk z lk sz br ru ki ma bb ce hd)))]) dX9_book_50 ml_X9_88 mX9_finds (ct_finds_0 κ.2.1 g aN aNs aNk aNf aNr aNp aNb aNa aNt aNbo aNsz aNnu aNl aNal aNlo aNw aNtr aNis aNbg aNow nts nta nop npr nac nkp nbd ntp nnw nsn nwn fi) [0, 1] rfl rfl 0 rfl rfl rfl (Nat.le_of_ble_eq_true rfl) (by decide) (Nat.le_refl _) (Nat.le_refl _) (rfl : [aN, aNf] = [aN, aNf]) rfl ?_
      exact J15_1
    · have c27 : ¬ ((wI wh 0 7) = 0) := c27
      exact absurd (hb.resolve_left c15) c27

-- == nbook_o ==
set_option maxRecDepth 100000 in
set_option maxHeartbeats 4000000 in
theorem ct_nbook_o (l : Launch) (g : XG) (aN aNs aNk aNf aNr aNp aNb aNa aNt aNbo aNsz aNnu aNl aNal aNlo aNw aNtr aNis aNbg aNow nts nta nop npr nac : Nat) (nkp nbd ntp nnw nsn nwn : Int32) (fi : Nat → Nat) (gr wk lk sz br : Nat) (z : Int32) (ru ki ma bb hd : Nat → Nat) (ce : Nat → Int32) (w q : Nat) (hw : w < wk ∧ wk ≤ 40) (hq : q < 8) : Ct l g 34 0 0 yX9_book cX9_book 3 (some .int) [.ref aN, .int (nI w), .int (nI q)] [(aN, .inr (9, [.ref aNs, .ref aNk, .int nkp, .ref aNf, .ref aNr, .ref aNp, .ref aNb, .ref aNa, .ref aNt, .int (nI nts), .ref aNbo, .ref aNsz, .ref aNnu, .int (nI nta), .int (nI nop), .int nbd, .int ntp, .int (nI npr), .int nnw, .int nsn, .int nwn, .ref aNl, .ref aNal, .ref aNlo, .int (nI nac), .ref aNw, .ref aNtr, .ref aNis, .ref aNbg, .ref aNow])), (aNf, .inl (g.2.1 0, 8, .inl (nIf (fnF fi)))), (aNs, .inl (g.2.1 0, 919, .inl (msF gr wk z lk sz br ru ki ma bb ce hd)))] (xpi (ce (8 * w + q)) [(aN, .inr (9, [.ref aNs, .ref aNk, .int nkp, .ref aNf, .ref aNr, .ref aNp, .ref aNb, .ref aNa, .ref aNt, .int (nI nts), .ref aNbo, .ref aNsz, .ref aNnu, .int (nI nta), .int (nI nop), .int nbd, .int ntp, .int (nI npr), .int nnw, .int nsn, .int nwn, .ref aNl, .ref aNal, .ref aNlo, .int (nI nac), .ref aNw, .ref aNtr, .ref aNis, .ref aNbg, .ref aNow])), (aNf, .inl (g.2.1 0, 8, .inl (nIf (fnF fi)))), (aNs, .inl (g.2.1 0, 919, .inl (msF gr wk z lk sz br ru ki ma bb ce hd)))]) := by
  refine Ct.ofX (lv := [some (.ref aN), some (.int (nI w)), some (.int (nI q))]) (by decide) rfl (Nat.le_of_ble_eq_true rfl) (fun κ => ?_)
  generalize hQ : xQ κ g 0 0 _ = Q
  refine x_iload_n dX9_book_0 rfl ?_
  refine x_i2l dX9_book_1 ?_
  refine x_lconst 0 dX9_book_2 (by decide) ?_
  refine x_aload_n dX9_book_3 rfl ?_
  refine x_get dX9_book_4 0 0 inX9 fl_X9_7 rfl rfl (by decide) rfl ?_
  refine x_iconst 1 dX9_book_7 (by decide) ?_
  refine x_iald dX9_book_8 2 1 rfl (rfl) (by decide) (by decide) ?_
  refine x_rei (nI wk) (rfl) ?_
  refine x_iconst 1 dX9_book_9 (by decide) ?_
  refine x_isub dX9_book_10 ?_
  refine x_rei (nI (wk - 1)) (nI_isub wk 1 (by omega)) ?_
  refine x_i2l dX9_book_11 ?_
  refine x_cSi dX9_book_12 ml_X9_98 mX9_isIn (ct_X9_isIn κ.2.1 g ((nI w).toInt64) 0 ((nI (wk - 1)).toInt64)) rfl (Nat.le_of_ble_eq_true rfl) (by decide) (Nat.le_refl _) (Nat.le_refl _) ?_
  refine x_rei (wI (nI w) 0 (nI (wk - 1))) (inL_w (nI w) 0 (nI (wk - 1)) (by first | rfl | decide) (by first | rfl | decide)) ?_
  refine x_rei 1 (show wI (nI w) 0 (nI (wk - 1)) = 1 from wI_nat (n := w) (a := 0) (b := (wk - 1)) ⟨by omega, by omega, by omega, by omega⟩) ?_
  refine x_if_eq dX9_book_15 (fun c15 => ?_) (fun c15 => ?_)
  · exact absurd c15 (by decide)
  refine x_iload_n dX9_book_18 rfl ?_
  refine x_i2l dX9_book_19 ?_
  refine x_lconst 0 dX9_book_20 (by decide) ?_
  refine x_ldc2 dX9_book_21 kl_X9_96 ?_
  refine x_cSi dX9_book_24 ml_X9_98 mX9_isIn (ct_X9_isIn κ.2.1 g ((nI q).toInt64) 0 7) rfl (Nat.le_of_ble_eq_true rfl) (by decide) (Nat.le_refl _) (Nat.le_refl _) ?_
  refine x_rei (wI (nI q) 0 7) (inL_w (nI q) 0 7 (by first | rfl | decide) (by first | rfl | decide)) ?_
  refine x_rei 1 (show wI (nI q) 0 7 = 1 from wI_nat (n := q) (a := 0) (b := 7) ⟨by omega, by omega, by omega, by omega⟩) ?_
  refine x_if_eq dX9_book_27 (fun c27 => ?_) (fun c27 => ?_)
  · exact absurd c27 (by decide)
  refine x_aload_n dX9_book_30 rfl ?_
  refine x_get dX9_book_31 0 0 inX9 fl_X9_7 rfl rfl (by decide) rfl ?_
  refine x_bipush 104 dX9_book_34 (by decide) ?_
  refine x_bipush 8 dX9_book_36 (by decide) ?_
  refine x_iload_n dX9_book_38 rfl ?_
  refine x_imul dX9_book_39 ?_
  refine x_rei (nI (8 * w)) (nI_imul 8 w) ?_
  refine x_iadd dX9_book_40 ?_
  refine x_rei (nI (104 + (8 * w))) (nI_iadd 104 (8 * w)) ?_
  refine x_iload_n dX9_book_41 rfl ?_
  refine x_iadd dX9_book_42 ?_
  refine x_rei (nI ((104 + (8 * w)) + q)) (nI_iadd (104 + (8 * w)) q) ?_
  refine x_iald dX9_book_43 2 ((104 + (8 * w)) + q) rfl (rfl) (by omega) (by decide) ?_
  refine x_rei (ce ((8 * w) + q)) (msg_ce (x := (8 * w) + q) (by omega) (by omega)) ?_
  refine x_goto dX9_book_44 ?_
  rw [← hQ]
  refine x_iret dX9_book_53 rfl (Nat.le_of_ble_eq_true rfl) (Nat.le_of_ble_eq_true rfl) ?_
  exact ⟨rfl, rfl⟩

-- == nnow_o ==
theorem dX9_now_0 : xd cX9_now 0 (.aload_n 0) 1 1 := ⟨by decide +kernel, rfl⟩
theorem dX9_now_1 : xd cX9_now 1 (.aload_n 0) 1 2 := ⟨by decide +kernel, rfl⟩
theorem dX9_now_2 : xd cX9_now 2 (.getfield 7) 3 5 := ⟨by decide +kernel, rfl⟩
theorem dX9_now_5 : xd cX9_now 5 (.bipush 17) 2 7 := ⟨by decide +kernel, rfl⟩
theorem dX9_now_7 : xd cX9_now 7 .iaload 1 8 := ⟨by decide +kernel, rfl⟩
theorem dX9_now_8 : xd cX9_now 8 (.invokevirtual 208) 3 11 := ⟨by decide +kernel, rfl⟩
theorem dX9_now_11 : xd cX9_now 11 .l2i 1 12 := ⟨by decide +kernel, rfl⟩
theorem dX9_now_12 : xd cX9_now 12 .ireturn 1 13 := ⟨by decide +kernel, rfl⟩

set_option maxRecDepth 100000 in
set_option maxHeartbeats 4000000 in
theorem ct_nnow_o (l : Launch) (g : XG) (aN aNs aNk aNf aNr aNp aNb aNa aNt aNbo aNsz aNnu aNl aNal aNlo aNw aNtr aNis aNbg aNow nts nta nop npr nac : Nat) (nkp nbd nnw nsn nwn : Int32) (gr wk lk sz br : Nat) (z : Int32) (ru ki ma bb hd : Nat → Nat) (ce : Nat → Int32) (tb nli nal nlo sd : Nat → Nat) (L : Nat) (hgr : gr ≤ 12) (hki : ∀ j, ki j ≤ 7) (hma : ∀ j, ma j ≤ 99999) (hwk : wk ≤ 40) (hlat : latI ce wk = nI L) (hL : L < 4096) (hsz : sz ≤ 60) (hbb : ∀ j, bb j < 256) (hsd : ∀ p, sd p ≤ 99) (hsv : ∀ p, p < 495 → sd p = if lk = 1 then clN (txV bb sz wk L p) else 1) (hlk : lk ≤ 1) (hwo : (nnw = 1 ∧ (nsn = 1 ∨ (nsn = 0 ∧ nli = sd))) ∨ (nnw = 0 ∧ nsn = 0 ∧ nli = sd ∧ nal = crH gr ki ma hd L sd ∧ nac = toH gr ki ma hd L sd ∧ ∀ q, q < gr → nlo q = laN (ki q) (ma q) L sd)) : Ct l g 34 0 0 yX9_now cX9_now 1 (some .int) [.ref aN] [(aN, .inr (9, [.ref aNs, .ref aNk, .int nkp, .ref aNf, .ref aNr, .ref aNp, .ref aNb, .ref aNa, .ref aNt, .int (nI nts), .ref aNbo, .ref aNsz, .ref aNnu, .int (nI nta), .int (nI nop), .int nbd, .int 0, .int (nI npr), .int nnw, .int nsn, .int nwn, .ref aNl, .ref aNal, .ref aNlo, .int (nI nac), .ref aNw, .ref aNtr, .ref aNis, .ref aNbg, .ref aNow])), (aNs, .inl (g.2.1 0, 919, .inl (msF gr wk z lk sz br ru ki ma bb ce hd))), (aNt, .inl (g.2.1 0, 60, .inl (nIf tb))), (aNa, .inl (g.2.1 0, 2475, .inl (nIf fcN))), (aNr, .inl (g.2.1 0, 495, .inl (nIf rowB))), (aNb, .inl (g.2.1 0, 4096, .inl (nIf popN))), (aNl, .inl (g.2.1 0, 495, .inl (nIf nli))), (aNal, .inl (g.2.1 0, 495, .inl (nIf nal))), (aNlo, .inl (g.2.1 0, 12, .inl (nIf nlo)))] (fun vv_ ww_ => ∃ (zat : Nat) (zop : Nat) (zbd : Int32) (zpr : Nat) (lo2 : Nat → Nat), vv_ = some (.int ((potL ru (nI (ru 7)).toInt64 (nI (toH gr ki ma hd L sd)).toInt64).toInt32)) ∧ ww_ = [(aN, .inr (9, [.ref aNs, .ref aNk, .int nkp, .ref aNf, .ref aNr, .ref aNp, .ref aNb, .ref aNa, .ref aNt, .int (nI nts), .ref aNbo, .ref aNsz, .ref aNnu, .int (nI zat), .int (nI zop), .int zbd, .int 0, .int (nI zpr), .int 0, .int 0, .int (wnI nnw nwn), .ref aNl, .ref aNal, .ref aNlo, .int (nI (toH gr ki ma hd L sd)), .ref aNw, .ref aNtr, .ref aNis, .ref aNbg, .ref aNow])), (aNs, .inl (g.2.1 0, 919, .inl (msF gr wk z lk sz br ru ki ma bb ce hd))), (aNt, .inl (g.2.1 0, 60, .inl (nIf tb))), (aNa, .inl (g.2.1 0, 2475, .inl (nIf fcN))), (aNr, .inl (g.2.1 0, 495, .inl (nIf rowB))), (aNb, .inl (g.2.1 0, 4096, .inl (nIf popN))), (aNl, .inl (g.2.1 0, 495, .inl (nIf sd))), (aNal, .inl (g.2.1 0, 495, .inl (nIf (crH gr ki ma hd L sd)))), (aNlo, .inl (g.2.1 0, 12, .inl (nIf lo2)))] ∧ (∀ q, q < gr → lo2 q = laN (ki q) (ma q) L sd)) := by
  refine Ct.ofX (lv := [some (.ref aN)]) (by decide) rfl (Nat.le_of_ble_eq_true rfl) (fun κ => ?_)
  generalize hQ : xQ κ g 0 0 _ = Q
  refine x_aload_n dX9_now_0 rfl ?_
  refine x_aload_n dX9_now_1 rfl ?_
  refine x_get dX9_now_2 0 0 inX9 fl_X9_7 rfl rfl (by decide) rfl ?_
  refine x_bipush 17 dX9_now_5 (by decide) ?_
  refine x_iald dX9_now_7 1 17 rfl (rfl) (by decide) (by decide) ?_
  refine x_rei (nI (ru 7)) (msg_ru (x := 7) (by omega) (by omega)) ?_
  refine x_callV dX9_now_8 ml_X9_208 mX9_potWith (ct_X9_potWith κ.2.1 g aN aNs aNk aNf aNr aNp aNb aNa aNt aNbo aNsz aNnu aNl aNal aNlo aNw aNtr aNis aNbg aNow nts nta nop npr nac nkp nbd nnw nsn nwn gr wk lk sz br z ru ki ma bb hd ce tb nli nal nlo sd L (ru 7) (hgr) (hki) (hma) (hwk) (hlat) (hL) (hsz) (hbb) (hsd) (hsv) (hlk) (hwo)) [0, 1, 2, 3, 4, 5, 6, 7, 8] rfl rfl 0 rfl rfl rfl (Nat.le_of_ble_eq_true rfl) (by decide) (Nat.le_refl _) (Nat.le_refl _) (fun vv ww hp => ?_)
  obtain ⟨z1, z2, z3, z4, z5, rfl, rfl, p6⟩ := hp
  refine ⟨(rfl : [aN, aNs, aNt, aNa, aNr, aNb, aNl, aNal, aNlo] = [aN, aNs, aNt, aNa, aNr, aNb, aNl, aNal, aNlo]), x_eq (lv' := [some (.ref aN)]) (st' := [.long (potL ru (nI (ru 7)).toInt64 (nI (toH gr ki ma hd L sd)).toInt64)]) (ws' := [(aN, .inr (9, [.ref aNs, .ref aNk, .int nkp, .ref aNf, .ref aNr, .ref aNp, .ref aNb, .ref aNa, .ref aNt, .int (nI nts), .ref aNbo, .ref aNsz, .ref aNnu, .int (nI z1), .int (nI z2), .int z3, .int 0, .int (nI z4), .int 0, .int 0, .int (wnI nnw nwn), .ref aNl, .ref aNal, .ref aNlo, .int (nI (toH gr ki ma hd L sd)), .ref aNw, .ref aNtr, .ref aNis, .ref aNbg, .ref aNow])), (aNs, .inl (g.2.1 0, 919, .inl (msF gr wk z lk sz br ru ki ma bb ce hd))), (aNt, .inl (g.2.1 0, 60, .inl (nIf tb))), (aNa, .inl (g.2.1 0, 2475, .inl (nIf fcN))), (aNr, .inl (g.2.1 0, 495, .inl (nIf rowB))), (aNb, .inl (g.2.1 0, 4096, .inl (nIf popN))), (aNl, .inl (g.2.1 0, 495, .inl (nIf sd))), (aNal, .inl (g.2.1 0, 495, .inl (nIf (crH gr ki ma hd L sd)))), (aNlo, .inl (g.2.1 0, 12, .inl (nIf z5)))]) ?_ rfl rfl rfl⟩
  refine x_l2i dX9_now_11 ?_
  rw [← hQ]
  refine x_iret dX9_now_12 rfl (Nat.le_of_ble_eq_true rfl) (Nat.le_of_ble_eq_true rfl) ?_
  exact ⟨_, _, _, _, _, rfl, rfl, p6⟩

-- == nshares_b ==
theorem dX9_shares_0 : xd cX9_shares 0 (.iload_n 1) 1 1 := ⟨by decide +kernel, rfl⟩
theorem dX9_shares_1 : xd cX9_shares 1 (.invokestatic 92) 3 4 := ⟨by decide +kernel, rfl⟩
theorem dX9_shares_4 : xj cX9_shares 4 (.ifCond .ne) 7 14 := ⟨10, by decide +kernel, rfl, by decide⟩
theorem dX9_shares_7 : xd cX9_shares 7 (.aload_n 0) 1 8 := ⟨by decide +kernel, rfl⟩
theorem dX9_shares_8 : xd cX9_shares 8 (.ldc 87) 2 10 := ⟨by decide +kernel, rfl⟩
theorem dX9_shares_10 : xd cX9_shares 10 (.invokevirtual 88) 3 13 := ⟨by decide +kernel, rfl⟩
theorem dX9_shares_13 : xd cX9_shares 13 .ireturn 1 14 := ⟨by decide +kernel, rfl⟩
theorem dX9_shares_14 : xd cX9_shares 14 (.aload_n 0) 1 15 := ⟨by decide +kernel, rfl⟩
theorem dX9_shares_15 : xd cX9_shares 15 (.invokevirtual 198) 3 18 := ⟨by decide +kernel, rfl⟩
theorem dX9_shares_18 : xd cX9_shares 18 (.aload_n 0) 1 19 := ⟨by decide +kernel, rfl⟩
theorem dX9_shares_19 : xd cX9_shares 19 (.getfield 57) 3 22 := ⟨by decide +kernel, rfl⟩
theorem dX9_shares_22 : xd cX9_shares 22 (.iload_n 1) 1 23 := ⟨by decide +kernel, rfl⟩
theorem dX9_shares_23 : xd cX9_shares 23 .iaload 1 24 := ⟨by decide +kernel, rfl⟩
theorem dX9_shares_24 : xd cX9_shares 24 .ireturn 1 25 := ⟨by decide +kernel, rfl⟩

set_option maxRecDepth 100000 in
set_option maxHeartbeats 4000000 in
theorem ct_nshares_b (l : Launch) (g : XG) (aN aNs aNk aNf aNr aNp aNb aNa aNt aNbo aNsz aNnu aNl aNal aNlo aNw aNtr aNis aNbg aNow nts nta nop npr nac : Nat) (nkp nbd ntp nnw nsn nwn : Int32) (fi : Nat → Nat) (pl : Int32) (hb : wI pl 0 494 = 0) : Ct l g 34 0 0 yX9_shares cX9_shares 2 (some .int) [.ref aN, .int pl] [(aN, .inr (9, [.ref aNs, .ref aNk, .int nkp, .ref aNf, .ref aNr, .ref aNp, .ref aNb, .ref aNa, .ref aNt, .int (nI nts), .ref aNbo, .ref aNsz, .ref aNnu, .int (nI nta), .int (nI nop), .int nbd, .int ntp, .int (nI npr), .int nnw, .int nsn, .int nwn, .ref aNl, .ref aNal, .ref aNlo, .int (nI nac), .ref aNw, .ref aNtr, .ref aNis, .ref aNbg, .ref aNow])), (aNf, .inl (g.2.1 0, 8, .inl (nIf (fnF fi))))] (xpi (fndI 0) [(aN, .inr (9, [.ref aNs, .ref aNk, .int nkp, .ref aNf, .ref aNr, .ref aNp, .ref aNb, .ref aNa, .ref aNt, .int (nI nts), .ref aNbo, .ref aNsz, .ref aNnu, .int (nI nta), .int (nI nop), .int nbd, .int ntp, .int (nI npr), .int nnw, .int nsn, .int nwn, .ref aNl, .ref aNal, .ref aNlo, .int (nI nac), .ref aNw, .ref aNtr, .ref aNis, .ref aNbg, .ref aNow])), (aNf, .inl (g.2.1 0, 8, .inl (nIf (fnF (updN fi 0 (fi 0 + 1))))))]) := by
  refine Ct.ofX (lv := [some (.ref aN), some (.int pl)]) (by decide) rfl (Nat.le_of_ble_eq_true rfl) (fun κ => ?_)
  generalize hQ : xQ κ g 0 0 _ = Q
  refine x_iload_n dX9_shares_0 rfl ?_
  refine x_cSi dX9_shares_1 ml_X9_92 mX9_isPlace (ct_X9_isPlace κ.2.1 g pl) rfl (Nat.le_of_ble_eq_true rfl) (by decide) (Nat.le_refl _) (Nat.le_refl _) ?_
  refine x_if_ne dX9_shares_4 (fun c4 => ?_) (fun c4 => ?_)
  · have c4 : ¬ ((wI pl 0 494) = 0) := c4
    exact absurd hb c4
  · have c4 : (wI pl 0 494) = 0 := c4
    refine x_aload_n dX9_shares_7 rfl ?_
    refine x_ldc dX9_shares_8 k_X9_87 ?_
    refine x_cVi (ws' := [(aN, .inr (9, [.ref aNs, .ref aNk, .int nkp, .ref aNf, .ref aNr, .ref aNp, .ref aNb, .ref aNa, .ref aNt, .int (nI nts), .ref aNbo, .ref aNsz, .ref aNnu, .int (nI nta), .int (nI nop), .int nbd, .int ntp, .int (nI npr), .int nnw, .int nsn, .int nwn, .ref aNl, .ref aNal, .ref aNlo, .int (nI nac), .ref aNw, .ref aNtr, .ref aNis, .ref aNbg, .ref aNow])), (aNf, .inl (g.2.1 0, 8, .inl (nIf (fnF (updN fi 0 (fi 0 + 1))))))]) dX9_shares_10 ml_X9_88 mX9_finds (ct_finds_0 κ.2.1 g aN aNs aNk aNf aNr aNp aNb aNa aNt aNbo aNsz aNnu aNl aNal aNlo aNw aNtr aNis aNbg aNow nts nta nop npr nac nkp nbd ntp nnw nsn nwn fi) [0, 1] rfl rfl 0 rfl rfl rfl (Nat.le_of_ble_eq_true rfl) (by decide) (Nat.le_refl _) (Nat.le_refl _) (rfl : [aN, aNf] = [aN, aNf]) rfl ?_
    rw [← hQ]
    refine x_iret dX9_shares_13 rfl (Nat.le_of_ble_eq_true rfl) (Nat.le_of_ble_eq_true rfl) ?_
    exact ⟨rfl, rfl⟩

-- == nshares_o ==
set_option maxRecDepth 100000 in
set_option maxHeartbeats 4000000 in
theorem ct_nshares_o (l : Launch) (g : XG) (aN aNs aNk aNf aNr aNp aNb aNa aNt aNbo aNsz aNnu aNl aNal aNlo aNw aNtr aNis aNbg aNow nts nta nop npr nac : Nat) (nkp nbd nnw nsn nwn : Int32) (gr wk lk sz br : Nat) (z : Int32) (ru ki ma bb hd : Nat → Nat) (ce : Nat → Int32) (tb nli nal nlo sd : Nat → Nat) (L : Nat) (p : Nat) (hgr : gr ≤ 12) (hki : ∀ j, ki j ≤ 7) (hma : ∀ j, ma j ≤ 99999) (hwk : wk ≤ 40) (hlat : latI ce wk = nI L) (hL : L < 4096) (hsz : sz ≤ 60) (hbb : ∀ j, bb j < 256) (hsd : ∀ p, sd p ≤ 99) (hsv : ∀ p, p < 495 → sd p = if lk = 1 then clN (txV bb sz wk L p) else 1) (hlk : lk ≤ 1) (hwo : (nnw = 1 ∧ (nsn = 1 ∨ (nsn = 0 ∧ nli = sd))) ∨ (nnw = 0 ∧ nsn = 0 ∧ nli = sd ∧ nal = crH gr ki ma hd L sd ∧ nac = toH gr ki ma hd L sd ∧ ∀ q, q < gr → nlo q = laN (ki q) (ma q) L sd)) (hp : p < 495) : Ct l g 34 0 0 yX9_shares cX9_shares 2 (some .int) [.ref aN, .int (nI p)] [(aN, .inr (9, [.ref aNs, .ref aNk, .int nkp, .ref aNf, .ref aNr, .ref aNp, .ref aNb, .ref aNa, .ref aNt, .int (nI nts), .ref aNbo, .ref aNsz, .ref aNnu, .int (nI nta), .int (nI nop), .int nbd, .int 0, .int (nI npr), .int nnw, .int nsn, .int nwn, .ref aNl, .ref aNal, .ref aNlo, .int (nI nac), .ref aNw, .ref aNtr, .ref aNis, .ref aNbg, .ref aNow])), (aNs, .inl (g.2.1 0, 919, .inl (msF gr wk z lk sz br ru ki ma bb ce hd))), (aNt, .inl (g.2.1 0, 60, .inl (nIf tb))), (aNa, .inl (g.2.1 0, 2475, .inl (nIf fcN))), (aNr, .inl (g.2.1 0, 495, .inl (nIf rowB))), (aNb, .inl (g.2.1 0, 4096, .inl (nIf popN))), (aNl, .inl (g.2.1 0, 495, .inl (nIf nli))), (aNal, .inl (g.2.1 0, 495, .inl (nIf nal))), (aNlo, .inl (g.2.1 0, 12, .inl (nIf nlo)))] (fun vv_ ww_ => ∃ (zat : Nat) (zop : Nat) (zbd : Int32) (zpr : Nat) (lo2 : Nat → Nat), vv_ = some (.int (nI (crH gr ki ma hd L sd p))) ∧ ww_ = [(aN, .inr (9, [.ref aNs, .ref aNk, .int nkp, .ref aNf, .ref aNr, .ref aNp, .ref aNb, .ref aNa, .ref aNt, .int (nI nts), .ref aNbo, .ref aNsz, .ref aNnu, .int (nI zat), .int (nI zop), .int zbd, .int 0, .int (nI zpr), .int 0, .int 0, .int (wnI nnw nwn), .ref aNl, .ref aNal, .ref aNlo, .int (nI (toH gr ki ma hd L sd)), .ref aNw, .ref aNtr, .ref aNis, .ref aNbg, .ref aNow])), (aNs, .inl (g.2.1 0, 919, .inl (msF gr wk z lk sz br ru ki ma bb ce hd))), (aNt, .inl (g.2.1 0, 60, .inl (nIf tb))), (aNa, .inl (g.2.1 0, 2475, .inl (nIf fcN))), (aNr, .inl (g.2.1 0, 495, .inl (nIf rowB))), (aNb, .inl (g.2.1 0, 4096, .inl (nIf popN))), (aNl, .inl (g.2.1 0, 495, .inl (nIf sd))), (aNal, .inl (g.2.1 0, 495, .inl (nIf (crH gr ki ma hd L sd)))), (aNlo, .inl (g.2.1 0, 12, .inl (nIf lo2)))] ∧ (∀ q, q < gr → lo2 q = laN (ki q) (ma q) L sd)) := by
  refine Ct.ofX (lv := [some (.ref aN), some (.int (nI p))]) (by decide) rfl (Nat.le_of_ble_eq_true rfl) (fun κ => ?_)
  generalize hQ : xQ κ g 0 0 _ = Q
  refine x_iload_n dX9_shares_0 rfl ?_
  refine x_cSi dX9_shares_1 ml_X9_92 mX9_isPlace (ct_nPlace_n κ.2.1 g p (hp)) rfl (Nat.le_of_ble_eq_true rfl) (by decide) (Nat.le_refl _) (Nat.le_refl _) ?_
  refine x_if_ne dX9_shares_4 (fun c4 => ?_) (fun c4 => ?_)
  rotate_left
  · exact absurd c4 (by decide)
  refine x_aload_n dX9_shares_14 rfl ?_
  refine x_callV dX9_shares_15 ml_X9_198 mX9_works (ct_X9_works κ.2.1 g aN aNs aNk aNf aNr aNp aNb aNa aNt aNbo aNsz aNnu aNl aNal aNlo aNw aNtr aNis aNbg aNow nts nta nop npr nac nkp nbd nnw nsn nwn gr wk lk sz br z ru ki ma bb hd ce tb nli nal nlo sd L (hgr) (hki) (hma) (hwk) (hlat) (hL) (hsz) (hbb) (hsd) (hsv) (hlk) (hwo)) [0, 1, 2, 3, 4, 5, 6, 7, 8] rfl rfl 0 rfl rfl rfl (Nat.le_of_ble_eq_true rfl) (by decide) (Nat.le_refl _) (Nat.le_refl _) (fun vv ww hp => ?_)
  obtain ⟨z1, z2, z3, z4, z5, rfl, rfl, p6⟩ := hp
  refine ⟨(rfl : [aN, aNs, aNt, aNa, aNr, aNb, aNl, aNal, aNlo] = [aN, aNs, aNt, aNa, aNr, aNb, aNl, aNal, aNlo]), x_eq (lv' := [some (.ref aN), some (.int (nI p))]) (st' := []) (ws' := [(aN, .inr (9, [.ref aNs, .ref aNk, .int nkp, .ref aNf, .ref aNr, .ref aNp, .ref aNb, .ref aNa, .ref aNt, .int (nI nts), .ref aNbo, .ref aNsz, .ref aNnu, .int (nI z1), .int (nI z2), .int z3, .int 0, .int (nI z4), .int 0, .int 0, .int (wnI nnw nwn), .ref aNl, .ref aNal, .ref aNlo, .int (nI (toH gr ki ma hd L sd)), .ref aNw, .ref aNtr, .ref aNis, .ref aNbg, .ref aNow])), (aNs, .inl (g.2.1 0, 919, .inl (msF gr wk z lk sz br ru ki ma bb ce hd))), (aNt, .inl (g.2.1 0, 60, .inl (nIf tb))), (aNa, .inl (g.2.1 0, 2475, .inl (nIf fcN))), (aNr, .inl (g.2.1 0, 495, .inl (nIf rowB))), (aNb, .inl (g.2.1 0, 4096, .inl (nIf popN))), (aNl, .inl (g.2.1 0, 495, .inl (nIf sd))), (aNal, .inl (g.2.1 0, 495, .inl (nIf (crH gr ki ma hd L sd)))), (aNlo, .inl (g.2.1 0, 12, .inl (nIf z5)))]) ?_ rfl rfl rfl⟩
  refine x_aload_n dX9_shares_18 rfl ?_
  refine x_get dX9_shares_19 0 22 inX9 fl_X9_57 rfl rfl (by decide) rfl ?_
  refine x_iload_n dX9_shares_22 rfl ?_
  refine x_iald dX9_shares_23 7 p rfl (rfl) (by omega) (by decide) ?_
  rw [← hQ]
  refine x_iret dX9_shares_24 rfl (Nat.le_of_ble_eq_true rfl) (Nat.le_of_ble_eq_true rfl) ?_
  exact ⟨_, _, _, _, _, rfl, rfl, p6⟩

-- == X9_drawAt ==
theorem dX9_drawAt_0 : xd cX9_drawAt 0 (.aload_n 0) 1 1 := ⟨by decide +kernel, rfl⟩
theorem dX9_drawAt_1 : xd cX9_drawAt 1 (.getfield 7) 3 4 := ⟨by decide +kernel, rfl⟩
theorem dX9_drawAt_4 : xd cX9_drawAt 4 (.bipush 104) 2 6 := ⟨by decide +kernel, rfl⟩
theorem dX9_drawAt_6 : xd cX9_drawAt 6 (.bipush 8) 2 8 := ⟨by decide +kernel, rfl⟩
theorem dX9_drawAt_8 : xd cX9_drawAt 8 (.iload_n 1) 1 9 := ⟨by decide +kernel, rfl⟩
theorem dX9_drawAt_9 : xd cX9_drawAt 9 .imul 1 10 := ⟨by decide +kernel, rfl⟩
theorem dX9_drawAt_10 : xd cX9_drawAt 10 .iadd 1 11 := ⟨by decide +kernel, rfl⟩
theorem dX9_drawAt_11 : xd cX9_drawAt 11 .iaload 1 12 := ⟨by decide +kernel, rfl⟩
theorem dX9_drawAt_12 : xd cX9_drawAt 12 .ireturn 1 13 := ⟨by decide +kernel, rfl⟩

set_option maxRecDepth 100000 in
set_option maxHeartbeats 4000000 in
theorem ct_X9_drawAt (l : Launch) (g : XG) (aN aNs aNk aNf aNr aNp aNb aNa aNt aNbo aNsz aNnu aNl aNal aNlo aNw aNtr aNis aNbg aNow nts nta nop npr nac : Nat) (nkp nbd ntp nnw nsn nwn : Int32) (gr wk lk sz br : Nat) (z : Int32) (ru ki ma bb hd : Nat → Nat) (ce : Nat → Int32) (w v : Nat) (hw : w < 40) (hd0 : ce (8 * w) = nI v) : Ct l g 1 0 0 yX9_drawAt cX9_drawAt 2 (some .int) [.ref aN, .int (nI w)] [(aN, .inr (9, [.ref aNs, .ref aNk, .int nkp, .ref aNf, .ref aNr, .ref aNp, .ref aNb, .ref aNa, .ref aNt, .int (nI nts), .ref aNbo, .ref aNsz, .ref aNnu, .int (nI nta), .int (nI nop), .int nbd, .int ntp, .int (nI npr), .int nnw, .int nsn, .int nwn, .ref aNl, .ref aNal, .ref aNlo, .int (nI nac), .ref aNw, .ref aNtr, .ref aNis, .ref aNbg, .ref aNow])), (aNs, .inl (g.2.1 0, 919, .inl (msF gr wk z lk sz br ru ki ma bb ce hd)))] (xpi (nI (v)) [(aN, .inr (9, [.ref aNs, .ref aNk, .int nkp, .ref aNf, .ref aNr, .ref aNp, .ref aNb, .ref aNa, .ref aNt, .int (nI nts), .ref aNbo, .ref aNsz, .ref aNnu, .int (nI nta), .int (nI nop), .int nbd, .int ntp, .int (nI npr), .int nnw, .int nsn, .int nwn, .ref aNl, .ref aNal, .ref aNlo, .int (nI nac), .ref aNw, .ref aNtr, .ref aNis, .ref aNbg, .ref aNow])), (aNs, .inl (g.2.1 0, 919, .inl (msF gr wk z lk sz br ru ki ma bb ce hd)))]) := by
  refine Ct.ofX (lv := [some (.ref aN), some (.int (nI w))]) (by decide) rfl (Nat.le_of_ble_eq_true rfl) (fun κ => ?_)
  generalize hQ : xQ κ g 0 0 _ = Q
  refine x_aload_n dX9_drawAt_0 rfl ?_
  refine x_get dX9_drawAt_1 0 0 inX9 fl_X9_7 rfl rfl (by decide) rfl ?_
  refine x_bipush 104 dX9_drawAt_4 (by decide) ?_
  refine x_bipush 8 dX9_drawAt_6 (by decide) ?_
  refine x_iload_n dX9_drawAt_8 rfl ?_
  refine x_imul dX9_drawAt_9 ?_
  refine x_rei (nI (8 * w)) (nI_imul 8 w) ?_
  refine x_iadd dX9_drawAt_10 ?_
  refine x_rei (nI (104 + (8 * w))) (nI_iadd 104 (8 * w)) ?_
  refine x_iald dX9_drawAt_11 1 (104 + (8 * w)) rfl (rfl) (by omega) (by decide) ?_
  refine x_rei (ce (8 * w)) (msg_ce (x := (8 * w)) (by omega) (by omega)) ?_
  refine x_rei (nI v) (hd0) ?_
  rw [← hQ]
  refine x_iret dX9_drawAt_12 rfl (Nat.le_of_ble_eq_true rfl) (Nat.le_of_ble_eq_true rfl) ?_
  exact ⟨rfl, rfl⟩

-- == X9_timesOf ==
theorem dX9_timesOf_0 : xd cX9_timesOf 0 (.iconst 0) 1 1 := ⟨by decide +kernel, rfl⟩
theorem dX9_timesOf_1 : xd cX9_timesOf 1 (.istore_n 2) 1 2 := ⟨by decide +kernel, rfl⟩
theorem dX9_timesOf_2 : xd cX9_timesOf 2 (.iconst 0) 1 3 := ⟨by decide +kernel, rfl⟩
theorem dX9_timesOf_3 : xd cX9_timesOf 3 (.istore_n 3) 1 4 := ⟨by decide +kernel, rfl⟩
theorem dX9_timesOf_4 : xd cX9_timesOf 4 (.iload_n 3) 1 5 := ⟨by decide +kernel, rfl⟩
theorem dX9_timesOf_5 : xd cX9_timesOf 5 (.aload_n 0) 1 6 := ⟨by decide +kernel, rfl⟩
theorem dX9_timesOf_6 : xd cX9_timesOf 6 (.getfield 7) 3 9 := ⟨by decide +kernel, rfl⟩
theorem dX9_timesOf_9 : xd cX9_timesOf 9 (.iconst 1) 1 10 := ⟨by decide +kernel, rfl⟩
theorem dX9_timesOf_10 : xd cX9_timesOf 10 .iaload 1 11 := ⟨by decide +kernel, rfl⟩
theorem dX9_timesOf_11 : xj cX9_timesOf 11 (.if_icmp .ge) 14 40 := ⟨29, by decide +kernel, rfl, by decide⟩
theorem dX9_timesOf_14 : xd cX9_timesOf 14 (.iload_n 2) 1 15 := ⟨by decide +kernel, rfl⟩
theorem dX9_timesOf_15 : xd cX9_timesOf 15 (.aload_n 0) 1 16 := ⟨by decide +kernel, rfl⟩
theorem dX9_timesOf_16 : xd cX9_timesOf 16 (.iload_n 3) 1 17 := ⟨by decide +kernel, rfl⟩
theorem dX9_timesOf_17 : xd cX9_timesOf 17 (.invokevirtual 248) 3 20 := ⟨by decide +kernel, rfl⟩
theorem dX9_timesOf_20 : xd cX9_timesOf 20 (.iload_n 1) 1 21 := ⟨by decide +kernel, rfl⟩
theorem dX9_timesOf_21 : xd cX9_timesOf 21 (.invokestatic 83) 3 24 := ⟨by decide +kernel, rfl⟩
theorem dX9_timesOf_24 : xj cX9_timesOf 24 (.ifCond .eq) 27 31 := ⟨7, by decide +kernel, rfl, by decide⟩
theorem dX9_timesOf_27 : xd cX9_timesOf 27 (.iconst 1) 1 28 := ⟨by decide +kernel, rfl⟩
theorem dX9_timesOf_28 : xj cX9_timesOf 28 .goto 31 32 := ⟨4, by decide +kernel, rfl, by decide⟩
theorem dX9_timesOf_31 : xd cX9_timesOf 31 (.iconst 0) 1 32 := ⟨by decide +kernel, rfl⟩
theorem dX9_timesOf_32 : xd cX9_timesOf 32 .iadd 1 33 := ⟨by decide +kernel, rfl⟩
theorem dX9_timesOf_33 : xd cX9_timesOf 33 (.istore_n 2) 1 34 := ⟨by decide +kernel, rfl⟩
theorem dX9_timesOf_34 : xd cX9_timesOf 34 (.iinc 3 1) 3 37 := ⟨by decide +kernel, rfl⟩
theorem dX9_timesOf_37 : xj cX9_timesOf 37 .goto 40 4 := ⟨(-33), by decide +kernel, rfl, by decide⟩
theorem dX9_timesOf_40 : xd cX9_timesOf 40 (.iload_n 2) 1 41 := ⟨by decide +kernel, rfl⟩
theorem dX9_timesOf_41 : xd cX9_timesOf 41 .ireturn 1 42 := ⟨by decide +kernel, rfl⟩

set_option maxRecDepth 100000 in
set_option maxHeartbeats 4000000 in
theorem ct_X9_timesOf (l : Launch) (g : XG) (aN aNs aNk aNf aNr aNp aNb aNa aNt aNbo aNsz aNnu aNl aNal aNlo aNw aNtr aNis aNbg aNow nts nta nop npr nac : Nat) (nkp nbd ntp nnw nsn nwn : Int32) (gr wk lk sz br : Nat) (z : Int32) (ru ki ma bb hd : Nat → Nat) (ce : Nat → Int32) (n : Nat) (dr : Nat → Nat) (hwk : wk ≤ 40) (hdw : ∀ w, w < wk → ce (8 * w) = nI (dr w)) (hn : n < 12) : Ct l g 2 0 0 yX9_timesOf cX9_timesOf 4 (some .int) [.ref aN, .int (nI n)] [(aN, .inr (9, [.ref aNs, .ref aNk, .int nkp, .ref aNf, .ref aNr, .ref aNp, .ref aNb, .ref aNa, .ref aNt, .int (nI nts), .ref aNbo, .ref aNsz, .ref aNnu, .int (nI nta), .int (nI nop), .int nbd, .int ntp, .int (nI npr), .int nnw, .int nsn, .int nwn, .ref aNl, .ref aNal, .ref aNlo, .int (nI nac), .ref aNw, .ref aNtr, .ref aNis, .ref aNbg, .ref aNow])), (aNs, .inl (g.2.1 0, 919, .inl (msF gr wk z lk sz br ru ki ma bb ce hd)))] (xpi (nI (sumN (fun w => bitN (dr w) n) wk)) [(aN, .inr (9, [.ref aNs, .ref aNk, .int nkp, .ref aNf, .ref aNr, .ref aNp, .ref aNb, .ref aNa, .ref aNt, .int (nI nts), .ref aNbo, .ref aNsz, .ref aNnu, .int (nI nta), .int (nI nop), .int nbd, .int ntp, .int (nI npr), .int nnw, .int nsn, .int nwn, .ref aNl, .ref aNal, .ref aNlo, .int (nI nac), .ref aNw, .ref aNtr, .ref aNis, .ref aNbg, .ref aNow])), (aNs, .inl (g.2.1 0, 919, .inl (msF gr wk z lk sz br ru ki ma bb ce hd)))]) := by
  refine Ct.ofX (lv := [some (.ref aN), some (.int (nI n)), none, none]) (by decide) rfl (Nat.le_of_ble_eq_true rfl) (fun κ => ?_)
  generalize hQ : xQ κ g 0 0 _ = Q
  refine x_iconst 0 dX9_timesOf_0 (by decide) ?_
  refine x_istore_n (lv' := [some (.ref aN), some (.int (nI n)), some (.int 0), none]) dX9_timesOf_1 (xlt rfl) rfl ?_
  refine x_iconst 0 dX9_timesOf_2 (by decide) ?_
  refine x_istore_n (lv' := [some (.ref aN), some (.int (nI n)), some (.int 0), some (.int 0)]) dX9_timesOf_3 (xlt rfl) rfl ?_
  have L4_1 : ∀ (i : Nat), i ≤ wk → ∀ (tm : Nat), tm = sumN (fun w => bitN (dr w) n) i → Xs κ g 2 0 0 cX9_timesOf yX9_timesOf (some .int) Q 0 0 4 [some (.ref aN), some (.int (nI n)), some (.int (nI tm)), some (.int (nI i))] [] [(aN, .inr (9, [.ref aNs, .ref aNk, .int nkp, .ref aNf, .ref aNr, .ref aNp, .ref aNb, .ref aNa, .ref aNt, .int (nI nts), .ref aNbo, .ref aNsz, .ref aNnu, .int (nI nta), .int (nI nop), .int nbd, .int ntp, .int (nI npr), .int nnw, .int nsn, .int nwn, .ref aNl, .ref aNal, .ref aNlo, .int (nI nac), .ref aNw, .ref aNtr, .ref aNis, .ref aNbg, .ref aNow])), (aNs, .inl (g.2.1 0, 919, .inl (msF gr wk z lk sz br ru ki ma bb ce hd)))] := by
    refine upTo wk (fun i hi4 ih4 => ?_)
    intro tm etm
    subst etm
    refine x_iload_n dX9_timesOf_4 rfl ?_
    refine x_aload_n dX9_timesOf_5 rfl ?_
    refine x_get dX9_timesOf_6 0 0 inX9 fl_X9_7 rfl rfl (by decide) rfl ?_
    refine x_iconst 1 dX9_timesOf_9 (by decide) ?_
    refine x_iald dX9_timesOf_10 1 1 rfl (rfl) (by decide) (by decide) ?_
    refine x_rei (nI wk) (rfl) ?_
    refine x_icmp_ge dX9_timesOf_11 (fun c11 => ?_) (fun c11 => ?_)
    · have c11 : (nI wk) ≤ (nI i) := c11
      have c11n := (nI_leI (a := wk) (b := i) (by omega) (by omega)).mp c11
      have hxc11 : i = wk := by omega
      try rw [hxc11]
      refine x_iload_n dX9_timesOf_40 rfl ?_
      rw [← hQ]
      refine x_iret dX9_timesOf_41 rfl (Nat.le_of_ble_eq_true rfl) (Nat.le_of_ble_eq_true rfl) ?_
      exact ⟨rfl, rfl⟩
    · have c11 : ¬ ((nI wk) ≤ (nI i)) := c11
      have c11n := mt (nI_leI (a := wk) (b := i) (by omega) (by omega)).mpr c11
      refine x_iload_n dX9_timesOf_14 rfl ?_
      refine x_aload_n dX9_timesOf_15 rfl ?_
      refine x_iload_n dX9_timesOf_16 rfl ?_
      refine x_cVi0 dX9_timesOf_17 ml_X9_248 mX9_drawAt (ct_X9_drawAt κ.2.1 g aN aNs aNk aNf aNr aNp aNb aNa aNt aNbo aNsz aNnu aNl aNal aNlo aNw aNtr aNis aNbg aNow nts nta nop npr nac nkp nbd ntp nnw nsn nwn gr wk lk sz br z ru ki ma bb hd ce i (dr i) (by omega) (hdw i (by omega))) [0, 1] rfl rfl 0 rfl rfl rfl (Nat.le_of_ble_eq_true rfl) (by decide) (Nat.le_refl _) (Nat.le_refl _) ?_
      refine x_iload_n dX9_timesOf_20 rfl ?_
      refine x_cSi dX9_timesOf_21 ml_X9_83 mX9_has (ct_X9_has κ.2.1 g (dr i) n (by omega)) rfl (Nat.le_of_ble_eq_true rfl) (by decide) (Nat.le_refl _) (Nat.le_refl _) ?_
      have J24_3 : ∀ (v2 : Int32), v2 = (if (nI (bitN (dr i) n)) = 0 then 0 else 1) → Xs κ g 2 0 0 cX9_timesOf yX9_timesOf (some .int) Q 0 0 32 [some (.ref aN), some (.int (nI n)), some (.int (nI ((sumN (fun w => bitN (dr w) n) i)))), some (.int (nI i))] [.int v2, .int (nI ((sumN (fun w => bitN (dr w) n) i)))] [(aN, .inr (9, [.ref aNs, .ref aNk, .int nkp, .ref aNf, .ref aNr, .ref aNp, .ref aNb, .ref aNa, .ref aNt, .int (nI nts), .ref aNbo, .ref aNsz, .ref aNnu, .int (nI nta), .int (nI nop), .int nbd, .int ntp, .int (nI npr), .int nnw, .int nsn, .int nwn, .ref aNl, .ref aNal, .ref aNlo, .int (nI nac), .ref aNw, .ref aNtr, .ref aNis, .ref aNbg, .ref aNow])), (aNs, .inl (g.2.1 0, 919, .inl (msF gr wk z lk sz br ru ki ma bb ce hd)))] := by
        intro v2 ev2
        refine x_rei (nI (bitN (dr i) n)) (by simp only [ev2]; exact bit_if0 _ _) ?_
        refine x_iadd dX9_timesOf_32 ?_
        refine x_rei (nI ((sumN (fun w => bitN (dr w) n) i) + (bitN (dr i) n))) (nI_iadd (sumN (fun w => bitN (dr w) n) i) (bitN (dr i) n)) ?_
        refine x_istore_n (lv' := [some (.ref aN), some (.int (nI n)), some (.int (nI ((sumN (fun w => bitN (dr w) n) i) + (bitN (dr i) n)))), some (.int (nI i))]) dX9_timesOf_33 (xlt rfl) rfl ?_
        refine x_iinc (lv' := [some (.ref aN), some (.int (nI n)), some (.int (nI ((sumN (fun w => bitN (dr w) n) i) + (bitN (dr i) n)))), some (.int (nI (i + 1)))]) (nI (i + 1)) dX9_timesOf_34 rfl (nI_addc i 1 rfl) rfl ?_
        refine x_goto dX9_timesOf_37 ?_
        exact ih4 (by omega) ((sumN (fun w => bitN (dr w) n) i) + (bitN (dr i) n)) (by rfl)
      refine x_if_eq dX9_timesOf_24 (fun c24 => ?_) (fun c24 => ?_)
      · have c24 : (nI (bitN (dr i) n)) = 0 := c24
        refine x_iconst 0 dX9_timesOf_31 (by decide) ?_
        exact J24_3 _ (if_pos c24).symm
      · have c24 : ¬ ((nI (bitN (dr i) n)) = 0) := c24
        refine x_iconst 1 dX9_timesOf_27 (by decide) ?_
        refine x_goto dX9_timesOf_28 ?_
        exact J24_3 _ (if_neg c24).symm
  exact L4_1 0 (Nat.zero_le _) 0 (by rfl)

-- == ndue_b ==
theorem dX9_due_0 : xd cX9_due 0 (.iload_n 1) 1 1 := ⟨by decide +kernel, rfl⟩
theorem dX9_due_1 : xd cX9_due 1 .i2l 1 2 := ⟨by decide +kernel, rfl⟩
theorem dX9_due_2 : xd cX9_due 2 (.lconst 0) 1 3 := ⟨by decide +kernel, rfl⟩
theorem dX9_due_3 : xd cX9_due 3 (.ldc2_w 251) 3 6 := ⟨by decide +kernel, rfl⟩
theorem dX9_due_6 : xd cX9_due 6 (.invokestatic 98) 3 9 := ⟨by decide +kernel, rfl⟩
theorem dX9_due_9 : xj cX9_due 9 (.ifCond .ne) 12 19 := ⟨10, by decide +kernel, rfl, by decide⟩
theorem dX9_due_12 : xd cX9_due 12 (.aload_n 0) 1 13 := ⟨by decide +kernel, rfl⟩
theorem dX9_due_13 : xd cX9_due 13 (.ldc 87) 2 15 := ⟨by decide +kernel, rfl⟩
theorem dX9_due_15 : xd cX9_due 15 (.invokevirtual 88) 3 18 := ⟨by decide +kernel, rfl⟩
theorem dX9_due_18 : xd cX9_due 18 .ireturn 1 19 := ⟨by decide +kernel, rfl⟩
theorem dX9_due_19 : xd cX9_due 19 (.iconst 0) 1 20 := ⟨by decide +kernel, rfl⟩
theorem dX9_due_20 : xd cX9_due 20 (.istore_n 2) 1 21 := ⟨by decide +kernel, rfl⟩
theorem dX9_due_21 : xd cX9_due 21 (.iload_n 2) 1 22 := ⟨by decide +kernel, rfl⟩
theorem dX9_due_22 : xd cX9_due 22 (.aload_n 0) 1 23 := ⟨by decide +kernel, rfl⟩
theorem dX9_due_23 : xd cX9_due 23 (.getfield 7) 3 26 := ⟨by decide +kernel, rfl⟩
theorem dX9_due_26 : xd cX9_due 26 (.iconst 1) 1 27 := ⟨by decide +kernel, rfl⟩
theorem dX9_due_27 : xd cX9_due 27 .iaload 1 28 := ⟨by decide +kernel, rfl⟩
theorem dX9_due_28 : xj cX9_due 28 (.if_icmp .ge) 31 58 := ⟨30, by decide +kernel, rfl, by decide⟩
theorem dX9_due_31 : xd cX9_due 31 (.aload_n 0) 1 32 := ⟨by decide +kernel, rfl⟩
theorem dX9_due_32 : xd cX9_due 32 (.aload_n 0) 1 33 := ⟨by decide +kernel, rfl⟩
theorem dX9_due_33 : xd cX9_due 33 (.getfield 7) 3 36 := ⟨by decide +kernel, rfl⟩
theorem dX9_due_36 : xd cX9_due 36 (.iconst 1) 1 37 := ⟨by decide +kernel, rfl⟩
theorem dX9_due_37 : xd cX9_due 37 .iaload 1 38 := ⟨by decide +kernel, rfl⟩
theorem dX9_due_38 : xd cX9_due 38 (.iconst 1) 1 39 := ⟨by decide +kernel, rfl⟩
theorem dX9_due_39 : xd cX9_due 39 .isub 1 40 := ⟨by decide +kernel, rfl⟩
theorem dX9_due_40 : xd cX9_due 40 (.iload_n 2) 1 41 := ⟨by decide +kernel, rfl⟩
theorem dX9_due_41 : xd cX9_due 41 .isub 1 42 := ⟨by decide +kernel, rfl⟩
theorem dX9_due_42 : xd cX9_due 42 (.invokevirtual 248) 3 45 := ⟨by decide +kernel, rfl⟩
theorem dX9_due_45 : xd cX9_due 45 (.iload_n 1) 1 46 := ⟨by decide +kernel, rfl⟩
theorem dX9_due_46 : xd cX9_due 46 (.invokestatic 83) 3 49 := ⟨by decide +kernel, rfl⟩
theorem dX9_due_49 : xj cX9_due 49 (.ifCond .ne) 52 58 := ⟨9, by decide +kernel, rfl, by decide⟩
theorem dX9_due_52 : xd cX9_due 52 (.iinc 2 1) 3 55 := ⟨by decide +kernel, rfl⟩
theorem dX9_due_55 : xj cX9_due 55 .goto 58 21 := ⟨(-34), by decide +kernel, rfl, by decide⟩
theorem dX9_due_58 : xd cX9_due 58 (.iload_n 2) 1 59 := ⟨by decide +kernel, rfl⟩
theorem dX9_due_59 : xd cX9_due 59 .ireturn 1 60 := ⟨by decide +kernel, rfl⟩

set_option maxRecDepth 100000 in
set_option maxHeartbeats 4000000 in
theorem ct_ndue_b (l : Launch) (g : XG) (aN aNs aNk aNf aNr aNp aNb aNa aNt aNbo aNsz aNnu aNl aNal aNlo aNw aNtr aNis aNbg aNow nts nta nop npr nac : Nat) (nkp nbd ntp nnw nsn nwn : Int32) (fi : Nat → Nat) (nb : Int32) (gr wk lk sz br : Nat) (z : Int32) (ru ki ma bb hd : Nat → Nat) (ce : Nat → Int32) (hb : wI nb 0 11 = 0) : Ct l g 34 0 0 yX9_due cX9_due 3 (some .int) [.ref aN, .int nb] [(aN, .inr (9, [.ref aNs, .ref aNk, .int nkp, .ref aNf, .ref aNr, .ref aNp, .ref aNb, .ref aNa, .ref aNt, .int (nI nts), .ref aNbo, .ref aNsz, .ref aNnu, .int (nI nta), .int (nI nop), .int nbd, .int ntp, .int (nI npr), .int nnw, .int nsn, .int nwn, .ref aNl, .ref aNal, .ref aNlo, .int (nI nac), .ref aNw, .ref aNtr, .ref aNis, .ref aNbg, .ref aNow])), (aNf, .inl (g.2.1 0, 8, .inl (nIf (fnF fi)))), (aNs, .inl (g.2.1 0, 919, .inl (msF gr wk z lk sz br ru ki ma bb ce hd)))] (xpi (fndI 0) [(aN, .inr (9, [.ref aNs, .ref aNk, .int nkp, .ref aNf, .ref aNr, .ref aNp, .ref aNb, .ref aNa, .ref aNt, .int (nI nts), .ref aNbo, .ref aNsz, .ref aNnu, .int (nI nta), .int (nI nop), .int nbd, .int ntp, .int (nI npr), .int nnw, .int nsn, .int nwn, .ref aNl, .ref aNal, .ref aNlo, .int (nI nac), .ref aNw, .ref aNtr, .ref aNis, .ref aNbg, .ref aNow])), (aNf, .inl (g.2.1 0, 8, .inl (nIf (fnF (updN fi 0 (fi 0 + 1)))))), (aNs, .inl (g.2.1 0, 919, .inl (msF gr wk z lk sz br ru ki ma bb ce hd)))]) := by
  refine Ct.ofX (lv := [some (.ref aN), some (.int nb), none]) (by decide) rfl (Nat.le_of_ble_eq_true rfl) (fun κ => ?_)
  generalize hQ : xQ κ g 0 0 _ = Q
  refine x_iload_n dX9_due_0 rfl ?_
  refine x_i2l dX9_due_1 ?_
  refine x_lconst 0 dX9_due_2 (by decide) ?_
  refine x_ldc2 dX9_due_3 kl_X9_251 ?_
  refine x_cSi dX9_due_6 ml_X9_98 mX9_isIn (ct_X9_isIn κ.2.1 g nb.toInt64 0 11) rfl (Nat.le_of_ble_eq_true rfl) (by decide) (Nat.le_refl _) (Nat.le_refl _) ?_
  refine x_rei (wI nb 0 11) (inL_w nb 0 11 (by first | rfl | decide) (by first | rfl | decide)) ?_
  refine x_if_ne dX9_due_9 (fun c9 => ?_) (fun c9 => ?_)
  · have c9 : ¬ ((wI nb 0 11) = 0) := c9
    exact absurd hb c9
  · have c9 : (wI nb 0 11) = 0 := c9
    refine x_aload_n dX9_due_12 rfl ?_
    refine x_ldc dX9_due_13 k_X9_87 ?_
    refine x_cVi (ws' := [(aN, .inr (9, [.ref aNs, .ref aNk, .int nkp, .ref aNf, .ref aNr, .ref aNp, .ref aNb, .ref aNa, .ref aNt, .int (nI nts), .ref aNbo, .ref aNsz, .ref aNnu, .int (nI nta), .int (nI nop), .int nbd, .int ntp, .int (nI npr), .int nnw, .int nsn, .int nwn, .ref aNl, .ref aNal, .ref aNlo, .int (nI nac), .ref aNw, .ref aNtr, .ref aNis, .ref aNbg, .ref aNow])), (aNf, .inl (g.2.1 0, 8, .inl (nIf (fnF (updN fi 0 (fi 0 + 1)))))), (aNs, .inl (g.2.1 0, 919, .inl (msF gr wk z lk sz br ru ki ma bb ce hd)))]) dX9_due_15 ml_X9_88 mX9_finds (ct_finds_0 κ.2.1 g aN aNs aNk aNf aNr aNp aNb aNa aNt aNbo aNsz aNnu aNl aNal aNlo aNw aNtr aNis aNbg aNow nts nta nop npr nac nkp nbd ntp nnw nsn nwn fi) [0, 1] rfl rfl 0 rfl rfl rfl (Nat.le_of_ble_eq_true rfl) (by decide) (Nat.le_refl _) (Nat.le_refl _) (rfl : [aN, aNf] = [aN, aNf]) rfl ?_
    rw [← hQ]
    refine x_iret dX9_due_18 rfl (Nat.le_of_ble_eq_true rfl) (Nat.le_of_ble_eq_true rfl) ?_
    exact ⟨rfl, rfl⟩

-- == ndue_o ==
set_option maxRecDepth 100000 in
set_option maxHeartbeats 4000000 in
theorem ct_ndue_o (l : Launch) (g : XG) (aN aNs aNk aNf aNr aNp aNb aNa aNt aNbo aNsz aNnu aNl aNal aNlo aNw aNtr aNis aNbg aNow nts nta nop npr nac : Nat) (nkp nbd ntp nnw nsn nwn : Int32) (gr wk lk sz br : Nat) (z : Int32) (ru ki ma bb hd : Nat → Nat) (ce : Nat → Int32) (n : Nat) (dr : Nat → Nat) (fi : Nat → Nat) (hwk : wk ≤ 40) (hdw : ∀ w, w < wk → ce (8 * w) = nI (dr w)) (hn : n < 12) : Ct l g 34 0 0 yX9_due cX9_due 3 (some .int) [.ref aN, .int (nI n)] [(aN, .inr (9, [.ref aNs, .ref aNk, .int nkp, .ref aNf, .ref aNr, .ref aNp, .ref aNb, .ref aNa, .ref aNt, .int (nI nts), .ref aNbo, .ref aNsz, .ref aNnu, .int (nI nta), .int (nI nop), .int nbd, .int ntp, .int (nI npr), .int nnw, .int nsn, .int nwn, .ref aNl, .ref aNal, .ref aNlo, .int (nI nac), .ref aNw, .ref aNtr, .ref aNis, .ref aNbg, .ref aNow])), (aNf, .inl (g.2.1 0, 8, .inl (nIf (fnF fi)))), (aNs, .inl (g.2.1 0, 919, .inl (msF gr wk z lk sz br ru ki ma bb ce hd)))] (xpi (nI (dueN dr n wk)) [(aN, .inr (9, [.ref aNs, .ref aNk, .int nkp, .ref aNf, .ref aNr, .ref aNp, .ref aNb, .ref aNa, .ref aNt, .int (nI nts), .ref aNbo, .ref aNsz, .ref aNnu, .int (nI nta), .int (nI nop), .int nbd, .int ntp, .int (nI npr), .int nnw, .int nsn, .int nwn, .ref aNl, .ref aNal, .ref aNlo, .int (nI nac), .ref aNw, .ref aNtr, .ref aNis, .ref aNbg, .ref aNow])), (aNf, .inl (g.2.1 0, 8, .inl (nIf (fnF fi)))), (aNs, .inl (g.2.1 0, 919, .inl (msF gr wk z lk sz br ru ki ma bb ce hd)))]) := by
  refine Ct.ofX (lv := [some (.ref aN), some (.int (nI n)), none]) (by decide) rfl (Nat.le_of_ble_eq_true rfl) (fun κ => ?_)
  generalize hQ : xQ κ g 0 0 _ = Q
  refine x_iload_n dX9_due_0 rfl ?_
  refine x_i2l dX9_due_1 ?_
  refine x_lconst 0 dX9_due_2 (by decide) ?_
  refine x_ldc2 dX9_due_3 kl_X9_251 ?_
  refine x_cSi dX9_due_6 ml_X9_98 mX9_isIn (ct_X9_isIn κ.2.1 g ((nI n).toInt64) 0 11) rfl (Nat.le_of_ble_eq_true rfl) (by decide) (Nat.le_refl _) (Nat.le_refl _) ?_
  refine x_rei (wI (nI n) 0 11) (inL_w (nI n) 0 11 (by first | rfl | decide) (by first | rfl | decide)) ?_
  refine x_rei 1 (show wI (nI n) 0 11 = 1 from wI_nat (n := n) (a := 0) (b := 11) ⟨by omega, by omega, by omega, by omega⟩) ?_
  refine x_if_ne dX9_due_9 (fun c9 => ?_) (fun c9 => ?_)
  rotate_left
  · exact absurd c9 (by decide)
  refine x_iconst 0 dX9_due_19 (by decide) ?_
  refine x_istore_n (lv' := [some (.ref aN), some (.int (nI n)), some (.int 0)]) dX9_due_20 (xlt rfl) rfl ?_
  have L21_1 : ∀ (i : Nat), i ≤ wk → (∀ k, k < i → (fun s => bitN (dr (wk - 1 - s)) n == 1) k = false) → Xs κ g 34 0 0 cX9_due yX9_due (some .int) Q 0 0 21 [some (.ref aN), some (.int (nI n)), some (.int (nI i))] [] [(aN, .inr (9, [.ref aNs, .ref aNk, .int nkp, .ref aNf, .ref aNr, .ref aNp, .ref aNb, .ref aNa, .ref aNt, .int (nI nts), .ref aNbo, .ref aNsz, .ref aNnu, .int (nI nta), .int (nI nop), .int nbd, .int ntp, .int (nI npr), .int nnw, .int nsn, .int nwn, .ref aNl, .ref aNal, .ref aNlo, .int (nI nac), .ref aNw, .ref aNtr, .ref aNis, .ref aNbg, .ref aNow])), (aNf, .inl (g.2.1 0, 8, .inl (nIf (fnF fi)))), (aNs, .inl (g.2.1 0, 919, .inl (msF gr wk z lk sz br ru ki ma bb ce hd)))] := by
    refine upTo wk (fun i hi21 ih21 => ?_)
    intro hno
    have hbn := bitN_lt (dr (wk - 1 - i)) n
    refine x_iload_n dX9_due_21 rfl ?_
    refine x_aload_n dX9_due_22 rfl ?_
    refine x_get dX9_due_23 0 0 inX9 fl_X9_7 rfl rfl (by decide) rfl ?_
    refine x_iconst 1 dX9_due_26 (by decide) ?_
    refine x_iald dX9_due_27 2 1 rfl (rfl) (by decide) (by decide) ?_
    refine x_rei (nI wk) (rfl) ?_
    refine x_icmp_ge dX9_due_28 (fun c28 => ?_) (fun c28 => ?_)
    · have c28 : (nI wk) ≤ (nI i) := c28
      have c28n := (nI_leI (a := wk) (b := i) (by omega) (by omega)).mp c28
      have hxc28 : i = wk := by omega
      try rw [hxc28]
      try rw [hxc28] at hno
      refine x_iload_n dX9_due_58 rfl ?_
      rw [← hQ]
      refine x_iret dX9_due_59 rfl (Nat.le_of_ble_eq_true rfl) (Nat.le_of_ble_eq_true rfl) ?_
      exact ⟨by first | (rw [dueN, fstNone (p := (fun s => bitN (dr (wk - 1 - s)) n == 1)) hno]) | (rw [dueN, fstEq (p := (fun s => bitN (dr (wk - 1 - s)) n == 1)) (by omega) hno (by simpa using (by omega : bitN (dr (wk - 1 - i)) n = 1))]), rfl⟩
    · have c28 : ¬ ((nI wk) ≤ (nI i)) := c28
      have c28n := mt (nI_leI (a := wk) (b := i) (by omega) (by omega)).mpr c28
      refine x_aload_n dX9_due_31 rfl ?_
      refine x_aload_n dX9_due_32 rfl ?_
      refine x_get dX9_due_33 0 0 inX9 fl_X9_7 rfl rfl (by decide) rfl ?_
      refine x_iconst 1 dX9_due_36 (by decide) ?_
      refine x_iald dX9_due_37 2 1 rfl (rfl) (by decide) (by decide) ?_
      refine x_rei (nI wk) (rfl) ?_
      refine x_iconst 1 dX9_due_38 (by decide) ?_
      refine x_isub dX9_due_39 ?_
      refine x_rei (nI (wk - 1)) (nI_isub wk 1 (by omega)) ?_
      refine x_iload_n dX9_due_40 rfl ?_
      refine x_isub dX9_due_41 ?_
      refine x_rei (nI ((wk - 1) - i)) (nI_isub (wk - 1) i (by omega)) ?_
      refine x_cVi0 dX9_due_42 ml_X9_248 mX9_drawAt (ct_X9_drawAt κ.2.1 g aN aNs aNk aNf aNr aNp aNb aNa aNt aNbo aNsz aNnu aNl aNal aNlo aNw aNtr aNis aNbg aNow nts nta nop npr nac nkp nbd ntp nnw nsn nwn gr wk lk sz br z ru ki ma bb hd ce ((wk - 1) - i) (dr (wk - 1 - i)) (by omega) (hdw _ (by omega))) [0, 2] rfl rfl 0 rfl rfl rfl (Nat.le_of_ble_eq_true rfl) (by decide) (Nat.le_refl _) (Nat.le_refl _) ?_
      refine x_iload_n dX9_due_45 rfl ?_
      refine x_cSi dX9_due_46 ml_X9_83 mX9_has (ct_X9_has κ.2.1 g (dr (wk - 1 - i)) n (by omega)) rfl (Nat.le_of_ble_eq_true rfl) (by decide) (Nat.le_refl _) (Nat.le_refl _) ?_
      refine x_if_ne dX9_due_49 (fun c49 => ?_) (fun c49 => ?_)
      · have c49 : ¬ ((nI (bitN (dr (wk - 1 - i)) n)) = 0) := c49
        have c49n := mt (nI_eq (a := (bitN (dr (wk - 1 - i)) n)) (b := 0) (by omega) (by omega)).mpr c49
        refine x_iload_n dX9_due_58 rfl ?_
        rw [← hQ]
        refine x_iret dX9_due_59 rfl (Nat.le_of_ble_eq_true rfl) (Nat.le_of_ble_eq_true rfl) ?_
        exact ⟨by first | (rw [dueN, fstNone (p := (fun s => bitN (dr (wk - 1 - s)) n == 1)) hno]) | (rw [dueN, fstEq (p := (fun s => bitN (dr (wk - 1 - s)) n == 1)) (by omega) hno (by simpa using (by omega : bitN (dr (wk - 1 - i)) n = 1))]), rfl⟩
      · have c49 : (nI (bitN (dr (wk - 1 - i)) n)) = 0 := c49
        have c49n := (nI_eq (a := (bitN (dr (wk - 1 - i)) n)) (b := 0) (by omega) (by omega)).mp c49
        refine x_iinc (lv' := [some (.ref aN), some (.int (nI n)), some (.int (nI (i + 1)))]) (nI (i + 1)) dX9_due_52 rfl (nI_addc i 1 rfl) rfl ?_
        refine x_goto dX9_due_55 ?_
        exact ih21 (by omega)  (allS hno (by simpa using (by omega : ¬ bitN (dr (wk - 1 - i)) n = 1)))
  exact L21_1 0 (Nat.zero_le _)  (fun k hk => by omega)

-- == ncame_b ==
theorem dX9_came_0 : xd cX9_came 0 (.iload_n 1) 1 1 := ⟨by decide +kernel, rfl⟩
theorem dX9_came_1 : xd cX9_came 1 .i2l 1 2 := ⟨by decide +kernel, rfl⟩
theorem dX9_came_2 : xd cX9_came 2 (.lconst 0) 1 3 := ⟨by decide +kernel, rfl⟩
theorem dX9_came_3 : xd cX9_came 3 (.ldc2_w 251) 3 6 := ⟨by decide +kernel, rfl⟩
theorem dX9_came_6 : xd cX9_came 6 (.invokestatic 98) 3 9 := ⟨by decide +kernel, rfl⟩
theorem dX9_came_9 : xj cX9_came 9 (.ifCond .eq) 12 20 := ⟨11, by decide +kernel, rfl, by decide⟩
theorem dX9_came_12 : xd cX9_came 12 (.aload_n 0) 1 13 := ⟨by decide +kernel, rfl⟩
theorem dX9_came_13 : xd cX9_came 13 (.iload_n 1) 1 14 := ⟨by decide +kernel, rfl⟩
theorem dX9_came_14 : xd cX9_came 14 (.invokevirtual 253) 3 17 := ⟨by decide +kernel, rfl⟩
theorem dX9_came_17 : xj cX9_came 17 .goto 20 26 := ⟨9, by decide +kernel, rfl, by decide⟩
theorem dX9_came_20 : xd cX9_came 20 (.aload_n 0) 1 21 := ⟨by decide +kernel, rfl⟩
theorem dX9_came_21 : xd cX9_came 21 (.ldc 87) 2 23 := ⟨by decide +kernel, rfl⟩
theorem dX9_came_23 : xd cX9_came 23 (.invokevirtual 88) 3 26 := ⟨by decide +kernel, rfl⟩
theorem dX9_came_26 : xd cX9_came 26 .ireturn 1 27 := ⟨by decide +kernel, rfl⟩

set_option maxRecDepth 100000 in
set_option maxHeartbeats 4000000 in
theorem ct_ncame_b (l : Launch) (g : XG) (aN aNs aNk aNf aNr aNp aNb aNa aNt aNbo aNsz aNnu aNl aNal aNlo aNw aNtr aNis aNbg aNow nts nta nop npr nac : Nat) (nkp nbd ntp nnw nsn nwn : Int32) (fi : Nat → Nat) (nb : Int32) (gr wk lk sz br : Nat) (z : Int32) (ru ki ma bb hd : Nat → Nat) (ce : Nat → Int32) (hb : wI nb 0 11 = 0) : Ct l g 34 0 0 yX9_came cX9_came 2 (some .int) [.ref aN, .int nb] [(aN, .inr (9, [.ref aNs, .ref aNk, .int nkp, .ref aNf, .ref aNr, .ref aNp, .ref aNb, .ref aNa, .ref aNt, .int (nI nts), .ref aNbo, .ref aNsz, .ref aNnu, .int (nI nta), .int (nI nop), .int nbd, .int ntp, .int (nI npr), .int nnw, .int nsn, .int nwn, .ref aNl, .ref aNal, .ref aNlo, .int (nI nac), .ref aNw, .ref aNtr, .ref aNis, .ref aNbg, .ref aNow])), (aNf, .inl (g.2.1 0, 8, .inl (nIf (fnF fi)))), (aNs, .inl (g.2.1 0, 919, .inl (msF gr wk z lk sz br ru ki ma bb ce hd)))] (xpi (fndI 0) [(aN, .inr (9, [.ref aNs, .ref aNk, .int nkp, .ref aNf, .ref aNr, .ref aNp, .ref aNb, .ref aNa, .ref aNt, .int (nI nts), .ref aNbo, .ref aNsz, .ref aNnu, .int (nI nta), .int (nI nop), .int nbd, .int ntp, .int (nI npr), .int nnw, .int nsn, .int nwn, .ref aNl, .ref aNal, .ref aNlo, .int (nI nac), .ref aNw, .ref aNtr, .ref aNis, .ref aNbg, .ref aNow])), (aNf, .inl (g.2.1 0, 8, .inl (nIf (fnF (updN fi 0 (fi 0 + 1)))))), (aNs, .inl (g.2.1 0, 919, .inl (msF gr wk z lk sz br ru ki ma bb ce hd)))]) := by
  refine Ct.ofX (lv := [some (.ref aN), some (.int nb)]) (by decide) rfl (Nat.le_of_ble_eq_true rfl) (fun κ => ?_)
  generalize hQ : xQ κ g 0 0 _ = Q
  refine x_iload_n dX9_came_0 rfl ?_
  refine x_i2l dX9_came_1 ?_
  refine x_lconst 0 dX9_came_2 (by decide) ?_
  refine x_ldc2 dX9_came_3 kl_X9_251 ?_
  refine x_cSi dX9_came_6 ml_X9_98 mX9_isIn (ct_X9_isIn κ.2.1 g nb.toInt64 0 11) rfl (Nat.le_of_ble_eq_true rfl) (by decide) (Nat.le_refl _) (Nat.le_refl _) ?_
  refine x_rei (wI nb 0 11) (inL_w nb 0 11 (by first | rfl | decide) (by first | rfl | decide)) ?_
  refine x_if_eq dX9_came_9 (fun c9 => ?_) (fun c9 => ?_)
  · have c9 : (wI nb 0 11) = 0 := c9
    refine x_aload_n dX9_came_20 rfl ?_
    refine x_ldc dX9_came_21 k_X9_87 ?_
    refine x_cVi (ws' := [(aN, .inr (9, [.ref aNs, .ref aNk, .int nkp, .ref aNf, .ref aNr, .ref aNp, .ref aNb, .ref aNa, .ref aNt, .int (nI nts), .ref aNbo, .ref aNsz, .ref aNnu, .int (nI nta), .int (nI nop), .int nbd, .int ntp, .int (nI npr), .int nnw, .int nsn, .int nwn, .ref aNl, .ref aNal, .ref aNlo, .int (nI nac), .ref aNw, .ref aNtr, .ref aNis, .ref aNbg, .ref aNow])), (aNf, .inl (g.2.1 0, 8, .inl (nIf (fnF (updN fi 0 (fi 0 + 1)))))), (aNs, .inl (g.2.1 0, 919, .inl (msF gr wk z lk sz br ru ki ma bb ce hd)))]) dX9_came_23 ml_X9_88 mX9_finds (ct_finds_0 κ.2.1 g aN aNs aNk aNf aNr aNp aNb aNa aNt aNbo aNsz aNnu aNl aNal aNlo aNw aNtr aNis aNbg aNow nts nta nop npr nac nkp nbd ntp nnw nsn nwn fi) [0, 1] rfl rfl 0 rfl rfl rfl (Nat.le_of_ble_eq_true rfl) (by decide) (Nat.le_refl _) (Nat.le_refl _) (rfl : [aN, aNf] = [aN, aNf]) rfl ?_
    rw [← hQ]
    refine x_iret dX9_came_26 rfl (Nat.le_of_ble_eq_true rfl) (Nat.le_of_ble_eq_true rfl) ?_
    exact ⟨rfl, rfl⟩
  · have c9 : ¬ ((wI nb 0 11) = 0) := c9
    exact absurd hb c9

-- == ncame_o ==
set_option maxRecDepth 100000 in
set_option maxHeartbeats 4000000 in
theorem ct_ncame_o (l : Launch) (g : XG) (aN aNs aNk aNf aNr aNp aNb aNa aNt aNbo aNsz aNnu aNl aNal aNlo aNw aNtr aNis aNbg aNow nts nta nop npr nac : Nat) (nkp nbd ntp nnw nsn nwn : Int32) (gr wk lk sz br : Nat) (z : Int32) (ru ki ma bb hd : Nat → Nat) (ce : Nat → Int32) (n : Nat) (dr : Nat → Nat) (fi : Nat → Nat) (hwk : wk ≤ 40) (hdw : ∀ w, w < wk → ce (8 * w) = nI (dr w)) (hn : n < 12) : Ct l g 34 0 0 yX9_came cX9_came 2 (some .int) [.ref aN, .int (nI n)] [(aN, .inr (9, [.ref aNs, .ref aNk, .int nkp, .ref aNf, .ref aNr, .ref aNp, .ref aNb, .ref aNa, .ref aNt, .int (nI nts), .ref aNbo, .ref aNsz, .ref aNnu, .int (nI nta), .int (nI nop), .int nbd, .int ntp, .int (nI npr), .int nnw, .int nsn, .int nwn, .ref aNl, .ref aNal, .ref aNlo, .int (nI nac), .ref aNw, .ref aNtr, .ref aNis, .ref aNbg, .ref aNow])), (aNf, .inl (g.2.1 0, 8, .inl (nIf (fnF fi)))), (aNs, .inl (g.2.1 0, 919, .inl (msF gr wk z lk sz br ru ki ma bb ce hd)))] (xpi (nI (sumN (fun w => bitN (dr w) n) wk)) [(aN, .inr (9, [.ref aNs, .ref aNk, .int nkp, .ref aNf, .ref aNr, .ref aNp, .ref aNb, .ref aNa, .ref aNt, .int (nI nts), .ref aNbo, .ref aNsz, .ref aNnu, .int (nI nta), .int (nI nop), .int nbd, .int ntp, .int (nI npr), .int nnw, .int nsn, .int nwn, .ref aNl, .ref aNal, .ref aNlo, .int (nI nac), .ref aNw, .ref aNtr, .ref aNis, .ref aNbg, .ref aNow])), (aNf, .inl (g.2.1 0, 8, .inl (nIf (fnF fi)))), (aNs, .inl (g.2.1 0, 919, .inl (msF gr wk z lk sz br ru ki ma bb ce hd)))]) := by
  refine Ct.ofX (lv := [some (.ref aN), some (.int (nI n))]) (by decide) rfl (Nat.le_of_ble_eq_true rfl) (fun κ => ?_)
  generalize hQ : xQ κ g 0 0 _ = Q
  refine x_iload_n dX9_came_0 rfl ?_
  refine x_i2l dX9_came_1 ?_
  refine x_lconst 0 dX9_came_2 (by decide) ?_
  refine x_ldc2 dX9_came_3 kl_X9_251 ?_
  refine x_cSi dX9_came_6 ml_X9_98 mX9_isIn (ct_X9_isIn κ.2.1 g ((nI n).toInt64) 0 11) rfl (Nat.le_of_ble_eq_true rfl) (by decide) (Nat.le_refl _) (Nat.le_refl _) ?_
  refine x_rei (wI (nI n) 0 11) (inL_w (nI n) 0 11 (by first | rfl | decide) (by first | rfl | decide)) ?_
  refine x_rei 1 (show wI (nI n) 0 11 = 1 from wI_nat (n := n) (a := 0) (b := 11) ⟨by omega, by omega, by omega, by omega⟩) ?_
  refine x_if_eq dX9_came_9 (fun c9 => ?_) (fun c9 => ?_)
  · exact absurd c9 (by decide)
  refine x_aload_n dX9_came_12 rfl ?_
  refine x_iload_n dX9_came_13 rfl ?_
  refine x_cVi0 dX9_came_14 ml_X9_253 mX9_timesOf (ct_X9_timesOf κ.2.1 g aN aNs aNk aNf aNr aNp aNb aNa aNt aNbo aNsz aNnu aNl aNal aNlo aNw aNtr aNis aNbg aNow nts nta nop npr nac nkp nbd ntp nnw nsn nwn gr wk lk sz br z ru ki ma bb hd ce n dr (hwk) (hdw) (hn)) [0, 2] rfl rfl 0 rfl rfl rfl (Nat.le_of_ble_eq_true rfl) (by decide) (Nat.le_refl _) (Nat.le_refl _) ?_
  refine x_goto dX9_came_17 ?_
  rw [← hQ]
  refine x_iret dX9_came_26 rfl (Nat.le_of_ble_eq_true rfl) (Nat.le_of_ble_eq_true rfl) ?_
  exact ⟨rfl, rfl⟩

-- == ndrum_o ==
theorem dX9_drum_0 : xd cX9_drum 0 (.lconst 0) 1 1 := ⟨by decide +kernel, rfl⟩
theorem dX9_drum_1 : xd cX9_drum 1 (.lstore_n 1) 1 2 := ⟨by decide +kernel, rfl⟩
theorem dX9_drum_2 : xd cX9_drum 2 (.iconst 0) 1 3 := ⟨by decide +kernel, rfl⟩
theorem dX9_drum_3 : xd cX9_drum 3 (.istore_n 3) 1 4 := ⟨by decide +kernel, rfl⟩
theorem dX9_drum_4 : xd cX9_drum 4 (.iload_n 3) 1 5 := ⟨by decide +kernel, rfl⟩
theorem dX9_drum_5 : xd cX9_drum 5 (.bipush 12) 2 7 := ⟨by decide +kernel, rfl⟩
theorem dX9_drum_7 : xj cX9_drum 7 (.if_icmp .ge) 10 48 := ⟨41, by decide +kernel, rfl, by decide⟩
theorem dX9_drum_10 : xd cX9_drum 10 (.ldc2_w 256) 3 13 := ⟨by decide +kernel, rfl⟩
theorem dX9_drum_13 : xd cX9_drum 13 (.aload_n 0) 1 14 := ⟨by decide +kernel, rfl⟩
theorem dX9_drum_14 : xd cX9_drum 14 (.iload_n 3) 1 15 := ⟨by decide +kernel, rfl⟩
theorem dX9_drum_15 : xd cX9_drum 15 (.invokevirtual 253) 3 18 := ⟨by decide +kernel, rfl⟩
theorem dX9_drum_18 : xd cX9_drum 18 .i2l 1 19 := ⟨by decide +kernel, rfl⟩
theorem dX9_drum_19 : xd cX9_drum 19 .lmul 1 20 := ⟨by decide +kernel, rfl⟩
theorem dX9_drum_20 : xd cX9_drum 20 (.ldc2_w 173) 3 23 := ⟨by decide +kernel, rfl⟩
theorem dX9_drum_23 : xd cX9_drum 23 (.aload_n 0) 1 24 := ⟨by decide +kernel, rfl⟩
theorem dX9_drum_24 : xd cX9_drum 24 (.getfield 7) 3 27 := ⟨by decide +kernel, rfl⟩
theorem dX9_drum_27 : xd cX9_drum 27 (.iconst 1) 1 28 := ⟨by decide +kernel, rfl⟩
theorem dX9_drum_28 : xd cX9_drum 28 .iaload 1 29 := ⟨by decide +kernel, rfl⟩
theorem dX9_drum_29 : xd cX9_drum 29 .i2l 1 30 := ⟨by decide +kernel, rfl⟩
theorem dX9_drum_30 : xd cX9_drum 30 .lmul 1 31 := ⟨by decide +kernel, rfl⟩
theorem dX9_drum_31 : xd cX9_drum 31 .lsub 1 32 := ⟨by decide +kernel, rfl⟩
theorem dX9_drum_32 : xd cX9_drum 32 (.lstore 4) 2 34 := ⟨by decide +kernel, rfl⟩
theorem dX9_drum_34 : xd cX9_drum 34 (.lload_n 1) 1 35 := ⟨by decide +kernel, rfl⟩
theorem dX9_drum_35 : xd cX9_drum 35 (.lload 4) 2 37 := ⟨by decide +kernel, rfl⟩
theorem dX9_drum_37 : xd cX9_drum 37 (.lload 4) 2 39 := ⟨by decide +kernel, rfl⟩
theorem dX9_drum_39 : xd cX9_drum 39 .lmul 1 40 := ⟨by decide +kernel, rfl⟩
theorem dX9_drum_40 : xd cX9_drum 40 .ladd 1 41 := ⟨by decide +kernel, rfl⟩
theorem dX9_drum_41 : xd cX9_drum 41 (.lstore_n 1) 1 42 := ⟨by decide +kernel, rfl⟩
theorem dX9_drum_42 : xd cX9_drum 42 (.iinc 3 1) 3 45 := ⟨by decide +kernel, rfl⟩
theorem dX9_drum_45 : xj cX9_drum 45 .goto 48 4 := ⟨(-41), by decide +kernel, rfl, by decide⟩
theorem dX9_drum_48 : xd cX9_drum 48 (.lload_n 1) 1 49 := ⟨by decide +kernel, rfl⟩
theorem dX9_drum_49 : xd cX9_drum 49 .lreturn 1 50 := ⟨by decide +kernel, rfl⟩

set_option maxRecDepth 100000 in
set_option maxHeartbeats 4000000 in
theorem ct_ndrum_o (l : Launch) (g : XG) (aN aNs aNk aNf aNr aNp aNb aNa aNt aNbo aNsz aNnu aNl aNal aNlo aNw aNtr aNis aNbg aNow nts nta nop npr nac : Nat) (nkp nbd ntp nnw nsn nwn : Int32) (gr wk lk sz br : Nat) (z : Int32) (ru ki ma bb hd : Nat → Nat) (ce : Nat → Int32) (dr : Nat → Nat) (hwk : wk ≤ 40) (hdw : ∀ w, w < wk → ce (8 * w) = nI (dr w)) : Ct l g 34 0 0 yX9_drum cX9_drum 6 (some .long) [.ref aN] [(aN, .inr (9, [.ref aNs, .ref aNk, .int nkp, .ref aNf, .ref aNr, .ref aNp, .ref aNb, .ref aNa, .ref aNt, .int (nI nts), .ref aNbo, .ref aNsz, .ref aNnu, .int (nI nta), .int (nI nop), .int nbd, .int ntp, .int (nI npr), .int nnw, .int nsn, .int nwn, .ref aNl, .ref aNal, .ref aNlo, .int (nI nac), .ref aNw, .ref aNtr, .ref aNis, .ref aNbg, .ref aNow])), (aNs, .inl (g.2.1 0, 919, .inl (msF gr wk z lk sz br ru ki ma bb ce hd)))] (xpl (drmR dr wk 12) [(aN, .inr (9, [.ref aNs, .ref aNk, .int nkp, .ref aNf, .ref aNr, .ref aNp, .ref aNb, .ref aNa, .ref aNt, .int (nI nts), .ref aNbo, .ref aNsz, .ref aNnu, .int (nI nta), .int (nI nop), .int nbd, .int ntp, .int (nI npr), .int nnw, .int nsn, .int nwn, .ref aNl, .ref aNal, .ref aNlo, .int (nI nac), .ref aNw, .ref aNtr, .ref aNis, .ref aNbg, .ref aNow])), (aNs, .inl (g.2.1 0, 919, .inl (msF gr wk z lk sz br ru ki ma bb ce hd)))]) := by
  refine Ct.ofX (lv := [some (.ref aN), none, none, none, none, none]) (by decide) rfl (Nat.le_of_ble_eq_true rfl) (fun κ => ?_)
  generalize hQ : xQ κ g 0 0 _ = Q
  refine x_lconst 0 dX9_drum_0 (by decide) ?_
  refine x_lstore_n (lv' := [some (.ref aN), some (.long 0), none, none, none, none]) dX9_drum_1 (xlt rfl) rfl ?_
  refine x_iconst 0 dX9_drum_2 (by decide) ?_
  refine x_istore_n (lv' := [some (.ref aN), some (.long 0), none, some (.int 0), none, none]) dX9_drum_3 (xlt rfl) rfl ?_
  have L4_1 : ∀ (n : Nat), n ≤ 12 → ∀ (al : Int64), al = drmR dr wk n → Xs κ g 34 0 0 cX9_drum yX9_drum (some .long) Q 0 0 4 [some (.ref aN), some (.long al), none, some (.int (nI n)), none, none] [] [(aN, .inr (9, [.ref aNs, .ref aNk, .int nkp, .ref aNf, .ref aNr, .ref aNp, .ref aNb, .ref aNa, .ref aNt, .int (nI nts), .ref aNbo, .ref aNsz, .ref aNnu, .int (nI nta), .int (nI nop), .int nbd, .int ntp, .int (nI npr), .int nnw, .int nsn, .int nwn, .ref aNl, .ref aNal, .ref aNlo, .int (nI nac), .ref aNw, .ref aNtr, .ref aNis, .ref aNbg, .ref aNow])), (aNs, .inl (g.2.1 0, 919, .inl (msF gr wk z lk sz br ru ki ma bb ce hd)))] := by
    refine upTo 12 (fun n hi4 ih4 => ?_)
    intro al eal
    subst eal
    refine x_iload_n dX9_drum_4 rfl ?_
    refine x_bipush 12 dX9_drum_5 (by decide) ?_
    refine x_icmp_ge dX9_drum_7 (fun c7 => ?_) (fun c7 => ?_)
    · have c7 : 12 ≤ (nI n) := c7
      have c7n := (nI_leI (a := 12) (b := n) (by omega) (by omega)).mp c7
      have hxc7 : n = 12 := by omega
      try rw [hxc7]
      refine x_lload_n dX9_drum_48 rfl ?_
      rw [← hQ]
      refine x_lret dX9_drum_49 rfl (Nat.le_of_ble_eq_true rfl) (Nat.le_of_ble_eq_true rfl) ?_
      exact ⟨rfl, rfl⟩
    · have c7 : ¬ (12 ≤ (nI n)) := c7
      have c7n := mt (nI_leI (a := 12) (b := n) (by omega) (by omega)).mpr c7
      refine x_ldc2 dX9_drum_10 kl_X9_256 ?_
      refine x_aload_n dX9_drum_13 rfl ?_
      refine x_iload_n dX9_drum_14 rfl ?_
      refine x_cVi0 dX9_drum_15 ml_X9_253 mX9_timesOf (ct_X9_timesOf κ.2.1 g aN aNs aNk aNf aNr aNp aNb aNa aNt aNbo aNsz aNnu aNl aNal aNlo aNw aNtr aNis aNbg aNow nts nta nop npr nac nkp nbd ntp nnw nsn nwn gr wk lk sz br z ru ki ma bb hd ce n dr (hwk) (hdw) (by omega)) [0, 1] rfl rfl 0 rfl rfl rfl (Nat.le_of_ble_eq_true rfl) (by decide) (Nat.le_refl _) (Nat.le_refl _) ?_
      refine x_i2l dX9_drum_18 ?_
      refine x_lmul dX9_drum_19 ?_
      refine x_ldc2 dX9_drum_20 kl_X9_173 ?_
      refine x_aload_n dX9_drum_23 rfl ?_
      refine x_get dX9_drum_24 0 0 inX9 fl_X9_7 rfl rfl (by decide) rfl ?_
      refine x_iconst 1 dX9_drum_27 (by decide) ?_
      refine x_iald dX9_drum_28 1 1 rfl (rfl) (by decide) (by decide) ?_
      refine x_rei (nI wk) (rfl) ?_
      refine x_i2l dX9_drum_29 ?_
      refine x_lmul dX9_drum_30 ?_
      refine x_lsub dX9_drum_31 ?_
      refine x_lstore (lv' := [some (.ref aN), some (.long (drmR dr wk n)), none, some (.int (nI n)), some (.long ((12 * ((nI (sumN (fun w => bitN (dr w) n) wk)).toInt64)) - (4 * ((nI wk).toInt64)))), none]) dX9_drum_32 (xlt rfl) rfl ?_
      refine x_lload_n dX9_drum_34 rfl ?_
      refine x_lload dX9_drum_35 rfl ?_
      refine x_lload dX9_drum_37 rfl ?_
      refine x_lmul dX9_drum_39 ?_
      refine x_ladd dX9_drum_40 ?_
      refine x_lstore_n (lv' := [some (.ref aN), some (.long ((drmR dr wk n) + (((12 * ((nI (sumN (fun w => bitN (dr w) n) wk)).toInt64)) - (4 * ((nI wk).toInt64))) * ((12 * ((nI (sumN (fun w => bitN (dr w) n) wk)).toInt64)) - (4 * ((nI wk).toInt64)))))), none, some (.int (nI n)), some (.long ((12 * ((nI (sumN (fun w => bitN (dr w) n) wk)).toInt64)) - (4 * ((nI wk).toInt64)))), none]) dX9_drum_41 (xlt rfl) rfl ?_
      refine x_iinc (lv' := [some (.ref aN), some (.long ((drmR dr wk n) + (((12 * ((nI (sumN (fun w => bitN (dr w) n) wk)).toInt64)) - (4 * ((nI wk).toInt64))) * ((12 * ((nI (sumN (fun w => bitN (dr w) n) wk)).toInt64)) - (4 * ((nI wk).toInt64)))))), none, some (.int (nI (n + 1))), some (.long ((12 * ((nI (sumN (fun w => bitN (dr w) n) wk)).toInt64)) - (4 * ((nI wk).toInt64)))), none]) (nI (n + 1)) dX9_drum_42 rfl (nI_addc n 1 rfl) rfl ?_
      refine x_goto dX9_drum_45 ?_
      refine x_fgt (lv' := [some (.ref aN), some (.long ((drmR dr wk n) + (((12 * ((nI (sumN (fun w => bitN (dr w) n) wk)).toInt64)) - (4 * ((nI wk).toInt64))) * ((12 * ((nI (sumN (fun w => bitN (dr w) n) wk)).toInt64)) - (4 * ((nI wk).toInt64)))))), none, some (.int (nI (n + 1))), none, none]) ⟨Or.inr rfl, Or.inr rfl, Or.inl rfl, Or.inr rfl, Or.inl rfl, Or.inl rfl, trivial⟩ ?_
      exact ih4 (by omega) _ (by rfl)
  exact L4_1 0 (Nat.zero_le _) _ (by rfl)

-- == nfelt_b ==
theorem dX9_felt_0 : xd cX9_felt 0 (.iload_n 1) 1 1 := ⟨by decide +kernel, rfl⟩
theorem dX9_felt_1 : xd cX9_felt 1 .i2l 1 2 := ⟨by decide +kernel, rfl⟩
theorem dX9_felt_2 : xd cX9_felt 2 (.lconst 0) 1 3 := ⟨by decide +kernel, rfl⟩
theorem dX9_felt_3 : xd cX9_felt 3 (.ldc2_w 251) 3 6 := ⟨by decide +kernel, rfl⟩
theorem dX9_felt_6 : xd cX9_felt 6 (.invokestatic 98) 3 9 := ⟨by decide +kernel, rfl⟩
theorem dX9_felt_9 : xj cX9_felt 9 (.ifCond .ne) 12 19 := ⟨10, by decide +kernel, rfl, by decide⟩
theorem dX9_felt_12 : xd cX9_felt 12 (.aload_n 0) 1 13 := ⟨by decide +kernel, rfl⟩
theorem dX9_felt_13 : xd cX9_felt 13 (.ldc 87) 2 15 := ⟨by decide +kernel, rfl⟩
theorem dX9_felt_15 : xd cX9_felt 15 (.invokevirtual 88) 3 18 := ⟨by decide +kernel, rfl⟩
theorem dX9_felt_18 : xd cX9_felt 18 .ireturn 1 19 := ⟨by decide +kernel, rfl⟩
theorem dX9_felt_19 : xd cX9_felt 19 (.aload_n 0) 1 20 := ⟨by decide +kernel, rfl⟩
theorem dX9_felt_20 : xd cX9_felt 20 (.iload_n 1) 1 21 := ⟨by decide +kernel, rfl⟩
theorem dX9_felt_21 : xd cX9_felt 21 (.invokevirtual 253) 3 24 := ⟨by decide +kernel, rfl⟩
theorem dX9_felt_24 : xd cX9_felt 24 (.istore_n 2) 1 25 := ⟨by decide +kernel, rfl⟩
theorem dX9_felt_25 : xd cX9_felt 25 (.iload_n 2) 1 26 := ⟨by decide +kernel, rfl⟩
theorem dX9_felt_26 : xj cX9_felt 26 (.ifCond .eq) 29 39 := ⟨13, by decide +kernel, rfl, by decide⟩
theorem dX9_felt_29 : xd cX9_felt 29 (.iload_n 2) 1 30 := ⟨by decide +kernel, rfl⟩
theorem dX9_felt_30 : xd cX9_felt 30 (.aload_n 0) 1 31 := ⟨by decide +kernel, rfl⟩
theorem dX9_felt_31 : xd cX9_felt 31 (.getfield 7) 3 34 := ⟨by decide +kernel, rfl⟩
theorem dX9_felt_34 : xd cX9_felt 34 (.iconst 1) 1 35 := ⟨by decide +kernel, rfl⟩
theorem dX9_felt_35 : xd cX9_felt 35 .iaload 1 36 := ⟨by decide +kernel, rfl⟩
theorem dX9_felt_36 : xj cX9_felt 36 (.if_icmp .ne) 39 46 := ⟨10, by decide +kernel, rfl, by decide⟩
theorem dX9_felt_39 : xd cX9_felt 39 (.aload_n 0) 1 40 := ⟨by decide +kernel, rfl⟩
theorem dX9_felt_40 : xd cX9_felt 40 (.ldc 239) 2 42 := ⟨by decide +kernel, rfl⟩
theorem dX9_felt_42 : xd cX9_felt 42 (.invokevirtual 88) 3 45 := ⟨by decide +kernel, rfl⟩
theorem dX9_felt_45 : xd cX9_felt 45 .ireturn 1 46 := ⟨by decide +kernel, rfl⟩
theorem dX9_felt_46 : xd cX9_felt 46 (.iconst 0) 1 47 := ⟨by decide +kernel, rfl⟩
theorem dX9_felt_47 : xd cX9_felt 47 (.istore_n 3) 1 48 := ⟨by decide +kernel, rfl⟩
theorem dX9_felt_48 : xd cX9_felt 48 (.iconst 0) 1 49 := ⟨by decide +kernel, rfl⟩
theorem dX9_felt_49 : xd cX9_felt 49 (.istore 4) 2 51 := ⟨by decide +kernel, rfl⟩
theorem dX9_felt_51 : xd cX9_felt 51 (.iconst 0) 1 52 := ⟨by decide +kernel, rfl⟩
theorem dX9_felt_52 : xd cX9_felt 52 (.istore 5) 2 54 := ⟨by decide +kernel, rfl⟩
theorem dX9_felt_54 : xd cX9_felt 54 (.iload 5) 2 56 := ⟨by decide +kernel, rfl⟩
theorem dX9_felt_56 : xd cX9_felt 56 (.aload_n 0) 1 57 := ⟨by decide +kernel, rfl⟩
theorem dX9_felt_57 : xd cX9_felt 57 (.getfield 7) 3 60 := ⟨by decide +kernel, rfl⟩
theorem dX9_felt_60 : xd cX9_felt 60 (.iconst 1) 1 61 := ⟨by decide +kernel, rfl⟩
theorem dX9_felt_61 : xd cX9_felt 61 .iaload 1 62 := ⟨by decide +kernel, rfl⟩
theorem dX9_felt_62 : xj cX9_felt 62 (.if_icmp .ge) 65 134 := ⟨72, by decide +kernel, rfl, by decide⟩
theorem dX9_felt_65 : xd cX9_felt 65 (.aload_n 0) 1 66 := ⟨by decide +kernel, rfl⟩
theorem dX9_felt_66 : xd cX9_felt 66 (.getfield 7) 3 69 := ⟨by decide +kernel, rfl⟩
theorem dX9_felt_69 : xd cX9_felt 69 (.bipush 104) 2 71 := ⟨by decide +kernel, rfl⟩
theorem dX9_felt_71 : xd cX9_felt 71 (.bipush 8) 2 73 := ⟨by decide +kernel, rfl⟩
theorem dX9_felt_73 : xd cX9_felt 73 (.iload 5) 2 75 := ⟨by decide +kernel, rfl⟩
theorem dX9_felt_75 : xd cX9_felt 75 .imul 1 76 := ⟨by decide +kernel, rfl⟩
theorem dX9_felt_76 : xd cX9_felt 76 .iadd 1 77 := ⟨by decide +kernel, rfl⟩
theorem dX9_felt_77 : xd cX9_felt 77 (.iconst 3) 1 78 := ⟨by decide +kernel, rfl⟩
theorem dX9_felt_78 : xd cX9_felt 78 .iadd 1 79 := ⟨by decide +kernel, rfl⟩
theorem dX9_felt_79 : xd cX9_felt 79 .iaload 1 80 := ⟨by decide +kernel, rfl⟩
theorem dX9_felt_80 : xd cX9_felt 80 (.istore 6) 2 82 := ⟨by decide +kernel, rfl⟩
theorem dX9_felt_82 : xd cX9_felt 82 (.iload_n 3) 1 83 := ⟨by decide +kernel, rfl⟩
theorem dX9_felt_83 : xd cX9_felt 83 (.aload_n 0) 1 84 := ⟨by decide +kernel, rfl⟩
theorem dX9_felt_84 : xd cX9_felt 84 (.iload 5) 2 86 := ⟨by decide +kernel, rfl⟩
theorem dX9_felt_86 : xd cX9_felt 86 (.invokevirtual 248) 3 89 := ⟨by decide +kernel, rfl⟩
theorem dX9_felt_89 : xd cX9_felt 89 (.iload_n 1) 1 90 := ⟨by decide +kernel, rfl⟩
theorem dX9_felt_90 : xd cX9_felt 90 (.invokestatic 83) 3 93 := ⟨by decide +kernel, rfl⟩
theorem dX9_felt_93 : xj cX9_felt 93 (.ifCond .eq) 96 101 := ⟨8, by decide +kernel, rfl, by decide⟩
theorem dX9_felt_96 : xd cX9_felt 96 (.iload 6) 2 98 := ⟨by decide +kernel, rfl⟩
theorem dX9_felt_98 : xj cX9_felt 98 .goto 101 102 := ⟨4, by decide +kernel, rfl, by decide⟩
theorem dX9_felt_101 : xd cX9_felt 101 (.iconst 0) 1 102 := ⟨by decide +kernel, rfl⟩
theorem dX9_felt_102 : xd cX9_felt 102 .iadd 1 103 := ⟨by decide +kernel, rfl⟩
theorem dX9_felt_103 : xd cX9_felt 103 (.istore_n 3) 1 104 := ⟨by decide +kernel, rfl⟩
theorem dX9_felt_104 : xd cX9_felt 104 (.iload 4) 2 106 := ⟨by decide +kernel, rfl⟩
theorem dX9_felt_106 : xd cX9_felt 106 (.aload_n 0) 1 107 := ⟨by decide +kernel, rfl⟩
theorem dX9_felt_107 : xd cX9_felt 107 (.iload 5) 2 109 := ⟨by decide +kernel, rfl⟩
theorem dX9_felt_109 : xd cX9_felt 109 (.invokevirtual 248) 3 112 := ⟨by decide +kernel, rfl⟩
theorem dX9_felt_112 : xd cX9_felt 112 (.iload_n 1) 1 113 := ⟨by decide +kernel, rfl⟩
theorem dX9_felt_113 : xd cX9_felt 113 (.invokestatic 83) 3 116 := ⟨by decide +kernel, rfl⟩
theorem dX9_felt_116 : xj cX9_felt 116 (.ifCond .eq) 119 123 := ⟨7, by decide +kernel, rfl, by decide⟩
theorem dX9_felt_119 : xd cX9_felt 119 (.iconst 0) 1 120 := ⟨by decide +kernel, rfl⟩
theorem dX9_felt_120 : xj cX9_felt 120 .goto 123 125 := ⟨5, by decide +kernel, rfl, by decide⟩
theorem dX9_felt_123 : xd cX9_felt 123 (.iload 6) 2 125 := ⟨by decide +kernel, rfl⟩
theorem dX9_felt_125 : xd cX9_felt 125 .iadd 1 126 := ⟨by decide +kernel, rfl⟩
theorem dX9_felt_126 : xd cX9_felt 126 (.istore 4) 2 128 := ⟨by decide +kernel, rfl⟩
theorem dX9_felt_128 : xd cX9_felt 128 (.iinc 5 1) 3 131 := ⟨by decide +kernel, rfl⟩
theorem dX9_felt_131 : xj cX9_felt 131 .goto 134 54 := ⟨(-77), by decide +kernel, rfl, by decide⟩
theorem dX9_felt_134 : xd cX9_felt 134 (.iload_n 3) 1 135 := ⟨by decide +kernel, rfl⟩
theorem dX9_felt_135 : xd cX9_felt 135 (.iload_n 2) 1 136 := ⟨by decide +kernel, rfl⟩
theorem dX9_felt_136 : xd cX9_felt 136 .idiv 1 137 := ⟨by decide +kernel, rfl⟩
theorem dX9_felt_137 : xd cX9_felt 137 (.iload 4) 2 139 := ⟨by decide +kernel, rfl⟩
theorem dX9_felt_139 : xd cX9_felt 139 (.aload_n 0) 1 140 := ⟨by decide +kernel, rfl⟩
theorem dX9_felt_140 : xd cX9_felt 140 (.getfield 7) 3 143 := ⟨by decide +kernel, rfl⟩
theorem dX9_felt_143 : xd cX9_felt 143 (.iconst 1) 1 144 := ⟨by decide +kernel, rfl⟩
theorem dX9_felt_144 : xd cX9_felt 144 .iaload 1 145 := ⟨by decide +kernel, rfl⟩
theorem dX9_felt_145 : xd cX9_felt 145 (.iload_n 2) 1 146 := ⟨by decide +kernel, rfl⟩
theorem dX9_felt_146 : xd cX9_felt 146 .isub 1 147 := ⟨by decide +kernel, rfl⟩
theorem dX9_felt_147 : xd cX9_felt 147 .idiv 1 148 := ⟨by decide +kernel, rfl⟩
theorem dX9_felt_148 : xd cX9_felt 148 .isub 1 149 := ⟨by decide +kernel, rfl⟩
theorem dX9_felt_149 : xd cX9_felt 149 .ireturn 1 150 := ⟨by decide +kernel, rfl⟩

set_option maxRecDepth 100000 in
set_option maxHeartbeats 4000000 in
theorem ct_nfelt_b (l : Launch) (g : XG) (aN aNs aNk aNf aNr aNp aNb aNa aNt aNbo aNsz aNnu aNl aNal aNlo aNw aNtr aNis aNbg aNow nts nta nop npr nac : Nat) (nkp nbd ntp nnw nsn nwn : Int32) (fi : Nat → Nat) (nb : Int32) (gr wk lk sz br : Nat) (z : Int32) (ru ki ma bb hd : Nat → Nat) (ce : Nat → Int32) (hb : wI nb 0 11 = 0) : Ct l g 34 0 0 yX9_felt cX9_felt 7 (some .int) [.ref aN, .int nb] [(aN, .inr (9, [.ref aNs, .ref aNk, .int nkp, .ref aNf, .ref aNr, .ref aNp, .ref aNb, .ref aNa, .ref aNt, .int (nI nts), .ref aNbo, .ref aNsz, .ref aNnu, .int (nI nta), .int (nI nop), .int nbd, .int ntp, .int (nI npr), .int nnw, .int nsn, .int nwn, .ref aNl, .ref aNal, .ref aNlo, .int (nI nac), .ref aNw, .ref aNtr, .ref aNis, .ref aNbg, .ref aNow])), (aNf, .inl (g.2.1 0, 8, .inl (nIf (fnF fi)))), (aNs, .inl (g.2.1 0, 919, .inl (msF gr wk z lk sz br ru ki ma bb ce hd)))] (xpi (fndI 0) [(aN, .inr (9, [.ref aNs, .ref aNk, .int nkp, .ref aNf, .ref aNr, .ref aNp, .ref aNb, .ref aNa, .ref aNt, .int (nI nts), .ref aNbo, .ref aNsz, .ref aNnu, .int (nI nta), .int (nI nop), .int nbd, .int ntp, .int (nI npr), .int nnw, .int nsn, .int nwn, .ref aNl, .ref aNal, .ref aNlo, .int (nI nac), .ref aNw, .ref aNtr, .ref aNis, .ref aNbg, .ref aNow])), (aNf, .inl (g.2.1 0, 8, .inl (nIf (fnF (updN fi 0 (fi 0 + 1)))))), (aNs, .inl (g.2.1 0, 919, .inl (msF gr wk z lk sz br ru ki ma bb ce hd)))]) := by
  refine Ct.ofX (lv := [some (.ref aN), some (.int nb), none, none, none, none, none]) (by decide) rfl (Nat.le_of_ble_eq_true rfl) (fun κ => ?_)
  generalize hQ : xQ κ g 0 0 _ = Q
  refine x_iload_n dX9_felt_0 rfl ?_
  refine x_i2l dX9_felt_1 ?_
  refine x_lconst 0 dX9_felt_2 (by decide) ?_
  refine x_ldc2 dX9_felt_3 kl_X9_251 ?_
  refine x_cSi dX9_felt_6 ml_X9_98 mX9_isIn (ct_X9_isIn κ.2.1 g nb.toInt64 0 11) rfl (Nat.le_of_ble_eq_true rfl) (by decide) (Nat.le_refl _) (Nat.le_refl _) ?_
  refine x_rei (wI nb 0 11) (inL_w nb 0 11 (by first | rfl | decide) (by first | rfl | decide)) ?_
  refine x_if_ne dX9_felt_9 (fun c9 => ?_) (fun c9 => ?_)
  · have c9 : ¬ ((wI nb 0 11) = 0) := c9
    exact absurd hb c9
  · have c9 : (wI nb 0 11) = 0 := c9
    refine x_aload_n dX9_felt_12 rfl ?_
    refine x_ldc dX9_felt_13 k_X9_87 ?_
    refine x_cVi (ws' := [(aN, .inr (9, [.ref aNs, .ref aNk, .int nkp, .ref aNf, .ref aNr, .ref aNp, .ref aNb, .ref aNa, .ref aNt, .int (nI nts), .ref aNbo, .ref aNsz, .ref aNnu, .int (nI nta), .int (nI nop), .int nbd, .int ntp, .int (nI npr), .int nnw, .int nsn, .int nwn, .ref aNl, .ref aNal, .ref aNlo, .int (nI nac), .ref aNw, .ref aNtr, .ref aNis, .ref aNbg, .ref aNow])), (aNf, .inl (g.2.1 0, 8, .inl (nIf (fnF (updN fi 0 (fi 0 + 1)))))), (aNs, .inl (g.2.1 0, 919, .inl (msF gr wk z lk sz br ru ki ma bb ce hd)))]) dX9_felt_15 ml_X9_88 mX9_finds (ct_finds_0 κ.2.1 g aN aNs aNk aNf aNr aNp aNb aNa aNt aNbo aNsz aNnu aNl aNal aNlo aNw aNtr aNis aNbg aNow nts nta nop npr nac nkp nbd ntp nnw nsn nwn fi) [0, 1] rfl rfl 0 rfl rfl rfl (Nat.le_of_ble_eq_true rfl) (by decide) (Nat.le_refl _) (Nat.le_refl _) (rfl : [aN, aNf] = [aN, aNf]) rfl ?_
    rw [← hQ]
    refine x_iret dX9_felt_18 rfl (Nat.le_of_ble_eq_true rfl) (Nat.le_of_ble_eq_true rfl) ?_
    exact ⟨rfl, rfl⟩

-- == nfelt_n ==
set_option maxRecDepth 100000 in
set_option maxHeartbeats 4000000 in
theorem ct_nfelt_n (l : Launch) (g : XG) (aN aNs aNk aNf aNr aNp aNb aNa aNt aNbo aNsz aNnu aNl aNal aNlo aNw aNtr aNis aNbg aNow nts nta nop npr nac : Nat) (nkp nbd ntp nnw nsn nwn : Int32) (gr wk lk sz br : Nat) (z : Int32) (ru ki ma bb hd : Nat → Nat) (ce : Nat → Int32) (n : Nat) (dr : Nat → Nat) (fi : Nat → Nat) (hwk : wk ≤ 40) (hdw : ∀ w, w < wk → ce (8 * w) = nI (dr w)) (hn : n < 12) (hs : sumN (fun w => bitN (dr w) n) wk = 0 ∨ sumN (fun w => bitN (dr w) n) wk = wk) : Ct l g 34 0 0 yX9_felt cX9_felt 7 (some .int) [.ref aN, .int (nI n)] [(aN, .inr (9, [.ref aNs, .ref aNk, .int nkp, .ref aNf, .ref aNr, .ref aNp, .ref aNb, .ref aNa, .ref aNt, .int (nI nts), .ref aNbo, .ref aNsz, .ref aNnu, .int (nI nta), .int (nI nop), .int nbd, .int ntp, .int (nI npr), .int nnw, .int nsn, .int nwn, .ref aNl, .ref aNal, .ref aNlo, .int (nI nac), .ref aNw, .ref aNtr, .ref aNis, .ref aNbg, .ref aNow])), (aNf, .inl (g.2.1 0, 8, .inl (nIf (fnF fi)))), (aNs, .inl (g.2.1 0, 919, .inl (msF gr wk z lk sz br ru ki ma bb ce hd)))] (xpi (fndI 3) [(aN, .inr (9, [.ref aNs, .ref aNk, .int nkp, .ref aNf, .ref aNr, .ref aNp, .ref aNb, .ref aNa, .ref aNt, .int (nI nts), .ref aNbo, .ref aNsz, .ref aNnu, .int (nI nta), .int (nI nop), .int nbd, .int ntp, .int (nI npr), .int nnw, .int nsn, .int nwn, .ref aNl, .ref aNal, .ref aNlo, .int (nI nac), .ref aNw, .ref aNtr, .ref aNis, .ref aNbg, .ref aNow])), (aNf, .inl (g.2.1 0, 8, .inl (nIf (fnF (updN fi 3 (fi 3 + 1)))))), (aNs, .inl (g.2.1 0, 919, .inl (msF gr wk z lk sz br ru ki ma bb ce hd)))]) := by
  refine Ct.ofX (lv := [some (.ref aN), some (.int (nI n)), none, none, none, none, none]) (by decide) rfl (Nat.le_of_ble_eq_true rfl) (fun κ => ?_)
  generalize hQ : xQ κ g 0 0 _ = Q
  have htl := sumB_le dr n wk
  refine x_iload_n dX9_felt_0 rfl ?_
  refine x_i2l dX9_felt_1 ?_
  refine x_lconst 0 dX9_felt_2 (by decide) ?_
  refine x_ldc2 dX9_felt_3 kl_X9_251 ?_
  refine x_cSi dX9_felt_6 ml_X9_98 mX9_isIn (ct_X9_isIn κ.2.1 g ((nI n).toInt64) 0 11) rfl (Nat.le_of_ble_eq_true rfl) (by decide) (Nat.le_refl _) (Nat.le_refl _) ?_
  refine x_rei (wI (nI n) 0 11) (inL_w (nI n) 0 11 (by first | rfl | decide) (by first | rfl | decide)) ?_
  refine x_rei 1 (show wI (nI n) 0 11 = 1 from wI_nat (n := n) (a := 0) (b := 11) ⟨by omega, by omega, by omega, by omega⟩) ?_
  refine x_if_ne dX9_felt_9 (fun c9 => ?_) (fun c9 => ?_)
  rotate_left
  · exact absurd c9 (by decide)
  refine x_aload_n dX9_felt_19 rfl ?_
  refine x_iload_n dX9_felt_20 rfl ?_
  refine x_cVi0 dX9_felt_21 ml_X9_253 mX9_timesOf (ct_X9_timesOf κ.2.1 g aN aNs aNk aNf aNr aNp aNb aNa aNt aNbo aNsz aNnu aNl aNal aNlo aNw aNtr aNis aNbg aNow nts nta nop npr nac nkp nbd ntp nnw nsn nwn gr wk lk sz br z ru ki ma bb hd ce n dr (hwk) (hdw) (hn)) [0, 2] rfl rfl 0 rfl rfl rfl (Nat.le_of_ble_eq_true rfl) (by decide) (Nat.le_refl _) (Nat.le_refl _) ?_
  refine x_istore_n (lv' := [some (.ref aN), some (.int (nI n)), some (.int (nI (sumN (fun w => bitN (dr w) n) wk))), none, none, none, none]) dX9_felt_24 (xlt rfl) rfl ?_
  refine x_iload_n dX9_felt_25 rfl ?_
  refine x_if_eq dX9_felt_26 (fun c26 => ?_) (fun c26 => ?_)
  · have c26 : (nI (sumN (fun w => bitN (dr w) n) wk)) = 0 := c26
    have c26n := (nI_eq (a := (sumN (fun w => bitN (dr w) n) wk)) (b := 0) (by omega) (by omega)).mp c26
    refine x_aload_n dX9_felt_39 rfl ?_
    refine x_ldc dX9_felt_40 k_X9_239 ?_
    refine x_cVi (ws' := [(aN, .inr (9, [.ref aNs, .ref aNk, .int nkp, .ref aNf, .ref aNr, .ref aNp, .ref aNb, .ref aNa, .ref aNt, .int (nI nts), .ref aNbo, .ref aNsz, .ref aNnu, .int (nI nta), .int (nI nop), .int nbd, .int ntp, .int (nI npr), .int nnw, .int nsn, .int nwn, .ref aNl, .ref aNal, .ref aNlo, .int (nI nac), .ref aNw, .ref aNtr, .ref aNis, .ref aNbg, .ref aNow])), (aNf, .inl (g.2.1 0, 8, .inl (nIf (fnF (updN fi 3 (fi 3 + 1)))))), (aNs, .inl (g.2.1 0, 919, .inl (msF gr wk z lk sz br ru ki ma bb ce hd)))]) dX9_felt_42 ml_X9_88 mX9_finds (ct_finds_3 κ.2.1 g aN aNs aNk aNf aNr aNp aNb aNa aNt aNbo aNsz aNnu aNl aNal aNlo aNw aNtr aNis aNbg aNow nts nta nop npr nac nkp nbd ntp nnw nsn nwn fi) [0, 1] rfl rfl 0 rfl rfl rfl (Nat.le_of_ble_eq_true rfl) (by decide) (Nat.le_refl _) (Nat.le_refl _) (rfl : [aN, aNf] = [aN, aNf]) rfl ?_
    rw [← hQ]
    refine x_iret dX9_felt_45 rfl (Nat.le_of_ble_eq_true rfl) (Nat.le_of_ble_eq_true rfl) ?_
    exact ⟨rfl, rfl⟩
  · have c26 : ¬ ((nI (sumN (fun w => bitN (dr w) n) wk)) = 0) := c26
    have c26n := mt (nI_eq (a := (sumN (fun w => bitN (dr w) n) wk)) (b := 0) (by omega) (by omega)).mpr c26
    refine x_iload_n dX9_felt_29 rfl ?_
    refine x_aload_n dX9_felt_30 rfl ?_
    refine x_get dX9_felt_31 0 0 inX9 fl_X9_7 rfl rfl (by decide) rfl ?_
    refine x_iconst 1 dX9_felt_34 (by decide) ?_
    refine x_iald dX9_felt_35 2 1 rfl (rfl) (by decide) (by decide) ?_
    refine x_rei (nI wk) (rfl) ?_
    refine x_icmp_ne dX9_felt_36 (fun c36 => ?_) (fun c36 => ?_)
    · have c36 : ¬ ((nI (sumN (fun w => bitN (dr w) n) wk)) = (nI wk)) := c36
      have c36n := mt (nI_eq (a := (sumN (fun w => bitN (dr w) n) wk)) (b := wk) (by omega) (by omega)).mpr c36
      exact absurd c36n (by omega)
    · have c36 : (nI (sumN (fun w => bitN (dr w) n) wk)) = (nI wk) := c36
      have c36n := (nI_eq (a := (sumN (fun w => bitN (dr w) n) wk)) (b := wk) (by omega) (by omega)).mp c36
      refine x_aload_n dX9_felt_39 rfl ?_
      refine x_ldc dX9_felt_40 k_X9_239 ?_
      refine x_cVi (ws' := [(aN, .inr (9, [.ref aNs, .ref aNk, .int nkp, .ref aNf, .ref aNr, .ref aNp, .ref aNb, .ref aNa, .ref aNt, .int (nI nts), .ref aNbo, .ref aNsz, .ref aNnu, .int (nI nta), .int (nI nop), .int nbd, .int ntp, .int (nI npr), .int nnw, .int nsn, .int nwn, .ref aNl, .ref aNal, .ref aNlo, .int (nI nac), .ref aNw, .ref aNtr, .ref aNis, .ref aNbg, .ref aNow])), (aNf, .inl (g.2.1 0, 8, .inl (nIf (fnF (updN fi 3 (fi 3 + 1)))))), (aNs, .inl (g.2.1 0, 919, .inl (msF gr wk z lk sz br ru ki ma bb ce hd)))]) dX9_felt_42 ml_X9_88 mX9_finds (ct_finds_3 κ.2.1 g aN aNs aNk aNf aNr aNp aNb aNa aNt aNbo aNsz aNnu aNl aNal aNlo aNw aNtr aNis aNbg aNow nts nta nop npr nac nkp nbd ntp nnw nsn nwn fi) [0, 1] rfl rfl 0 rfl rfl rfl (Nat.le_of_ble_eq_true rfl) (by decide) (Nat.le_refl _) (Nat.le_refl _) (rfl : [aN, aNf] = [aN, aNf]) rfl ?_
      rw [← hQ]
      refine x_iret dX9_felt_45 rfl (Nat.le_of_ble_eq_true rfl) (Nat.le_of_ble_eq_true rfl) ?_
      exact ⟨rfl, rfl⟩

-- == nfelt_o ==
set_option maxRecDepth 100000 in
set_option maxHeartbeats 4000000 in
theorem ct_nfelt_o (l : Launch) (g : XG) (aN aNs aNk aNf aNr aNp aNb aNa aNt aNbo aNsz aNnu aNl aNal aNlo aNw aNtr aNis aNbg aNow nts nta nop npr nac : Nat) (nkp nbd ntp nnw nsn nwn : Int32) (gr wk lk sz br : Nat) (z : Int32) (ru ki ma bb hd : Nat → Nat) (ce : Nat → Int32) (n : Nat) (dr : Nat → Nat) (fi : Nat → Nat) (hwk : wk ≤ 40) (hdw : ∀ w, w < wk → ce (8 * w) = nI (dr w)) (hn : n < 12) (hs : ¬ sumN (fun w => bitN (dr w) n) wk = 0 ∧ ¬ sumN (fun w => bitN (dr w) n) wk = wk) : Ct l g 34 0 0 yX9_felt cX9_felt 7 (some .int) [.ref aN, .int (nI n)] [(aN, .inr (9, [.ref aNs, .ref aNk, .int nkp, .ref aNf, .ref aNr, .ref aNp, .ref aNb, .ref aNa, .ref aNt, .int (nI nts), .ref aNbo, .ref aNsz, .ref aNnu, .int (nI nta), .int (nI nop), .int nbd, .int ntp, .int (nI npr), .int nnw, .int nsn, .int nwn, .ref aNl, .ref aNal, .ref aNlo, .int (nI nac), .ref aNw, .ref aNtr, .ref aNis, .ref aNbg, .ref aNow])), (aNf, .inl (g.2.1 0, 8, .inl (nIf (fnF fi)))), (aNs, .inl (g.2.1 0, 919, .inl (msF gr wk z lk sz br ru ki ma bb ce hd)))] (xpi (rtwN ce dr n wk 1 / nI (sumN (fun w => bitN (dr w) n) wk) - rtwN ce dr n wk 0 / nI (wk - sumN (fun w => bitN (dr w) n) wk)) [(aN, .inr (9, [.ref aNs, .ref aNk, .int nkp, .ref aNf, .ref aNr, .ref aNp, .ref aNb, .ref aNa, .ref aNt, .int (nI nts), .ref aNbo, .ref aNsz, .ref aNnu, .int (nI nta), .int (nI nop), .int nbd, .int ntp, .int (nI npr), .int nnw, .int nsn, .int nwn, .ref aNl, .ref aNal, .ref aNlo, .int (nI nac), .ref aNw, .ref aNtr, .ref aNis, .ref aNbg, .ref aNow])), (aNf, .inl (g.2.1 0, 8, .inl (nIf (fnF fi)))), (aNs, .inl (g.2.1 0, 919, .inl (msF gr wk z lk sz br ru ki ma bb ce hd)))]) := by
  refine Ct.ofX (lv := [some (.ref aN), some (.int (nI n)), none, none, none, none, none]) (by decide) rfl (Nat.le_of_ble_eq_true rfl) (fun κ => ?_)
  generalize hQ : xQ κ g 0 0 _ = Q
  have htl := sumB_le dr n wk
  refine x_iload_n dX9_felt_0 rfl ?_
  refine x_i2l dX9_felt_1 ?_
  refine x_lconst 0 dX9_felt_2 (by decide) ?_
  refine x_ldc2 dX9_felt_3 kl_X9_251 ?_
  refine x_cSi dX9_felt_6 ml_X9_98 mX9_isIn (ct_X9_isIn κ.2.1 g ((nI n).toInt64) 0 11) rfl (Nat.le_of_ble_eq_true rfl) (by decide) (Nat.le_refl _) (Nat.le_refl _) ?_
  refine x_rei (wI (nI n) 0 11) (inL_w (nI n) 0 11 (by first | rfl | decide) (by first | rfl | decide)) ?_
  refine x_rei 1 (show wI (nI n) 0 11 = 1 from wI_nat (n := n) (a := 0) (b := 11) ⟨by omega, by omega, by omega, by omega⟩) ?_
  refine x_if_ne dX9_felt_9 (fun c9 => ?_) (fun c9 => ?_)
  rotate_left
  · exact absurd c9 (by decide)
  refine x_aload_n dX9_felt_19 rfl ?_
  refine x_iload_n dX9_felt_20 rfl ?_
  refine x_cVi0 dX9_felt_21 ml_X9_253 mX9_timesOf (ct_X9_timesOf κ.2.1 g aN aNs aNk aNf aNr aNp aNb aNa aNt aNbo aNsz aNnu aNl aNal aNlo aNw aNtr aNis aNbg aNow nts nta nop npr nac nkp nbd ntp nnw nsn nwn gr wk lk sz br z ru ki ma bb hd ce n dr (hwk) (hdw) (hn)) [0, 2] rfl rfl 0 rfl rfl rfl (Nat.le_of_ble_eq_true rfl) (by decide) (Nat.le_refl _) (Nat.le_refl _) ?_
  refine x_istore_n (lv' := [some (.ref aN), some (.int (nI n)), some (.int (nI (sumN (fun w => bitN (dr w) n) wk))), none, none, none, none]) dX9_felt_24 (xlt rfl) rfl ?_
  refine x_iload_n dX9_felt_25 rfl ?_
  refine x_if_eq dX9_felt_26 (fun c26 => ?_) (fun c26 => ?_)
  · have c26 : (nI (sumN (fun w => bitN (dr w) n) wk)) = 0 := c26
    have c26n := (nI_eq (a := (sumN (fun w => bitN (dr w) n) wk)) (b := 0) (by omega) (by omega)).mp c26
    exact absurd c26n (by omega)
  · have c26 : ¬ ((nI (sumN (fun w => bitN (dr w) n) wk)) = 0) := c26
    have c26n := mt (nI_eq (a := (sumN (fun w => bitN (dr w) n) wk)) (b := 0) (by omega) (by omega)).mpr c26
    refine x_iload_n dX9_felt_29 rfl ?_
    refine x_aload_n dX9_felt_30 rfl ?_
    refine x_get dX9_felt_31 0 0 inX9 fl_X9_7 rfl rfl (by decide) rfl ?_
    refine x_iconst 1 dX9_felt_34 (by decide) ?_
    refine x_iald dX9_felt_35 2 1 rfl (rfl) (by decide) (by decide) ?_
    refine x_rei (nI wk) (rfl) ?_
    refine x_icmp_ne dX9_felt_36 (fun c36 => ?_) (fun c36 => ?_)
    · have c36 : ¬ ((nI (sumN (fun w => bitN (dr w) n) wk)) = (nI wk)) := c36
      have c36n := mt (nI_eq (a := (sumN (fun w => bitN (dr w) n) wk)) (b := wk) (by omega) (by omega)).mpr c36
      refine x_iconst 0 dX9_felt_46 (by decide) ?_
      refine x_istore_n (lv' := [some (.ref aN), some (.int (nI n)), some (.int (nI (sumN (fun w => bitN (dr w) n) wk))), some (.int 0), none, none, none]) dX9_felt_47 (xlt rfl) rfl ?_
      refine x_iconst 0 dX9_felt_48 (by decide) ?_
      refine x_istore (lv' := [some (.ref aN), some (.int (nI n)), some (.int (nI (sumN (fun w => bitN (dr w) n) wk))), some (.int 0), some (.int 0), none, none]) dX9_felt_49 (xlt rfl) rfl ?_
      refine x_iconst 0 dX9_felt_51 (by decide) ?_
      refine x_istore (lv' := [some (.ref aN), some (.int (nI n)), some (.int (nI (sumN (fun w => bitN (dr w) n) wk))), some (.int 0), some (.int 0), some (.int 0), none]) dX9_felt_52 (xlt rfl) rfl ?_
      have L54_1 : ∀ (i : Nat), i ≤ wk → ∀ (wt : Int32), wt = rtwN ce dr n i 1 → ∀ (wo : Int32), wo = rtwN ce dr n i 0 → Xs κ g 34 0 0 cX9_felt yX9_felt (some .int) Q 0 0 54 [some (.ref aN), some (.int (nI n)), some (.int (nI (sumN (fun w => bitN (dr w) n) wk))), some (.int wt), some (.int wo), some (.int (nI i)), none] [] [(aN, .inr (9, [.ref aNs, .ref aNk, .int nkp, .ref aNf, .ref aNr, .ref aNp, .ref aNb, .ref aNa, .ref aNt, .int (nI nts), .ref aNbo, .ref aNsz, .ref aNnu, .int (nI nta), .int (nI nop), .int nbd, .int ntp, .int (nI npr), .int nnw, .int nsn, .int nwn, .ref aNl, .ref aNal, .ref aNlo, .int (nI nac), .ref aNw, .ref aNtr, .ref aNis, .ref aNbg, .ref aNow])), (aNf, .inl (g.2.1 0, 8, .inl (nIf (fnF fi)))), (aNs, .inl (g.2.1 0, 919, .inl (msF gr wk z lk sz br ru ki ma bb ce hd)))] := by
        refine upTo wk (fun i hi54 ih54 => ?_)
        intro wt ewt
        subst ewt
        intro wo ewo
        subst ewo
        have hbn := bitN_lt (dr i) n
        refine x_iload dX9_felt_54 rfl ?_
        refine x_aload_n dX9_felt_56 rfl ?_
        refine x_get dX9_felt_57 0 0 inX9 fl_X9_7 rfl rfl (by decide) rfl ?_
        refine x_iconst 1 dX9_felt_60 (by decide) ?_
        refine x_iald dX9_felt_61 2 1 rfl (rfl) (by decide) (by decide) ?_
        refine x_rei (nI wk) (rfl) ?_
        refine x_icmp_ge dX9_felt_62 (fun c62 => ?_) (fun c62 => ?_)
        · have c62 : (nI wk) ≤ (nI i) := c62
          have c62n := (nI_leI (a := wk) (b := i) (by omega) (by omega)).mp c62
          have hxc62 : i = wk := by omega
          try rw [hxc62]
          refine x_iload_n dX9_felt_134 rfl ?_
          refine x_iload_n dX9_felt_135 rfl ?_
          refine x_idiv dX9_felt_136 (nI_ne0 (by omega) (by omega)) ?_
          refine x_iload dX9_felt_137 rfl ?_
          refine x_aload_n dX9_felt_139 rfl ?_
          refine x_get dX9_felt_140 0 0 inX9 fl_X9_7 rfl rfl (by decide) rfl ?_
          refine x_iconst 1 dX9_felt_143 (by decide) ?_
          refine x_iald dX9_felt_144 2 1 rfl (rfl) (by decide) (by decide) ?_
          refine x_rei (nI wk) (rfl) ?_
          refine x_iload_n dX9_felt_145 rfl ?_
          refine x_isub dX9_felt_146 ?_
          refine x_rei (nI (wk - (sumN (fun w => bitN (dr w) n) wk))) (nI_isub wk (sumN (fun w => bitN (dr w) n) wk) (by omega)) ?_
          refine x_idiv dX9_felt_147 (nI_ne0 (by omega) (by omega)) ?_
          refine x_isub dX9_felt_148 ?_
          rw [← hQ]
          refine x_iret dX9_felt_149 rfl (Nat.le_of_ble_eq_true rfl) (Nat.le_of_ble_eq_true rfl) ?_
          exact ⟨rfl, rfl⟩
        · have c62 : ¬ ((nI wk) ≤ (nI i)) := c62
          have c62n := mt (nI_leI (a := wk) (b := i) (by omega) (by omega)).mpr c62
          refine x_aload_n dX9_felt_65 rfl ?_
          refine x_get dX9_felt_66 0 0 inX9 fl_X9_7 rfl rfl (by decide) rfl ?_
          refine x_bipush 104 dX9_felt_69 (by decide) ?_
          refine x_bipush 8 dX9_felt_71 (by decide) ?_
          refine x_iload dX9_felt_73 rfl ?_
          refine x_imul dX9_felt_75 ?_
          refine x_rei (nI (8 * i)) (nI_imul 8 i) ?_
          refine x_iadd dX9_felt_76 ?_
          refine x_rei (nI (104 + (8 * i))) (nI_iadd 104 (8 * i)) ?_
          refine x_iconst 3 dX9_felt_77 (by decide) ?_
          refine x_iadd dX9_felt_78 ?_
          refine x_rei (nI ((104 + (8 * i)) + 3)) (nI_addc (104 + (8 * i)) 3 rfl) ?_
          refine x_iald dX9_felt_79 2 ((104 + (8 * i)) + 3) rfl (rfl) (by omega) (by decide) ?_
          refine x_rei (ce ((8 * i) + 3)) (msg_ce (x := (8 * i) + 3) (by omega) (by omega)) ?_
          refine x_istore (lv' := [some (.ref aN), some (.int (nI n)), some (.int (nI (sumN (fun w => bitN (dr w) n) wk))), some (.int (rtwN ce dr n i 1)), some (.int (rtwN ce dr n i 0)), some (.int (nI i)), some (.int (ce ((8 * i) + 3)))]) dX9_felt_80 (xlt rfl) rfl ?_
          refine x_iload_n dX9_felt_82 rfl ?_
          refine x_aload_n dX9_felt_83 rfl ?_
          refine x_iload dX9_felt_84 rfl ?_
          refine x_cVi0 dX9_felt_86 ml_X9_248 mX9_drawAt (ct_X9_drawAt κ.2.1 g aN aNs aNk aNf aNr aNp aNb aNa aNt aNbo aNsz aNnu aNl aNal aNlo aNw aNtr aNis aNbg aNow nts nta nop npr nac nkp nbd ntp nnw nsn nwn gr wk lk sz br z ru ki ma bb hd ce i (dr i) (by omega) (hdw i (by omega))) [0, 2] rfl rfl 0 rfl rfl rfl (Nat.le_of_ble_eq_true rfl) (by decide) (Nat.le_refl _) (Nat.le_refl _) ?_
          refine x_iload_n dX9_felt_89 rfl ?_
          refine x_cSi dX9_felt_90 ml_X9_83 mX9_has (ct_X9_has κ.2.1 g (dr i) n (by omega)) rfl (Nat.le_of_ble_eq_true rfl) (by decide) (Nat.le_refl _) (Nat.le_refl _) ?_
          have J93_3 : ∀ (v2 : Int32), v2 = (if (nI (bitN (dr i) n)) = 0 then 0 else ce ((8 * i) + 3)) → Xs κ g 34 0 0 cX9_felt yX9_felt (some .int) Q 0 0 102 [some (.ref aN), some (.int (nI n)), some (.int (nI (sumN (fun w => bitN (dr w) n) wk))), some (.int (rtwN ce dr n i 1)), some (.int (rtwN ce dr n i 0)), some (.int (nI i)), some (.int (ce ((8 * i) + 3)))] [.int v2, .int (rtwN ce dr n i 1)] [(aN, .inr (9, [.ref aNs, .ref aNk, .int nkp, .ref aNf, .ref aNr, .ref aNp, .ref aNb, .ref aNa, .ref aNt, .int (nI nts), .ref aNbo, .ref aNsz, .ref aNnu, .int (nI nta), .int (nI nop), .int nbd, .int ntp, .int (nI npr), .int nnw, .int nsn, .int nwn, .ref aNl, .ref aNal, .ref aNlo, .int (nI nac), .ref aNw, .ref aNtr, .ref aNis, .ref aNbg, .ref aNow])), (aNf, .inl (g.2.1 0, 8, .inl (nIf (fnF fi)))), (aNs, .inl (g.2.1 0, 919, .inl (msF gr wk z lk sz br ru ki ma bb ce hd)))] := by
            intro v2 ev2
            refine x_iadd dX9_felt_102 ?_
            refine x_istore_n (lv' := [some (.ref aN), some (.int (nI n)), some (.int (nI (sumN (fun w => bitN (dr w) n) wk))), some (.int ((rtwN ce dr n i 1) + v2)), some (.int (rtwN ce dr n i 0)), some (.int (nI i)), some (.int (ce ((8 * i) + 3)))]) dX9_felt_103 (xlt rfl) rfl ?_
            refine x_iload dX9_felt_104 rfl ?_
            refine x_aload_n dX9_felt_106 rfl ?_
            refine x_iload dX9_felt_107 rfl ?_
            refine x_cVi0 dX9_felt_109 ml_X9_248 mX9_drawAt (ct_X9_drawAt κ.2.1 g aN aNs aNk aNf aNr aNp aNb aNa aNt aNbo aNsz aNnu aNl aNal aNlo aNw aNtr aNis aNbg aNow nts nta nop npr nac nkp nbd ntp nnw nsn nwn gr wk lk sz br z ru ki ma bb hd ce i (dr i) (by omega) (hdw i (by omega))) [0, 2] rfl rfl 0 rfl rfl rfl (Nat.le_of_ble_eq_true rfl) (by decide) (Nat.le_refl _) (Nat.le_refl _) ?_
            refine x_iload_n dX9_felt_112 rfl ?_
            refine x_cSi dX9_felt_113 ml_X9_83 mX9_has (ct_X9_has κ.2.1 g (dr i) n (by omega)) rfl (Nat.le_of_ble_eq_true rfl) (by decide) (Nat.le_refl _) (Nat.le_refl _) ?_
            have J116_5 : ∀ (v4 : Int32), v4 = (if (nI (bitN (dr i) n)) = 0 then ce ((8 * i) + 3) else 0) → Xs κ g 34 0 0 cX9_felt yX9_felt (some .int) Q 0 0 125 [some (.ref aN), some (.int (nI n)), some (.int (nI (sumN (fun w => bitN (dr w) n) wk))), some (.int ((rtwN ce dr n i 1) + v2)), some (.int (rtwN ce dr n i 0)), some (.int (nI i)), some (.int (ce ((8 * i) + 3)))] [.int v4, .int (rtwN ce dr n i 0)] [(aN, .inr (9, [.ref aNs, .ref aNk, .int nkp, .ref aNf, .ref aNr, .ref aNp, .ref aNb, .ref aNa, .ref aNt, .int (nI nts), .ref aNbo, .ref aNsz, .ref aNnu, .int (nI nta), .int (nI nop), .int nbd, .int ntp, .int (nI npr), .int nnw, .int nsn, .int nwn, .ref aNl, .ref aNal, .ref aNlo, .int (nI nac), .ref aNw, .ref aNtr, .ref aNis, .ref aNbg, .ref aNow])), (aNf, .inl (g.2.1 0, 8, .inl (nIf (fnF fi)))), (aNs, .inl (g.2.1 0, 919, .inl (msF gr wk z lk sz br ru ki ma bb ce hd)))] := by
              intro v4 ev4
              refine x_iadd dX9_felt_125 ?_
              refine x_istore (lv' := [some (.ref aN), some (.int (nI n)), some (.int (nI (sumN (fun w => bitN (dr w) n) wk))), some (.int ((rtwN ce dr n i 1) + v2)), some (.int ((rtwN ce dr n i 0) + v4)), some (.int (nI i)), some (.int (ce ((8 * i) + 3)))]) dX9_felt_126 (xlt rfl) rfl ?_
              refine x_iinc (lv' := [some (.ref aN), some (.int (nI n)), some (.int (nI (sumN (fun w => bitN (dr w) n) wk))), some (.int ((rtwN ce dr n i 1) + v2)), some (.int ((rtwN ce dr n i 0) + v4)), some (.int (nI (i + 1))), some (.int (ce ((8 * i) + 3)))]) (nI (i + 1)) dX9_felt_128 rfl (nI_addc i 1 rfl) rfl ?_
              refine x_goto dX9_felt_131 ?_
              refine x_fgt (lv' := [some (.ref aN), some (.int (nI n)), some (.int (nI (sumN (fun w => bitN (dr w) n) wk))), some (.int ((rtwN ce dr n i 1) + v2)), some (.int ((rtwN ce dr n i 0) + v4)), some (.int (nI (i + 1))), none]) ⟨Or.inr rfl, Or.inr rfl, Or.inr rfl, Or.inr rfl, Or.inr rfl, Or.inr rfl, Or.inl rfl, trivial⟩ ?_
              exact ih54 (by omega) _ (by simp only [ev2]; exact rtw_1 _ _ _ _) _ (by simp only [ev4]; exact rtw_0 _ _ _ _)
            refine x_if_eq dX9_felt_116 (fun c116 => ?_) (fun c116 => ?_)
            · have c116 : (nI (bitN (dr i) n)) = 0 := c116
              refine x_iload dX9_felt_123 rfl ?_
              exact J116_5 _ (if_pos c116).symm
            · have c116 : ¬ ((nI (bitN (dr i) n)) = 0) := c116
              refine x_iconst 0 dX9_felt_119 (by decide) ?_
              refine x_goto dX9_felt_120 ?_
              exact J116_5 _ (if_neg c116).symm
          refine x_if_eq dX9_felt_93 (fun c93 => ?_) (fun c93 => ?_)
          · have c93 : (nI (bitN (dr i) n)) = 0 := c93
            refine x_iconst 0 dX9_felt_101 (by decide) ?_
            exact J93_3 _ (if_pos c93).symm
          · have c93 : ¬ ((nI (bitN (dr i) n)) = 0) := c93
            refine x_iload dX9_felt_96 rfl ?_
            refine x_goto dX9_felt_98 ?_
            exact J93_3 _ (if_neg c93).symm
      exact L54_1 0 (Nat.zero_le _) _ (by rfl) _ (by rfl)
    · have c36 : (nI (sumN (fun w => bitN (dr w) n) wk)) = (nI wk) := c36
      have c36n := (nI_eq (a := (sumN (fun w => bitN (dr w) n) wk)) (b := wk) (by omega) (by omega)).mp c36
      exact absurd c36n (by omega)

-- == ncount_b ==
theorem dX9_count_0 : xd cX9_count 0 (.iload_n 1) 1 1 := ⟨by decide +kernel, rfl⟩
theorem dX9_count_1 : xd cX9_count 1 .i2l 1 2 := ⟨by decide +kernel, rfl⟩
theorem dX9_count_2 : xd cX9_count 2 (.lconst 0) 1 3 := ⟨by decide +kernel, rfl⟩
theorem dX9_count_3 : xd cX9_count 3 (.ldc2_w 96) 3 6 := ⟨by decide +kernel, rfl⟩
theorem dX9_count_6 : xd cX9_count 6 (.invokestatic 98) 3 9 := ⟨by decide +kernel, rfl⟩
theorem dX9_count_9 : xj cX9_count 9 (.ifCond .ne) 12 19 := ⟨10, by decide +kernel, rfl, by decide⟩
theorem dX9_count_12 : xd cX9_count 12 (.aload_n 0) 1 13 := ⟨by decide +kernel, rfl⟩
theorem dX9_count_13 : xd cX9_count 13 (.ldc 87) 2 15 := ⟨by decide +kernel, rfl⟩
theorem dX9_count_15 : xd cX9_count 15 (.invokevirtual 88) 3 18 := ⟨by decide +kernel, rfl⟩
theorem dX9_count_18 : xd cX9_count 18 .ireturn 1 19 := ⟨by decide +kernel, rfl⟩
theorem dX9_count_19 : xd cX9_count 19 (.aload_n 0) 1 20 := ⟨by decide +kernel, rfl⟩
theorem dX9_count_20 : xd cX9_count 20 (.invokevirtual 198) 3 23 := ⟨by decide +kernel, rfl⟩
theorem dX9_count_23 : xd cX9_count 23 (.iload_n 1) 1 24 := ⟨by decide +kernel, rfl⟩
theorem dX9_count_24 : decode cX9_count 24 = .ok (.tableswitch 89 0 6 #[44, 51, 58, 63, 70, 77, 82], 44) := by decide +kernel
theorem dX9_count_68 : xd cX9_count 68 (.aload_n 0) 1 69 := ⟨by decide +kernel, rfl⟩
theorem dX9_count_69 : xd cX9_count 69 (.getfield 7) 3 72 := ⟨by decide +kernel, rfl⟩
theorem dX9_count_72 : xd cX9_count 72 (.iconst 0) 1 73 := ⟨by decide +kernel, rfl⟩
theorem dX9_count_73 : xd cX9_count 73 .iaload 1 74 := ⟨by decide +kernel, rfl⟩
theorem dX9_count_74 : xd cX9_count 74 .ireturn 1 75 := ⟨by decide +kernel, rfl⟩
theorem dX9_count_75 : xd cX9_count 75 (.aload_n 0) 1 76 := ⟨by decide +kernel, rfl⟩
theorem dX9_count_76 : xd cX9_count 76 (.getfield 7) 3 79 := ⟨by decide +kernel, rfl⟩
theorem dX9_count_79 : xd cX9_count 79 (.iconst 1) 1 80 := ⟨by decide +kernel, rfl⟩
theorem dX9_count_80 : xd cX9_count 80 .iaload 1 81 := ⟨by decide +kernel, rfl⟩
theorem dX9_count_81 : xd cX9_count 81 .ireturn 1 82 := ⟨by decide +kernel, rfl⟩
theorem dX9_count_82 : xd cX9_count 82 (.aload_n 0) 1 83 := ⟨by decide +kernel, rfl⟩
theorem dX9_count_83 : xd cX9_count 83 (.getfield 192) 3 86 := ⟨by decide +kernel, rfl⟩
theorem dX9_count_86 : xd cX9_count 86 .ireturn 1 87 := ⟨by decide +kernel, rfl⟩
theorem dX9_count_87 : xd cX9_count 87 (.aload_n 0) 1 88 := ⟨by decide +kernel, rfl⟩
theorem dX9_count_88 : xd cX9_count 88 (.getfield 7) 3 91 := ⟨by decide +kernel, rfl⟩
theorem dX9_count_91 : xd cX9_count 91 (.iconst 5) 1 92 := ⟨by decide +kernel, rfl⟩
theorem dX9_count_92 : xd cX9_count 92 .iaload 1 93 := ⟨by decide +kernel, rfl⟩
theorem dX9_count_93 : xd cX9_count 93 .ireturn 1 94 := ⟨by decide +kernel, rfl⟩
theorem dX9_count_94 : xd cX9_count 94 (.aload_n 0) 1 95 := ⟨by decide +kernel, rfl⟩
theorem dX9_count_95 : xd cX9_count 95 (.getfield 7) 3 98 := ⟨by decide +kernel, rfl⟩
theorem dX9_count_98 : xd cX9_count 98 (.iconst 3) 1 99 := ⟨by decide +kernel, rfl⟩
theorem dX9_count_99 : xd cX9_count 99 .iaload 1 100 := ⟨by decide +kernel, rfl⟩
theorem dX9_count_100 : xd cX9_count 100 .ireturn 1 101 := ⟨by decide +kernel, rfl⟩
theorem dX9_count_101 : xd cX9_count 101 (.aload_n 0) 1 102 := ⟨by decide +kernel, rfl⟩
theorem dX9_count_102 : xd cX9_count 102 (.getfield 115) 3 105 := ⟨by decide +kernel, rfl⟩
theorem dX9_count_105 : xd cX9_count 105 .ireturn 1 106 := ⟨by decide +kernel, rfl⟩
theorem dX9_count_106 : xd cX9_count 106 (.aload_n 0) 1 107 := ⟨by decide +kernel, rfl⟩
theorem dX9_count_107 : xd cX9_count 107 (.getfield 7) 3 110 := ⟨by decide +kernel, rfl⟩
theorem dX9_count_110 : xd cX9_count 110 (.iconst 2) 1 111 := ⟨by decide +kernel, rfl⟩
theorem dX9_count_111 : xd cX9_count 111 .iaload 1 112 := ⟨by decide +kernel, rfl⟩
theorem dX9_count_112 : xd cX9_count 112 .ireturn 1 113 := ⟨by decide +kernel, rfl⟩
theorem dX9_count_113 : xd cX9_count 113 (.aload_n 0) 1 114 := ⟨by decide +kernel, rfl⟩
theorem dX9_count_114 : xd cX9_count 114 (.getfield 7) 3 117 := ⟨by decide +kernel, rfl⟩
theorem dX9_count_117 : xd cX9_count 117 (.bipush 17) 2 119 := ⟨by decide +kernel, rfl⟩
theorem dX9_count_119 : xd cX9_count 119 .iaload 1 120 := ⟨by decide +kernel, rfl⟩
theorem dX9_count_120 : xd cX9_count 120 .ireturn 1 121 := ⟨by decide +kernel, rfl⟩

set_option maxRecDepth 100000 in
set_option maxHeartbeats 4000000 in
theorem ct_ncount_b (l : Launch) (g : XG) (aN aNs aNk aNf aNr aNp aNb aNa aNt aNbo aNsz aNnu aNl aNal aNlo aNw aNtr aNis aNbg aNow nts nta nop npr nac : Nat) (nkp nbd ntp nnw nsn nwn : Int32) (fi : Nat → Nat) (wh : Int32) (gr wk lk sz br : Nat) (z : Int32) (ru ki ma bb hd : Nat → Nat) (ce : Nat → Int32) (hb : wI wh 0 7 = 0) : Ct l g 34 0 0 yX9_count cX9_count 2 (some .int) [.ref aN, .int wh] [(aN, .inr (9, [.ref aNs, .ref aNk, .int nkp, .ref aNf, .ref aNr, .ref aNp, .ref aNb, .ref aNa, .ref aNt, .int (nI nts), .ref aNbo, .ref aNsz, .ref aNnu, .int (nI nta), .int (nI nop), .int nbd, .int ntp, .int (nI npr), .int nnw, .int nsn, .int nwn, .ref aNl, .ref aNal, .ref aNlo, .int (nI nac), .ref aNw, .ref aNtr, .ref aNis, .ref aNbg, .ref aNow])), (aNf, .inl (g.2.1 0, 8, .inl (nIf (fnF fi)))), (aNs, .inl (g.2.1 0, 919, .inl (msF gr wk z lk sz br ru ki ma bb ce hd)))] (xpi (fndI 0) [(aN, .inr (9, [.ref aNs, .ref aNk, .int nkp, .ref aNf, .ref aNr, .ref aNp, .ref aNb, .ref aNa, .ref aNt, .int (nI nts), .ref aNbo, .ref aNsz, .ref aNnu, .int (nI nta), .int (nI nop), .int nbd, .int ntp, .int (nI npr), .int nnw, .int nsn, .int nwn, .ref aNl, .ref aNal, .ref aNlo, .int (nI nac), .ref aNw, .ref aNtr, .ref aNis, .ref aNbg, .ref aNow])), (aNf, .inl (g.2.1 0, 8, .inl (nIf (fnF (updN fi 0 (fi 0 + 1)))))), (aNs, .inl (g.2.1 0, 919, .inl (msF gr wk z lk sz br ru ki ma bb ce hd)))]) := by
  refine Ct.ofX (lv := [some (.ref aN), some (.int wh)]) (by decide) rfl (Nat.le_of_ble_eq_true rfl) (fun κ => ?_)
  generalize hQ : xQ κ g 0 0 _ = Q
  refine x_iload_n dX9_count_0 rfl ?_
  refine x_i2l dX9_count_1 ?_
  refine x_lconst 0 dX9_count_2 (by decide) ?_
  refine x_ldc2 dX9_count_3 kl_X9_96 ?_
  refine x_cSi dX9_count_6 ml_X9_98 mX9_isIn (ct_X9_isIn κ.2.1 g wh.toInt64 0 7) rfl (Nat.le_of_ble_eq_true rfl) (by decide) (Nat.le_refl _) (Nat.le_refl _) ?_
  refine x_rei (wI wh 0 7) (inL_w wh 0 7 (by first | rfl | decide) (by first | rfl | decide)) ?_
  refine x_if_ne dX9_count_9 (fun c9 => ?_) (fun c9 => ?_)
  · have c9 : ¬ ((wI wh 0 7) = 0) := c9
    exact absurd hb c9
  · have c9 : (wI wh 0 7) = 0 := c9
    refine x_aload_n dX9_count_12 rfl ?_
    refine x_ldc dX9_count_13 k_X9_87 ?_
    refine x_cVi (ws' := [(aN, .inr (9, [.ref aNs, .ref aNk, .int nkp, .ref aNf, .ref aNr, .ref aNp, .ref aNb, .ref aNa, .ref aNt, .int (nI nts), .ref aNbo, .ref aNsz, .ref aNnu, .int (nI nta), .int (nI nop), .int nbd, .int ntp, .int (nI npr), .int nnw, .int nsn, .int nwn, .ref aNl, .ref aNal, .ref aNlo, .int (nI nac), .ref aNw, .ref aNtr, .ref aNis, .ref aNbg, .ref aNow])), (aNf, .inl (g.2.1 0, 8, .inl (nIf (fnF (updN fi 0 (fi 0 + 1)))))), (aNs, .inl (g.2.1 0, 919, .inl (msF gr wk z lk sz br ru ki ma bb ce hd)))]) dX9_count_15 ml_X9_88 mX9_finds (ct_finds_0 κ.2.1 g aN aNs aNk aNf aNr aNp aNb aNa aNt aNbo aNsz aNnu aNl aNal aNlo aNw aNtr aNis aNbg aNow nts nta nop npr nac nkp nbd ntp nnw nsn nwn fi) [0, 1] rfl rfl 0 rfl rfl rfl (Nat.le_of_ble_eq_true rfl) (by decide) (Nat.le_refl _) (Nat.le_refl _) (rfl : [aN, aNf] = [aN, aNf]) rfl ?_
    rw [← hQ]
    refine x_iret dX9_count_18 rfl (Nat.le_of_ble_eq_true rfl) (Nat.le_of_ble_eq_true rfl) ?_
    exact ⟨rfl, rfl⟩

-- == ncount_0 ==
set_option maxRecDepth 100000 in
set_option maxHeartbeats 4000000 in
theorem ct_ncount_0 (l : Launch) (g : XG) (aN aNs aNk aNf aNr aNp aNb aNa aNt aNbo aNsz aNnu aNl aNal aNlo aNw aNtr aNis aNbg aNow nts nta nop npr nac : Nat) (nkp nbd nnw nsn nwn : Int32) (gr wk lk sz br : Nat) (z : Int32) (ru ki ma bb hd : Nat → Nat) (ce : Nat → Int32) (tb nli nal nlo sd : Nat → Nat) (L : Nat) (hgr : gr ≤ 12) (hki : ∀ j, ki j ≤ 7) (hma : ∀ j, ma j ≤ 99999) (hwk : wk ≤ 40) (hlat : latI ce wk = nI L) (hL : L < 4096) (hsz : sz ≤ 60) (hbb : ∀ j, bb j < 256) (hsd : ∀ p, sd p ≤ 99) (hsv : ∀ p, p < 495 → sd p = if lk = 1 then clN (txV bb sz wk L p) else 1) (hlk : lk ≤ 1) (hwo : (nnw = 1 ∧ (nsn = 1 ∨ (nsn = 0 ∧ nli = sd))) ∨ (nnw = 0 ∧ nsn = 0 ∧ nli = sd ∧ nal = crH gr ki ma hd L sd ∧ nac = toH gr ki ma hd L sd ∧ ∀ q, q < gr → nlo q = laN (ki q) (ma q) L sd)) : Ct l g 34 0 0 yX9_count cX9_count 2 (some .int) [.ref aN, .int 0] [(aN, .inr (9, [.ref aNs, .ref aNk, .int nkp, .ref aNf, .ref aNr, .ref aNp, .ref aNb, .ref aNa, .ref aNt, .int (nI nts), .ref aNbo, .ref aNsz, .ref aNnu, .int (nI nta), .int (nI nop), .int nbd, .int 0, .int (nI npr), .int nnw, .int nsn, .int nwn, .ref aNl, .ref aNal, .ref aNlo, .int (nI nac), .ref aNw, .ref aNtr, .ref aNis, .ref aNbg, .ref aNow])), (aNs, .inl (g.2.1 0, 919, .inl (msF gr wk z lk sz br ru ki ma bb ce hd))), (aNt, .inl (g.2.1 0, 60, .inl (nIf tb))), (aNa, .inl (g.2.1 0, 2475, .inl (nIf fcN))), (aNr, .inl (g.2.1 0, 495, .inl (nIf rowB))), (aNb, .inl (g.2.1 0, 4096, .inl (nIf popN))), (aNl, .inl (g.2.1 0, 495, .inl (nIf nli))), (aNal, .inl (g.2.1 0, 495, .inl (nIf nal))), (aNlo, .inl (g.2.1 0, 12, .inl (nIf nlo)))] (fun vv_ ww_ => ∃ (zat : Nat) (zop : Nat) (zbd : Int32) (zpr : Nat) (lo2 : Nat → Nat), vv_ = some (.int (nI gr)) ∧ ww_ = [(aN, .inr (9, [.ref aNs, .ref aNk, .int nkp, .ref aNf, .ref aNr, .ref aNp, .ref aNb, .ref aNa, .ref aNt, .int (nI nts), .ref aNbo, .ref aNsz, .ref aNnu, .int (nI zat), .int (nI zop), .int zbd, .int 0, .int (nI zpr), .int 0, .int 0, .int (wnI nnw nwn), .ref aNl, .ref aNal, .ref aNlo, .int (nI (toH gr ki ma hd L sd)), .ref aNw, .ref aNtr, .ref aNis, .ref aNbg, .ref aNow])), (aNs, .inl (g.2.1 0, 919, .inl (msF gr wk z lk sz br ru ki ma bb ce hd))), (aNt, .inl (g.2.1 0, 60, .inl (nIf tb))), (aNa, .inl (g.2.1 0, 2475, .inl (nIf fcN))), (aNr, .inl (g.2.1 0, 495, .inl (nIf rowB))), (aNb, .inl (g.2.1 0, 4096, .inl (nIf popN))), (aNl, .inl (g.2.1 0, 495, .inl (nIf sd))), (aNal, .inl (g.2.1 0, 495, .inl (nIf (crH gr ki ma hd L sd)))), (aNlo, .inl (g.2.1 0, 12, .inl (nIf lo2)))] ∧ (∀ q, q < gr → lo2 q = laN (ki q) (ma q) L sd)) := by
  refine Ct.ofX (lv := [some (.ref aN), some (.int 0)]) (by decide) rfl (Nat.le_of_ble_eq_true rfl) (fun κ => ?_)
  generalize hQ : xQ κ g 0 0 _ = Q
  refine x_iload_n dX9_count_0 rfl ?_
  refine x_i2l dX9_count_1 ?_
  refine x_lconst 0 dX9_count_2 (by decide) ?_
  refine x_ldc2 dX9_count_3 kl_X9_96 ?_
  refine x_cSi dX9_count_6 ml_X9_98 mX9_isIn (ct_X9_isIn κ.2.1 g ((0 : Int32).toInt64) 0 7) rfl (Nat.le_of_ble_eq_true rfl) (by decide) (Nat.le_refl _) (Nat.le_refl _) ?_
  refine x_rei (1) (by decide) ?_
  refine x_if_ne dX9_count_9 (fun c9 => ?_) (fun c9 => ?_)
  rotate_left
  · exact absurd c9 (by decide)
  refine x_aload_n dX9_count_19 rfl ?_
  refine x_callV dX9_count_20 ml_X9_198 mX9_works (ct_X9_works κ.2.1 g aN aNs aNk aNf aNr aNp aNb aNa aNt aNbo aNsz aNnu aNl aNal aNlo aNw aNtr aNis aNbg aNow nts nta nop npr nac nkp nbd nnw nsn nwn gr wk lk sz br z ru ki ma bb hd ce tb nli nal nlo sd L (hgr) (hki) (hma) (hwk) (hlat) (hL) (hsz) (hbb) (hsd) (hsv) (hlk) (hwo)) [0, 1, 2, 3, 4, 5, 6, 7, 8] rfl rfl 0 rfl rfl rfl (Nat.le_of_ble_eq_true rfl) (by decide) (Nat.le_refl _) (Nat.le_refl _) (fun vv ww hp => ?_)
  obtain ⟨z1, z2, z3, z4, z5, rfl, rfl, p6⟩ := hp
  refine ⟨(rfl : [aN, aNs, aNt, aNa, aNr, aNb, aNl, aNal, aNlo] = [aN, aNs, aNt, aNa, aNr, aNb, aNl, aNal, aNlo]), x_eq (lv' := [some (.ref aN), some (.int 0)]) (st' := []) (ws' := [(aN, .inr (9, [.ref aNs, .ref aNk, .int nkp, .ref aNf, .ref aNr, .ref aNp, .ref aNb, .ref aNa, .ref aNt, .int (nI nts), .ref aNbo, .ref aNsz, .ref aNnu, .int (nI z1), .int (nI z2), .int z3, .int 0, .int (nI z4), .int 0, .int 0, .int (wnI nnw nwn), .ref aNl, .ref aNal, .ref aNlo, .int (nI (toH gr ki ma hd L sd)), .ref aNw, .ref aNtr, .ref aNis, .ref aNbg, .ref aNow])), (aNs, .inl (g.2.1 0, 919, .inl (msF gr wk z lk sz br ru ki ma bb ce hd))), (aNt, .inl (g.2.1 0, 60, .inl (nIf tb))), (aNa, .inl (g.2.1 0, 2475, .inl (nIf fcN))), (aNr, .inl (g.2.1 0, 495, .inl (nIf rowB))), (aNb, .inl (g.2.1 0, 4096, .inl (nIf popN))), (aNl, .inl (g.2.1 0, 495, .inl (nIf sd))), (aNal, .inl (g.2.1 0, 495, .inl (nIf (crH gr ki ma hd L sd)))), (aNlo, .inl (g.2.1 0, 12, .inl (nIf z5)))]) ?_ rfl rfl rfl⟩
  refine x_iload_n dX9_count_23 rfl ?_
  refine x_tabIn (off := 44) 68 dX9_count_24 (by decide) (by decide) rfl (by decide) ?_
  refine x_aload_n dX9_count_68 rfl ?_
  refine x_get dX9_count_69 0 0 inX9 fl_X9_7 rfl rfl (by decide) rfl ?_
  refine x_iconst 0 dX9_count_72 (by decide) ?_
  refine x_iald dX9_count_73 1 0 rfl (rfl) (by decide) (by decide) ?_
  refine x_rei (nI gr) (rfl) ?_
  rw [← hQ]
  refine x_iret dX9_count_74 rfl (Nat.le_of_ble_eq_true rfl) (Nat.le_of_ble_eq_true rfl) ?_
  exact ⟨_, _, _, _, _, rfl, rfl, p6⟩

-- == ncount_1 ==
set_option maxRecDepth 100000 in
set_option maxHeartbeats 4000000 in
theorem ct_ncount_1 (l : Launch) (g : XG) (aN aNs aNk aNf aNr aNp aNb aNa aNt aNbo aNsz aNnu aNl aNal aNlo aNw aNtr aNis aNbg aNow nts nta nop npr nac : Nat) (nkp nbd nnw nsn nwn : Int32) (gr wk lk sz br : Nat) (z : Int32) (ru ki ma bb hd : Nat → Nat) (ce : Nat → Int32) (tb nli nal nlo sd : Nat → Nat) (L : Nat) (hgr : gr ≤ 12) (hki : ∀ j, ki j ≤ 7) (hma : ∀ j, ma j ≤ 99999) (hwk : wk ≤ 40) (hlat : latI ce wk = nI L) (hL : L < 4096) (hsz : sz ≤ 60) (hbb : ∀ j, bb j < 256) (hsd : ∀ p, sd p ≤ 99) (hsv : ∀ p, p < 495 → sd p = if lk = 1 then clN (txV bb sz wk L p) else 1) (hlk : lk ≤ 1) (hwo : (nnw = 1 ∧ (nsn = 1 ∨ (nsn = 0 ∧ nli = sd))) ∨ (nnw = 0 ∧ nsn = 0 ∧ nli = sd ∧ nal = crH gr ki ma hd L sd ∧ nac = toH gr ki ma hd L sd ∧ ∀ q, q < gr → nlo q = laN (ki q) (ma q) L sd)) : Ct l g 34 0 0 yX9_count cX9_count 2 (some .int) [.ref aN, .int 1] [(aN, .inr (9, [.ref aNs, .ref aNk, .int nkp, .ref aNf, .ref aNr, .ref aNp, .ref aNb, .ref aNa, .ref aNt, .int (nI nts), .ref aNbo, .ref aNsz, .ref aNnu, .int (nI nta), .int (nI nop), .int nbd, .int 0, .int (nI npr), .int nnw, .int nsn, .int nwn, .ref aNl, .ref aNal, .ref aNlo, .int (nI nac), .ref aNw, .ref aNtr, .ref aNis, .ref aNbg, .ref aNow])), (aNs, .inl (g.2.1 0, 919, .inl (msF gr wk z lk sz br ru ki ma bb ce hd))), (aNt, .inl (g.2.1 0, 60, .inl (nIf tb))), (aNa, .inl (g.2.1 0, 2475, .inl (nIf fcN))), (aNr, .inl (g.2.1 0, 495, .inl (nIf rowB))), (aNb, .inl (g.2.1 0, 4096, .inl (nIf popN))), (aNl, .inl (g.2.1 0, 495, .inl (nIf nli))), (aNal, .inl (g.2.1 0, 495, .inl (nIf nal))), (aNlo, .inl (g.2.1 0, 12, .inl (nIf nlo)))] (fun vv_ ww_ => ∃ (zat : Nat) (zop : Nat) (zbd : Int32) (zpr : Nat) (lo2 : Nat → Nat), vv_ = some (.int (nI wk)) ∧ ww_ = [(aN, .inr (9, [.ref aNs, .ref aNk, .int nkp, .ref aNf, .ref aNr, .ref aNp, .ref aNb, .ref aNa, .ref aNt, .int (nI nts), .ref aNbo, .ref aNsz, .ref aNnu, .int (nI zat), .int (nI zop), .int zbd, .int 0, .int (nI zpr), .int 0, .int 0, .int (wnI nnw nwn), .ref aNl, .ref aNal, .ref aNlo, .int (nI (toH gr ki ma hd L sd)), .ref aNw, .ref aNtr, .ref aNis, .ref aNbg, .ref aNow])), (aNs, .inl (g.2.1 0, 919, .inl (msF gr wk z lk sz br ru ki ma bb ce hd))), (aNt, .inl (g.2.1 0, 60, .inl (nIf tb))), (aNa, .inl (g.2.1 0, 2475, .inl (nIf fcN))), (aNr, .inl (g.2.1 0, 495, .inl (nIf rowB))), (aNb, .inl (g.2.1 0, 4096, .inl (nIf popN))), (aNl, .inl (g.2.1 0, 495, .inl (nIf sd))), (aNal, .inl (g.2.1 0, 495, .inl (nIf (crH gr ki ma hd L sd)))), (aNlo, .inl (g.2.1 0, 12, .inl (nIf lo2)))] ∧ (∀ q, q < gr → lo2 q = laN (ki q) (ma q) L sd)) := by
  refine Ct.ofX (lv := [some (.ref aN), some (.int 1)]) (by decide) rfl (Nat.le_of_ble_eq_true rfl) (fun κ => ?_)
  generalize hQ : xQ κ g 0 0 _ = Q
  refine x_iload_n dX9_count_0 rfl ?_
  refine x_i2l dX9_count_1 ?_
  refine x_lconst 0 dX9_count_2 (by decide) ?_
  refine x_ldc2 dX9_count_3 kl_X9_96 ?_
  refine x_cSi dX9_count_6 ml_X9_98 mX9_isIn (ct_X9_isIn κ.2.1 g ((1 : Int32).toInt64) 0 7) rfl (Nat.le_of_ble_eq_true rfl) (by decide) (Nat.le_refl _) (Nat.le_refl _) ?_
  refine x_rei (1) (by decide) ?_
  refine x_if_ne dX9_count_9 (fun c9 => ?_) (fun c9 => ?_)
  rotate_left
  · exact absurd c9 (by decide)
  refine x_aload_n dX9_count_19 rfl ?_
  refine x_callV dX9_count_20 ml_X9_198 mX9_works (ct_X9_works κ.2.1 g aN aNs aNk aNf aNr aNp aNb aNa aNt aNbo aNsz aNnu aNl aNal aNlo aNw aNtr aNis aNbg aNow nts nta nop npr nac nkp nbd nnw nsn nwn gr wk lk sz br z ru ki ma bb hd ce tb nli nal nlo sd L (hgr) (hki) (hma) (hwk) (hlat) (hL) (hsz) (hbb) (hsd) (hsv) (hlk) (hwo)) [0, 1, 2, 3, 4, 5, 6, 7, 8] rfl rfl 0 rfl rfl rfl (Nat.le_of_ble_eq_true rfl) (by decide) (Nat.le_refl _) (Nat.le_refl _) (fun vv ww hp => ?_)
  obtain ⟨z1, z2, z3, z4, z5, rfl, rfl, p6⟩ := hp
  refine ⟨(rfl : [aN, aNs, aNt, aNa, aNr, aNb, aNl, aNal, aNlo] = [aN, aNs, aNt, aNa, aNr, aNb, aNl, aNal, aNlo]), x_eq (lv' := [some (.ref aN), some (.int 1)]) (st' := []) (ws' := [(aN, .inr (9, [.ref aNs, .ref aNk, .int nkp, .ref aNf, .ref aNr, .ref aNp, .ref aNb, .ref aNa, .ref aNt, .int (nI nts), .ref aNbo, .ref aNsz, .ref aNnu, .int (nI z1), .int (nI z2), .int z3, .int 0, .int (nI z4), .int 0, .int 0, .int (wnI nnw nwn), .ref aNl, .ref aNal, .ref aNlo, .int (nI (toH gr ki ma hd L sd)), .ref aNw, .ref aNtr, .ref aNis, .ref aNbg, .ref aNow])), (aNs, .inl (g.2.1 0, 919, .inl (msF gr wk z lk sz br ru ki ma bb ce hd))), (aNt, .inl (g.2.1 0, 60, .inl (nIf tb))), (aNa, .inl (g.2.1 0, 2475, .inl (nIf fcN))), (aNr, .inl (g.2.1 0, 495, .inl (nIf rowB))), (aNb, .inl (g.2.1 0, 4096, .inl (nIf popN))), (aNl, .inl (g.2.1 0, 495, .inl (nIf sd))), (aNal, .inl (g.2.1 0, 495, .inl (nIf (crH gr ki ma hd L sd)))), (aNlo, .inl (g.2.1 0, 12, .inl (nIf z5)))]) ?_ rfl rfl rfl⟩
  refine x_iload_n dX9_count_23 rfl ?_
  refine x_tabIn (off := 51) 75 dX9_count_24 (by decide) (by decide) rfl (by decide) ?_
  refine x_aload_n dX9_count_75 rfl ?_
  refine x_get dX9_count_76 0 0 inX9 fl_X9_7 rfl rfl (by decide) rfl ?_
  refine x_iconst 1 dX9_count_79 (by decide) ?_
  refine x_iald dX9_count_80 1 1 rfl (rfl) (by decide) (by decide) ?_
  refine x_rei (nI wk) (rfl) ?_
  rw [← hQ]
  refine x_iret dX9_count_81 rfl (Nat.le_of_ble_eq_true rfl) (Nat.le_of_ble_eq_true rfl) ?_
  exact ⟨_, _, _, _, _, rfl, rfl, p6⟩

-- == ncount_2 ==
set_option maxRecDepth 100000 in
set_option maxHeartbeats 4000000 in
theorem ct_ncount_2 (l : Launch) (g : XG) (aN aNs aNk aNf aNr aNp aNb aNa aNt aNbo aNsz aNnu aNl aNal aNlo aNw aNtr aNis aNbg aNow nts nta nop npr nac : Nat) (nkp nbd nnw nsn nwn : Int32) (gr wk lk sz br : Nat) (z : Int32) (ru ki ma bb hd : Nat → Nat) (ce : Nat → Int32) (tb nli nal nlo sd : Nat → Nat) (L : Nat) (hgr : gr ≤ 12) (hki : ∀ j, ki j ≤ 7) (hma : ∀ j, ma j ≤ 99999) (hwk : wk ≤ 40) (hlat : latI ce wk = nI L) (hL : L < 4096) (hsz : sz ≤ 60) (hbb : ∀ j, bb j < 256) (hsd : ∀ p, sd p ≤ 99) (hsv : ∀ p, p < 495 → sd p = if lk = 1 then clN (txV bb sz wk L p) else 1) (hlk : lk ≤ 1) (hwo : (nnw = 1 ∧ (nsn = 1 ∨ (nsn = 0 ∧ nli = sd))) ∨ (nnw = 0 ∧ nsn = 0 ∧ nli = sd ∧ nal = crH gr ki ma hd L sd ∧ nac = toH gr ki ma hd L sd ∧ ∀ q, q < gr → nlo q = laN (ki q) (ma q) L sd)) : Ct l g 34 0 0 yX9_count cX9_count 2 (some .int) [.ref aN, .int 2] [(aN, .inr (9, [.ref aNs, .ref aNk, .int nkp, .ref aNf, .ref aNr, .ref aNp, .ref aNb, .ref aNa, .ref aNt, .int (nI nts), .ref aNbo, .ref aNsz, .ref aNnu, .int (nI nta), .int (nI nop), .int nbd, .int 0, .int (nI npr), .int nnw, .int nsn, .int nwn, .ref aNl, .ref aNal, .ref aNlo, .int (nI nac), .ref aNw, .ref aNtr, .ref aNis, .ref aNbg, .ref aNow])), (aNs, .inl (g.2.1 0, 919, .inl (msF gr wk z lk sz br ru ki ma bb ce hd))), (aNt, .inl (g.2.1 0, 60, .inl (nIf tb))), (aNa, .inl (g.2.1 0, 2475, .inl (nIf fcN))), (aNr, .inl (g.2.1 0, 495, .inl (nIf rowB))), (aNb, .inl (g.2.1 0, 4096, .inl (nIf popN))), (aNl, .inl (g.2.1 0, 495, .inl (nIf nli))), (aNal, .inl (g.2.1 0, 495, .inl (nIf nal))), (aNlo, .inl (g.2.1 0, 12, .inl (nIf nlo)))] (fun vv_ ww_ => ∃ (zat : Nat) (zop : Nat) (zbd : Int32) (zpr : Nat) (lo2 : Nat → Nat), vv_ = some (.int (nI (toH gr ki ma hd L sd))) ∧ ww_ = [(aN, .inr (9, [.ref aNs, .ref aNk, .int nkp, .ref aNf, .ref aNr, .ref aNp, .ref aNb, .ref aNa, .ref aNt, .int (nI nts), .ref aNbo, .ref aNsz, .ref aNnu, .int (nI zat), .int (nI zop), .int zbd, .int 0, .int (nI zpr), .int 0, .int 0, .int (wnI nnw nwn), .ref aNl, .ref aNal, .ref aNlo, .int (nI (toH gr ki ma hd L sd)), .ref aNw, .ref aNtr, .ref aNis, .ref aNbg, .ref aNow])), (aNs, .inl (g.2.1 0, 919, .inl (msF gr wk z lk sz br ru ki ma bb ce hd))), (aNt, .inl (g.2.1 0, 60, .inl (nIf tb))), (aNa, .inl (g.2.1 0, 2475, .inl (nIf fcN))), (aNr, .inl (g.2.1 0, 495, .inl (nIf rowB))), (aNb, .inl (g.2.1 0, 4096, .inl (nIf popN))), (aNl, .inl (g.2.1 0, 495, .inl (nIf sd))), (aNal, .inl (g.2.1 0, 495, .inl (nIf (crH gr ki ma hd L sd)))), (aNlo, .inl (g.2.1 0, 12, .inl (nIf lo2)))] ∧ (∀ q, q < gr → lo2 q = laN (ki q) (ma q) L sd)) := by
  refine Ct.ofX (lv := [some (.ref aN), some (.int 2)]) (by decide) rfl (Nat.le_of_ble_eq_true rfl) (fun κ => ?_)
  generalize hQ : xQ κ g 0 0 _ = Q
  refine x_iload_n dX9_count_0 rfl ?_
  refine x_i2l dX9_count_1 ?_
  refine x_lconst 0 dX9_count_2 (by decide) ?_
  refine x_ldc2 dX9_count_3 kl_X9_96 ?_
  refine x_cSi dX9_count_6 ml_X9_98 mX9_isIn (ct_X9_isIn κ.2.1 g ((2 : Int32).toInt64) 0 7) rfl (Nat.le_of_ble_eq_true rfl) (by decide) (Nat.le_refl _) (Nat.le_refl _) ?_
  refine x_rei (1) (by decide) ?_
  refine x_if_ne dX9_count_9 (fun c9 => ?_) (fun c9 => ?_)
  rotate_left
  · exact absurd c9 (by decide)
  refine x_aload_n dX9_count_19 rfl ?_
  refine x_callV dX9_count_20 ml_X9_198 mX9_works (ct_X9_works κ.2.1 g aN aNs aNk aNf aNr aNp aNb aNa aNt aNbo aNsz aNnu aNl aNal aNlo aNw aNtr aNis aNbg aNow nts nta nop npr nac nkp nbd nnw nsn nwn gr wk lk sz br z ru ki ma bb hd ce tb nli nal nlo sd L (hgr) (hki) (hma) (hwk) (hlat) (hL) (hsz) (hbb) (hsd) (hsv) (hlk) (hwo)) [0, 1, 2, 3, 4, 5, 6, 7, 8] rfl rfl 0 rfl rfl rfl (Nat.le_of_ble_eq_true rfl) (by decide) (Nat.le_refl _) (Nat.le_refl _) (fun vv ww hp => ?_)
  obtain ⟨z1, z2, z3, z4, z5, rfl, rfl, p6⟩ := hp
  refine ⟨(rfl : [aN, aNs, aNt, aNa, aNr, aNb, aNl, aNal, aNlo] = [aN, aNs, aNt, aNa, aNr, aNb, aNl, aNal, aNlo]), x_eq (lv' := [some (.ref aN), some (.int 2)]) (st' := []) (ws' := [(aN, .inr (9, [.ref aNs, .ref aNk, .int nkp, .ref aNf, .ref aNr, .ref aNp, .ref aNb, .ref aNa, .ref aNt, .int (nI nts), .ref aNbo, .ref aNsz, .ref aNnu, .int (nI z1), .int (nI z2), .int z3, .int 0, .int (nI z4), .int 0, .int 0, .int (wnI nnw nwn), .ref aNl, .ref aNal, .ref aNlo, .int (nI (toH gr ki ma hd L sd)), .ref aNw, .ref aNtr, .ref aNis, .ref aNbg, .ref aNow])), (aNs, .inl (g.2.1 0, 919, .inl (msF gr wk z lk sz br ru ki ma bb ce hd))), (aNt, .inl (g.2.1 0, 60, .inl (nIf tb))), (aNa, .inl (g.2.1 0, 2475, .inl (nIf fcN))), (aNr, .inl (g.2.1 0, 495, .inl (nIf rowB))), (aNb, .inl (g.2.1 0, 4096, .inl (nIf popN))), (aNl, .inl (g.2.1 0, 495, .inl (nIf sd))), (aNal, .inl (g.2.1 0, 495, .inl (nIf (crH gr ki ma hd L sd)))), (aNlo, .inl (g.2.1 0, 12, .inl (nIf z5)))]) ?_ rfl rfl rfl⟩
  refine x_iload_n dX9_count_23 rfl ?_
  refine x_tabIn (off := 58) 82 dX9_count_24 (by decide) (by decide) rfl (by decide) ?_
  refine x_aload_n dX9_count_82 rfl ?_
  refine x_get dX9_count_83 0 24 inX9 fl_X9_192 rfl rfl (by decide) rfl ?_
  rw [← hQ]
  refine x_iret dX9_count_86 rfl (Nat.le_of_ble_eq_true rfl) (Nat.le_of_ble_eq_true rfl) ?_
  exact ⟨_, _, _, _, _, rfl, rfl, p6⟩

-- == ncount_3 ==
set_option maxRecDepth 100000 in
set_option maxHeartbeats 4000000 in
theorem ct_ncount_3 (l : Launch) (g : XG) (aN aNs aNk aNf aNr aNp aNb aNa aNt aNbo aNsz aNnu aNl aNal aNlo aNw aNtr aNis aNbg aNow nts nta nop npr nac : Nat) (nkp nbd nnw nsn nwn : Int32) (gr wk lk sz br : Nat) (z : Int32) (ru ki ma bb hd : Nat → Nat) (ce : Nat → Int32) (tb nli nal nlo sd : Nat → Nat) (L : Nat) (hgr : gr ≤ 12) (hki : ∀ j, ki j ≤ 7) (hma : ∀ j, ma j ≤ 99999) (hwk : wk ≤ 40) (hlat : latI ce wk = nI L) (hL : L < 4096) (hsz : sz ≤ 60) (hbb : ∀ j, bb j < 256) (hsd : ∀ p, sd p ≤ 99) (hsv : ∀ p, p < 495 → sd p = if lk = 1 then clN (txV bb sz wk L p) else 1) (hlk : lk ≤ 1) (hwo : (nnw = 1 ∧ (nsn = 1 ∨ (nsn = 0 ∧ nli = sd))) ∨ (nnw = 0 ∧ nsn = 0 ∧ nli = sd ∧ nal = crH gr ki ma hd L sd ∧ nac = toH gr ki ma hd L sd ∧ ∀ q, q < gr → nlo q = laN (ki q) (ma q) L sd)) : Ct l g 34 0 0 yX9_count cX9_count 2 (some .int) [.ref aN, .int 3] [(aN, .inr (9, [.ref aNs, .ref aNk, .int nkp, .ref aNf, .ref aNr, .ref aNp, .ref aNb, .ref aNa, .ref aNt, .int (nI nts), .ref aNbo, .ref aNsz, .ref aNnu, .int (nI nta), .int (nI nop), .int nbd, .int 0, .int (nI npr), .int nnw, .int nsn, .int nwn, .ref aNl, .ref aNal, .ref aNlo, .int (nI nac), .ref aNw, .ref aNtr, .ref aNis, .ref aNbg, .ref aNow])), (aNs, .inl (g.2.1 0, 919, .inl (msF gr wk z lk sz br ru ki ma bb ce hd))), (aNt, .inl (g.2.1 0, 60, .inl (nIf tb))), (aNa, .inl (g.2.1 0, 2475, .inl (nIf fcN))), (aNr, .inl (g.2.1 0, 495, .inl (nIf rowB))), (aNb, .inl (g.2.1 0, 4096, .inl (nIf popN))), (aNl, .inl (g.2.1 0, 495, .inl (nIf nli))), (aNal, .inl (g.2.1 0, 495, .inl (nIf nal))), (aNlo, .inl (g.2.1 0, 12, .inl (nIf nlo)))] (fun vv_ ww_ => ∃ (zat : Nat) (zop : Nat) (zbd : Int32) (zpr : Nat) (lo2 : Nat → Nat), vv_ = some (.int (nI br)) ∧ ww_ = [(aN, .inr (9, [.ref aNs, .ref aNk, .int nkp, .ref aNf, .ref aNr, .ref aNp, .ref aNb, .ref aNa, .ref aNt, .int (nI nts), .ref aNbo, .ref aNsz, .ref aNnu, .int (nI zat), .int (nI zop), .int zbd, .int 0, .int (nI zpr), .int 0, .int 0, .int (wnI nnw nwn), .ref aNl, .ref aNal, .ref aNlo, .int (nI (toH gr ki ma hd L sd)), .ref aNw, .ref aNtr, .ref aNis, .ref aNbg, .ref aNow])), (aNs, .inl (g.2.1 0, 919, .inl (msF gr wk z lk sz br ru ki ma bb ce hd))), (aNt, .inl (g.2.1 0, 60, .inl (nIf tb))), (aNa, .inl (g.2.1 0, 2475, .inl (nIf fcN))), (aNr, .inl (g.2.1 0, 495, .inl (nIf rowB))), (aNb, .inl (g.2.1 0, 4096, .inl (nIf popN))), (aNl, .inl (g.2.1 0, 495, .inl (nIf sd))), (aNal, .inl (g.2.1 0, 495, .inl (nIf (crH gr ki ma hd L sd)))), (aNlo, .inl (g.2.1 0, 12, .inl (nIf lo2)))] ∧ (∀ q, q < gr → lo2 q = laN (ki q) (ma q) L sd)) := by
  refine Ct.ofX (lv := [some (.ref aN), some (.int 3)]) (by decide) rfl (Nat.le_of_ble_eq_true rfl) (fun κ => ?_)
  generalize hQ : xQ κ g 0 0 _ = Q
  refine x_iload_n dX9_count_0 rfl ?_
  refine x_i2l dX9_count_1 ?_
  refine x_lconst 0 dX9_count_2 (by decide) ?_
  refine x_ldc2 dX9_count_3 kl_X9_96 ?_
  refine x_cSi dX9_count_6 ml_X9_98 mX9_isIn (ct_X9_isIn κ.2.1 g ((3 : Int32).toInt64) 0 7) rfl (Nat.le_of_ble_eq_true rfl) (by decide) (Nat.le_refl _) (Nat.le_refl _) ?_
  refine x_rei (1) (by decide) ?_
  refine x_if_ne dX9_count_9 (fun c9 => ?_) (fun c9 => ?_)
  rotate_left
  · exact absurd c9 (by decide)
  refine x_aload_n dX9_count_19 rfl ?_
  refine x_callV dX9_count_20 ml_X9_198 mX9_works (ct_X9_works κ.2.1 g aN aNs aNk aNf aNr aNp aNb aNa aNt aNbo aNsz aNnu aNl aNal aNlo aNw aNtr aNis aNbg aNow nts nta nop npr nac nkp nbd nnw nsn nwn gr wk lk sz br z ru ki ma bb hd ce tb nli nal nlo sd L (hgr) (hki) (hma) (hwk) (hlat) (hL) (hsz) (hbb) (hsd) (hsv) (hlk) (hwo)) [0, 1, 2, 3, 4, 5, 6, 7, 8] rfl rfl 0 rfl rfl rfl (Nat.le_of_ble_eq_true rfl) (by decide) (Nat.le_refl _) (Nat.le_refl _) (fun vv ww hp => ?_)
  obtain ⟨z1, z2, z3, z4, z5, rfl, rfl, p6⟩ := hp
  refine ⟨(rfl : [aN, aNs, aNt, aNa, aNr, aNb, aNl, aNal, aNlo] = [aN, aNs, aNt, aNa, aNr, aNb, aNl, aNal, aNlo]), x_eq (lv' := [some (.ref aN), some (.int 3)]) (st' := []) (ws' := [(aN, .inr (9, [.ref aNs, .ref aNk, .int nkp, .ref aNf, .ref aNr, .ref aNp, .ref aNb, .ref aNa, .ref aNt, .int (nI nts), .ref aNbo, .ref aNsz, .ref aNnu, .int (nI z1), .int (nI z2), .int z3, .int 0, .int (nI z4), .int 0, .int 0, .int (wnI nnw nwn), .ref aNl, .ref aNal, .ref aNlo, .int (nI (toH gr ki ma hd L sd)), .ref aNw, .ref aNtr, .ref aNis, .ref aNbg, .ref aNow])), (aNs, .inl (g.2.1 0, 919, .inl (msF gr wk z lk sz br ru ki ma bb ce hd))), (aNt, .inl (g.2.1 0, 60, .inl (nIf tb))), (aNa, .inl (g.2.1 0, 2475, .inl (nIf fcN))), (aNr, .inl (g.2.1 0, 495, .inl (nIf rowB))), (aNb, .inl (g.2.1 0, 4096, .inl (nIf popN))), (aNl, .inl (g.2.1 0, 495, .inl (nIf sd))), (aNal, .inl (g.2.1 0, 495, .inl (nIf (crH gr ki ma hd L sd)))), (aNlo, .inl (g.2.1 0, 12, .inl (nIf z5)))]) ?_ rfl rfl rfl⟩
  refine x_iload_n dX9_count_23 rfl ?_
  refine x_tabIn (off := 63) 87 dX9_count_24 (by decide) (by decide) rfl (by decide) ?_
  refine x_aload_n dX9_count_87 rfl ?_
  refine x_get dX9_count_88 0 0 inX9 fl_X9_7 rfl rfl (by decide) rfl ?_
  refine x_iconst 5 dX9_count_91 (by decide) ?_
  refine x_iald dX9_count_92 1 5 rfl (rfl) (by decide) (by decide) ?_
  refine x_rei (nI br) (rfl) ?_
  rw [← hQ]
  refine x_iret dX9_count_93 rfl (Nat.le_of_ble_eq_true rfl) (Nat.le_of_ble_eq_true rfl) ?_
  exact ⟨_, _, _, _, _, rfl, rfl, p6⟩

-- == ncount_4 ==
set_option maxRecDepth 100000 in
set_option maxHeartbeats 4000000 in
theorem ct_ncount_4 (l : Launch) (g : XG) (aN aNs aNk aNf aNr aNp aNb aNa aNt aNbo aNsz aNnu aNl aNal aNlo aNw aNtr aNis aNbg aNow nts nta nop npr nac : Nat) (nkp nbd nnw nsn nwn : Int32) (gr wk lk sz br : Nat) (z : Int32) (ru ki ma bb hd : Nat → Nat) (ce : Nat → Int32) (tb nli nal nlo sd : Nat → Nat) (L : Nat) (hgr : gr ≤ 12) (hki : ∀ j, ki j ≤ 7) (hma : ∀ j, ma j ≤ 99999) (hwk : wk ≤ 40) (hlat : latI ce wk = nI L) (hL : L < 4096) (hsz : sz ≤ 60) (hbb : ∀ j, bb j < 256) (hsd : ∀ p, sd p ≤ 99) (hsv : ∀ p, p < 495 → sd p = if lk = 1 then clN (txV bb sz wk L p) else 1) (hlk : lk ≤ 1) (hwo : (nnw = 1 ∧ (nsn = 1 ∨ (nsn = 0 ∧ nli = sd))) ∨ (nnw = 0 ∧ nsn = 0 ∧ nli = sd ∧ nal = crH gr ki ma hd L sd ∧ nac = toH gr ki ma hd L sd ∧ ∀ q, q < gr → nlo q = laN (ki q) (ma q) L sd)) : Ct l g 34 0 0 yX9_count cX9_count 2 (some .int) [.ref aN, .int 4] [(aN, .inr (9, [.ref aNs, .ref aNk, .int nkp, .ref aNf, .ref aNr, .ref aNp, .ref aNb, .ref aNa, .ref aNt, .int (nI nts), .ref aNbo, .ref aNsz, .ref aNnu, .int (nI nta), .int (nI nop), .int nbd, .int 0, .int (nI npr), .int nnw, .int nsn, .int nwn, .ref aNl, .ref aNal, .ref aNlo, .int (nI nac), .ref aNw, .ref aNtr, .ref aNis, .ref aNbg, .ref aNow])), (aNs, .inl (g.2.1 0, 919, .inl (msF gr wk z lk sz br ru ki ma bb ce hd))), (aNt, .inl (g.2.1 0, 60, .inl (nIf tb))), (aNa, .inl (g.2.1 0, 2475, .inl (nIf fcN))), (aNr, .inl (g.2.1 0, 495, .inl (nIf rowB))), (aNb, .inl (g.2.1 0, 4096, .inl (nIf popN))), (aNl, .inl (g.2.1 0, 495, .inl (nIf nli))), (aNal, .inl (g.2.1 0, 495, .inl (nIf nal))), (aNlo, .inl (g.2.1 0, 12, .inl (nIf nlo)))] (fun vv_ ww_ => ∃ (zat : Nat) (zop : Nat) (zbd : Int32) (zpr : Nat) (lo2 : Nat → Nat), vv_ = some (.int (nI lk)) ∧ ww_ = [(aN, .inr (9, [.ref aNs, .ref aNk, .int nkp, .ref aNf, .ref aNr, .ref aNp, .ref aNb, .ref aNa, .ref aNt, .int (nI nts), .ref aNbo, .ref aNsz, .ref aNnu, .int (nI zat), .int (nI zop), .int zbd, .int 0, .int (nI zpr), .int 0, .int 0, .int (wnI nnw nwn), .ref aNl, .ref aNal, .ref aNlo, .int (nI (toH gr ki ma hd L sd)), .ref aNw, .ref aNtr, .ref aNis, .ref aNbg, .ref aNow])), (aNs, .inl (g.2.1 0, 919, .inl (msF gr wk z lk sz br ru ki ma bb ce hd))), (aNt, .inl (g.2.1 0, 60, .inl (nIf tb))), (aNa, .inl (g.2.1 0, 2475, .inl (nIf fcN))), (aNr, .inl (g.2.1 0, 495, .inl (nIf rowB))), (aNb, .inl (g.2.1 0, 4096, .inl (nIf popN))), (aNl, .inl (g.2.1 0, 495, .inl (nIf sd))), (aNal, .inl (g.2.1 0, 495, .inl (nIf (crH gr ki ma hd L sd)))), (aNlo, .inl (g.2.1 0, 12, .inl (nIf lo2)))] ∧ (∀ q, q < gr → lo2 q = laN (ki q) (ma q) L sd)) := by
  refine Ct.ofX (lv := [some (.ref aN), some (.int 4)]) (by decide) rfl (Nat.le_of_ble_eq_true rfl) (fun κ => ?_)
  generalize hQ : xQ κ g 0 0 _ = Q
  refine x_iload_n dX9_count_0 rfl ?_
  refine x_i2l dX9_count_1 ?_
  refine x_lconst 0 dX9_count_2 (by decide) ?_
  refine x_ldc2 dX9_count_3 kl_X9_96 ?_
  refine x_cSi dX9_count_6 ml_X9_98 mX9_isIn (ct_X9_isIn κ.2.1 g ((4 : Int32).toInt64) 0 7) rfl (Nat.le_of_ble_eq_true rfl) (by decide) (Nat.le_refl _) (Nat.le_refl _) ?_
  refine x_rei (1) (by decide) ?_
  refine x_if_ne dX9_count_9 (fun c9 => ?_) (fun c9 => ?_)
  rotate_left
  · exact absurd c9 (by decide)
  refine x_aload_n dX9_count_19 rfl ?_
  refine x_callV dX9_count_20 ml_X9_198 mX9_works (ct_X9_works κ.2.1 g aN aNs aNk aNf aNr aNp aNb aNa aNt aNbo aNsz aNnu aNl aNal aNlo aNw aNtr aNis aNbg aNow nts nta nop npr nac nkp nbd nnw nsn nwn gr wk lk sz br z ru ki ma bb hd ce tb nli nal nlo sd L (hgr) (hki) (hma) (hwk) (hlat) (hL) (hsz) (hbb) (hsd) (hsv) (hlk) (hwo)) [0, 1, 2, 3, 4, 5, 6, 7, 8] rfl rfl 0 rfl rfl rfl (Nat.le_of_ble_eq_true rfl) (by decide) (Nat.le_refl _) (Nat.le_refl _) (fun vv ww hp => ?_)
  obtain ⟨z1, z2, z3, z4, z5, rfl, rfl, p6⟩ := hp
  refine ⟨(rfl : [aN, aNs, aNt, aNa, aNr, aNb, aNl, aNal, aNlo] = [aN, aNs, aNt, aNa, aNr, aNb, aNl, aNal, aNlo]), x_eq (lv' := [some (.ref aN), some (.int 4)]) (st' := []) (ws' := [(aN, .inr (9, [.ref aNs, .ref aNk, .int nkp, .ref aNf, .ref aNr, .ref aNp, .ref aNb, .ref aNa, .ref aNt, .int (nI nts), .ref aNbo, .ref aNsz, .ref aNnu, .int (nI z1), .int (nI z2), .int z3, .int 0, .int (nI z4), .int 0, .int 0, .int (wnI nnw nwn), .ref aNl, .ref aNal, .ref aNlo, .int (nI (toH gr ki ma hd L sd)), .ref aNw, .ref aNtr, .ref aNis, .ref aNbg, .ref aNow])), (aNs, .inl (g.2.1 0, 919, .inl (msF gr wk z lk sz br ru ki ma bb ce hd))), (aNt, .inl (g.2.1 0, 60, .inl (nIf tb))), (aNa, .inl (g.2.1 0, 2475, .inl (nIf fcN))), (aNr, .inl (g.2.1 0, 495, .inl (nIf rowB))), (aNb, .inl (g.2.1 0, 4096, .inl (nIf popN))), (aNl, .inl (g.2.1 0, 495, .inl (nIf sd))), (aNal, .inl (g.2.1 0, 495, .inl (nIf (crH gr ki ma hd L sd)))), (aNlo, .inl (g.2.1 0, 12, .inl (nIf z5)))]) ?_ rfl rfl rfl⟩
  refine x_iload_n dX9_count_23 rfl ?_
  refine x_tabIn (off := 70) 94 dX9_count_24 (by decide) (by decide) rfl (by decide) ?_
  refine x_aload_n dX9_count_94 rfl ?_
  refine x_get dX9_count_95 0 0 inX9 fl_X9_7 rfl rfl (by decide) rfl ?_
  refine x_iconst 3 dX9_count_98 (by decide) ?_
  refine x_iald dX9_count_99 1 3 rfl (rfl) (by decide) (by decide) ?_
  refine x_rei (nI lk) (rfl) ?_
  rw [← hQ]
  refine x_iret dX9_count_100 rfl (Nat.le_of_ble_eq_true rfl) (Nat.le_of_ble_eq_true rfl) ?_
  exact ⟨_, _, _, _, _, rfl, rfl, p6⟩

-- == ncount_5 ==
set_option maxRecDepth 100000 in
set_option maxHeartbeats 4000000 in
theorem ct_ncount_5 (l : Launch) (g : XG) (aN aNs aNk aNf aNr aNp aNb aNa aNt aNbo aNsz aNnu aNl aNal aNlo aNw aNtr aNis aNbg aNow nts nta nop npr nac : Nat) (nkp nbd nnw nsn nwn : Int32) (gr wk lk sz br : Nat) (z : Int32) (ru ki ma bb hd : Nat → Nat) (ce : Nat → Int32) (tb nli nal nlo sd : Nat → Nat) (L : Nat) (hgr : gr ≤ 12) (hki : ∀ j, ki j ≤ 7) (hma : ∀ j, ma j ≤ 99999) (hwk : wk ≤ 40) (hlat : latI ce wk = nI L) (hL : L < 4096) (hsz : sz ≤ 60) (hbb : ∀ j, bb j < 256) (hsd : ∀ p, sd p ≤ 99) (hsv : ∀ p, p < 495 → sd p = if lk = 1 then clN (txV bb sz wk L p) else 1) (hlk : lk ≤ 1) (hwo : (nnw = 1 ∧ (nsn = 1 ∨ (nsn = 0 ∧ nli = sd))) ∨ (nnw = 0 ∧ nsn = 0 ∧ nli = sd ∧ nal = crH gr ki ma hd L sd ∧ nac = toH gr ki ma hd L sd ∧ ∀ q, q < gr → nlo q = laN (ki q) (ma q) L sd)) : Ct l g 34 0 0 yX9_count cX9_count 2 (some .int) [.ref aN, .int 5] [(aN, .inr (9, [.ref aNs, .ref aNk, .int nkp, .ref aNf, .ref aNr, .ref aNp, .ref aNb, .ref aNa, .ref aNt, .int (nI nts), .ref aNbo, .ref aNsz, .ref aNnu, .int (nI nta), .int (nI nop), .int nbd, .int 0, .int (nI npr), .int nnw, .int nsn, .int nwn, .ref aNl, .ref aNal, .ref aNlo, .int (nI nac), .ref aNw, .ref aNtr, .ref aNis, .ref aNbg, .ref aNow])), (aNs, .inl (g.2.1 0, 919, .inl (msF gr wk z lk sz br ru ki ma bb ce hd))), (aNt, .inl (g.2.1 0, 60, .inl (nIf tb))), (aNa, .inl (g.2.1 0, 2475, .inl (nIf fcN))), (aNr, .inl (g.2.1 0, 495, .inl (nIf rowB))), (aNb, .inl (g.2.1 0, 4096, .inl (nIf popN))), (aNl, .inl (g.2.1 0, 495, .inl (nIf nli))), (aNal, .inl (g.2.1 0, 495, .inl (nIf nal))), (aNlo, .inl (g.2.1 0, 12, .inl (nIf nlo)))] (fun vv_ ww_ => ∃ (zat : Nat) (zop : Nat) (zbd : Int32) (zpr : Nat) (lo2 : Nat → Nat), vv_ = some (.int (nI nts)) ∧ ww_ = [(aN, .inr (9, [.ref aNs, .ref aNk, .int nkp, .ref aNf, .ref aNr, .ref aNp, .ref aNb, .ref aNa, .ref aNt, .int (nI nts), .ref aNbo, .ref aNsz, .ref aNnu, .int (nI zat), .int (nI zop), .int zbd, .int 0, .int (nI zpr), .int 0, .int 0, .int (wnI nnw nwn), .ref aNl, .ref aNal, .ref aNlo, .int (nI (toH gr ki ma hd L sd)), .ref aNw, .ref aNtr, .ref aNis, .ref aNbg, .ref aNow])), (aNs, .inl (g.2.1 0, 919, .inl (msF gr wk z lk sz br ru ki ma bb ce hd))), (aNt, .inl (g.2.1 0, 60, .inl (nIf tb))), (aNa, .inl (g.2.1 0, 2475, .inl (nIf fcN))), (aNr, .inl (g.2.1 0, 495, .inl (nIf rowB))), (aNb, .inl (g.2.1 0, 4096, .inl (nIf popN))), (aNl, .inl (g.2.1 0, 495, .inl (nIf sd))), (aNal, .inl (g.2.1 0, 495, .inl (nIf (crH gr ki ma hd L sd)))), (aNlo, .inl (g.2.1 0, 12, .inl (nIf lo2)))] ∧ (∀ q, q < gr → lo2 q = laN (ki q) (ma q) L sd)) := by
  refine Ct.ofX (lv := [some (.ref aN), some (.int 5)]) (by decide) rfl (Nat.le_of_ble_eq_true rfl) (fun κ => ?_)
  generalize hQ : xQ κ g 0 0 _ = Q
  refine x_iload_n dX9_count_0 rfl ?_
  refine x_i2l dX9_count_1 ?_
  refine x_lconst 0 dX9_count_2 (by decide) ?_
  refine x_ldc2 dX9_count_3 kl_X9_96 ?_
  refine x_cSi dX9_count_6 ml_X9_98 mX9_isIn (ct_X9_isIn κ.2.1 g ((5 : Int32).toInt64) 0 7) rfl (Nat.le_of_ble_eq_true rfl) (by decide) (Nat.le_refl _) (Nat.le_refl _) ?_
  refine x_rei (1) (by decide) ?_
  refine x_if_ne dX9_count_9 (fun c9 => ?_) (fun c9 => ?_)
  rotate_left
  · exact absurd c9 (by decide)
  refine x_aload_n dX9_count_19 rfl ?_
  refine x_callV dX9_count_20 ml_X9_198 mX9_works (ct_X9_works κ.2.1 g aN aNs aNk aNf aNr aNp aNb aNa aNt aNbo aNsz aNnu aNl aNal aNlo aNw aNtr aNis aNbg aNow nts nta nop npr nac nkp nbd nnw nsn nwn gr wk lk sz br z ru ki ma bb hd ce tb nli nal nlo sd L (hgr) (hki) (hma) (hwk) (hlat) (hL) (hsz) (hbb) (hsd) (hsv) (hlk) (hwo)) [0, 1, 2, 3, 4, 5, 6, 7, 8] rfl rfl 0 rfl rfl rfl (Nat.le_of_ble_eq_true rfl) (by decide) (Nat.le_refl _) (Nat.le_refl _) (fun vv ww hp => ?_)
  obtain ⟨z1, z2, z3, z4, z5, rfl, rfl, p6⟩ := hp
  refine ⟨(rfl : [aN, aNs, aNt, aNa, aNr, aNb, aNl, aNal, aNlo] = [aN, aNs, aNt, aNa, aNr, aNb, aNl, aNal, aNlo]), x_eq (lv' := [some (.ref aN), some (.int 5)]) (st' := []) (ws' := [(aN, .inr (9, [.ref aNs, .ref aNk, .int nkp, .ref aNf, .ref aNr, .ref aNp, .ref aNb, .ref aNa, .ref aNt, .int (nI nts), .ref aNbo, .ref aNsz, .ref aNnu, .int (nI z1), .int (nI z2), .int z3, .int 0, .int (nI z4), .int 0, .int 0, .int (wnI nnw nwn), .ref aNl, .ref aNal, .ref aNlo, .int (nI (toH gr ki ma hd L sd)), .ref aNw, .ref aNtr, .ref aNis, .ref aNbg, .ref aNow])), (aNs, .inl (g.2.1 0, 919, .inl (msF gr wk z lk sz br ru ki ma bb ce hd))), (aNt, .inl (g.2.1 0, 60, .inl (nIf tb))), (aNa, .inl (g.2.1 0, 2475, .inl (nIf fcN))), (aNr, .inl (g.2.1 0, 495, .inl (nIf rowB))), (aNb, .inl (g.2.1 0, 4096, .inl (nIf popN))), (aNl, .inl (g.2.1 0, 495, .inl (nIf sd))), (aNal, .inl (g.2.1 0, 495, .inl (nIf (crH gr ki ma hd L sd)))), (aNlo, .inl (g.2.1 0, 12, .inl (nIf z5)))]) ?_ rfl rfl rfl⟩
  refine x_iload_n dX9_count_23 rfl ?_
  refine x_tabIn (off := 77) 101 dX9_count_24 (by decide) (by decide) rfl (by decide) ?_
  refine x_aload_n dX9_count_101 rfl ?_
  refine x_get dX9_count_102 0 9 inX9 fl_X9_115 rfl rfl (by decide) rfl ?_
  rw [← hQ]
  refine x_iret dX9_count_105 rfl (Nat.le_of_ble_eq_true rfl) (Nat.le_of_ble_eq_true rfl) ?_
  exact ⟨_, _, _, _, _, rfl, rfl, p6⟩

-- == ncount_6 ==
set_option maxRecDepth 100000 in
set_option maxHeartbeats 4000000 in
theorem ct_ncount_6 (l : Launch) (g : XG) (aN aNs aNk aNf aNr aNp aNb aNa aNt aNbo aNsz aNnu aNl aNal aNlo aNw aNtr aNis aNbg aNow nts nta nop npr nac : Nat) (nkp nbd nnw nsn nwn : Int32) (gr wk lk sz br : Nat) (z : Int32) (ru ki ma bb hd : Nat → Nat) (ce : Nat → Int32) (tb nli nal nlo sd : Nat → Nat) (L : Nat) (hgr : gr ≤ 12) (hki : ∀ j, ki j ≤ 7) (hma : ∀ j, ma j ≤ 99999) (hwk : wk ≤ 40) (hlat : latI ce wk = nI L) (hL : L < 4096) (hsz : sz ≤ 60) (hbb : ∀ j, bb j < 256) (hsd : ∀ p, sd p ≤ 99) (hsv : ∀ p, p < 495 → sd p = if lk = 1 then clN (txV bb sz wk L p) else 1) (hlk : lk ≤ 1) (hwo : (nnw = 1 ∧ (nsn = 1 ∨ (nsn = 0 ∧ nli = sd))) ∨ (nnw = 0 ∧ nsn = 0 ∧ nli = sd ∧ nal = crH gr ki ma hd L sd ∧ nac = toH gr ki ma hd L sd ∧ ∀ q, q < gr → nlo q = laN (ki q) (ma q) L sd)) : Ct l g 34 0 0 yX9_count cX9_count 2 (some .int) [.ref aN, .int 6] [(aN, .inr (9, [.ref aNs, .ref aNk, .int nkp, .ref aNf, .ref aNr, .ref aNp, .ref aNb, .ref aNa, .ref aNt, .int (nI nts), .ref aNbo, .ref aNsz, .ref aNnu, .int (nI nta), .int (nI nop), .int nbd, .int 0, .int (nI npr), .int nnw, .int nsn, .int nwn, .ref aNl, .ref aNal, .ref aNlo, .int (nI nac), .ref aNw, .ref aNtr, .ref aNis, .ref aNbg, .ref aNow])), (aNs, .inl (g.2.1 0, 919, .inl (msF gr wk z lk sz br ru ki ma bb ce hd))), (aNt, .inl (g.2.1 0, 60, .inl (nIf tb))), (aNa, .inl (g.2.1 0, 2475, .inl (nIf fcN))), (aNr, .inl (g.2.1 0, 495, .inl (nIf rowB))), (aNb, .inl (g.2.1 0, 4096, .inl (nIf popN))), (aNl, .inl (g.2.1 0, 495, .inl (nIf nli))), (aNal, .inl (g.2.1 0, 495, .inl (nIf nal))), (aNlo, .inl (g.2.1 0, 12, .inl (nIf nlo)))] (fun vv_ ww_ => ∃ (zat : Nat) (zop : Nat) (zbd : Int32) (zpr : Nat) (lo2 : Nat → Nat), vv_ = some (.int z) ∧ ww_ = [(aN, .inr (9, [.ref aNs, .ref aNk, .int nkp, .ref aNf, .ref aNr, .ref aNp, .ref aNb, .ref aNa, .ref aNt, .int (nI nts), .ref aNbo, .ref aNsz, .ref aNnu, .int (nI zat), .int (nI zop), .int zbd, .int 0, .int (nI zpr), .int 0, .int 0, .int (wnI nnw nwn), .ref aNl, .ref aNal, .ref aNlo, .int (nI (toH gr ki ma hd L sd)), .ref aNw, .ref aNtr, .ref aNis, .ref aNbg, .ref aNow])), (aNs, .inl (g.2.1 0, 919, .inl (msF gr wk z lk sz br ru ki ma bb ce hd))), (aNt, .inl (g.2.1 0, 60, .inl (nIf tb))), (aNa, .inl (g.2.1 0, 2475, .inl (nIf fcN))), (aNr, .inl (g.2.1 0, 495, .inl (nIf rowB))), (aNb, .inl (g.2.1 0, 4096, .inl (nIf popN))), (aNl, .inl (g.2.1 0, 495, .inl (nIf sd))), (aNal, .inl (g.2.1 0, 495, .inl (nIf (crH gr ki ma hd L sd)))), (aNlo, .inl (g.2.1 0, 12, .inl (nIf lo2)))] ∧ (∀ q, q < gr → lo2 q = laN (ki q) (ma q) L sd)) := by
  refine Ct.ofX (lv := [some (.ref aN), some (.int 6)]) (by decide) rfl (Nat.le_of_ble_eq_true rfl) (fun κ => ?_)
  generalize hQ : xQ κ g 0 0 _ = Q
  refine x_iload_n dX9_count_0 rfl ?_
  refine x_i2l dX9_count_1 ?_
  refine x_lconst 0 dX9_count_2 (by decide) ?_
  refine x_ldc2 dX9_count_3 kl_X9_96 ?_
  refine x_cSi dX9_count_6 ml_X9_98 mX9_isIn (ct_X9_isIn κ.2.1 g ((6 : Int32).toInt64) 0 7) rfl (Nat.le_of_ble_eq_true rfl) (by decide) (Nat.le_refl _) (Nat.le_refl _) ?_
  refine x_rei (1) (by decide) ?_
  refine x_if_ne dX9_count_9 (fun c9 => ?_) (fun c9 => ?_)
  rotate_left
  · exact absurd c9 (by decide)
  refine x_aload_n dX9_count_19 rfl ?_
  refine x_callV dX9_count_20 ml_X9_198 mX9_works (ct_X9_works κ.2.1 g aN aNs aNk aNf aNr aNp aNb aNa aNt aNbo aNsz aNnu aNl aNal aNlo aNw aNtr aNis aNbg aNow nts nta nop npr nac nkp nbd nnw nsn nwn gr wk lk sz br z ru ki ma bb hd ce tb nli nal nlo sd L (hgr) (hki) (hma) (hwk) (hlat) (hL) (hsz) (hbb) (hsd) (hsv) (hlk) (hwo)) [0, 1, 2, 3, 4, 5, 6, 7, 8] rfl rfl 0 rfl rfl rfl (Nat.le_of_ble_eq_true rfl) (by decide) (Nat.le_refl _) (Nat.le_refl _) (fun vv ww hp => ?_)
  obtain ⟨z1, z2, z3, z4, z5, rfl, rfl, p6⟩ := hp
  refine ⟨(rfl : [aN, aNs, aNt, aNa, aNr, aNb, aNl, aNal, aNlo] = [aN, aNs, aNt, aNa, aNr, aNb, aNl, aNal, aNlo]), x_eq (lv' := [some (.ref aN), some (.int 6)]) (st' := []) (ws' := [(aN, .inr (9, [.ref aNs, .ref aNk, .int nkp, .ref aNf, .ref aNr, .ref aNp, .ref aNb, .ref aNa, .ref aNt, .int (nI nts), .ref aNbo, .ref aNsz, .ref aNnu, .int (nI z1), .int (nI z2), .int z3, .int 0, .int (nI z4), .int 0, .int 0, .int (wnI nnw nwn), .ref aNl, .ref aNal, .ref aNlo, .int (nI (toH gr ki ma hd L sd)), .ref aNw, .ref aNtr, .ref aNis, .ref aNbg, .ref aNow])), (aNs, .inl (g.2.1 0, 919, .inl (msF gr wk z lk sz br ru ki ma bb ce hd))), (aNt, .inl (g.2.1 0, 60, .inl (nIf tb))), (aNa, .inl (g.2.1 0, 2475, .inl (nIf fcN))), (aNr, .inl (g.2.1 0, 495, .inl (nIf rowB))), (aNb, .inl (g.2.1 0, 4096, .inl (nIf popN))), (aNl, .inl (g.2.1 0, 495, .inl (nIf sd))), (aNal, .inl (g.2.1 0, 495, .inl (nIf (crH gr ki ma hd L sd)))), (aNlo, .inl (g.2.1 0, 12, .inl (nIf z5)))]) ?_ rfl rfl rfl⟩
  refine x_iload_n dX9_count_23 rfl ?_
  refine x_tabIn (off := 82) 106 dX9_count_24 (by decide) (by decide) rfl (by decide) ?_
  refine x_aload_n dX9_count_106 rfl ?_
  refine x_get dX9_count_107 0 0 inX9 fl_X9_7 rfl rfl (by decide) rfl ?_
  refine x_iconst 2 dX9_count_110 (by decide) ?_
  refine x_iald dX9_count_111 1 2 rfl (rfl) (by decide) (by decide) ?_
  refine x_rei (z) (rfl) ?_
  rw [← hQ]
  refine x_iret dX9_count_112 rfl (Nat.le_of_ble_eq_true rfl) (Nat.le_of_ble_eq_true rfl) ?_
  exact ⟨_, _, _, _, _, rfl, rfl, p6⟩

-- == ncount_7 ==
set_option maxRecDepth 100000 in
set_option maxHeartbeats 4000000 in
theorem ct_ncount_7 (l : Launch) (g : XG) (aN aNs aNk aNf aNr aNp aNb aNa aNt aNbo aNsz aNnu aNl aNal aNlo aNw aNtr aNis aNbg aNow nts nta nop npr nac : Nat) (nkp nbd nnw nsn nwn : Int32) (gr wk lk sz br : Nat) (z : Int32) (ru ki ma bb hd : Nat → Nat) (ce : Nat → Int32) (tb nli nal nlo sd : Nat → Nat) (L : Nat) (hgr : gr ≤ 12) (hki : ∀ j, ki j ≤ 7) (hma : ∀ j, ma j ≤ 99999) (hwk : wk ≤ 40) (hlat : latI ce wk = nI L) (hL : L < 4096) (hsz : sz ≤ 60) (hbb : ∀ j, bb j < 256) (hsd : ∀ p, sd p ≤ 99) (hsv : ∀ p, p < 495 → sd p = if lk = 1 then clN (txV bb sz wk L p) else 1) (hlk : lk ≤ 1) (hwo : (nnw = 1 ∧ (nsn = 1 ∨ (nsn = 0 ∧ nli = sd))) ∨ (nnw = 0 ∧ nsn = 0 ∧ nli = sd ∧ nal = crH gr ki ma hd L sd ∧ nac = toH gr ki ma hd L sd ∧ ∀ q, q < gr → nlo q = laN (ki q) (ma q) L sd)) : Ct l g 34 0 0 yX9_count cX9_count 2 (some .int) [.ref aN, .int 7] [(aN, .inr (9, [.ref aNs, .ref aNk, .int nkp, .ref aNf, .ref aNr, .ref aNp, .ref aNb, .ref aNa, .ref aNt, .int (nI nts), .ref aNbo, .ref aNsz, .ref aNnu, .int (nI nta), .int (nI nop), .int nbd, .int 0, .int (nI npr), .int nnw, .int nsn, .int nwn, .ref aNl, .ref aNal, .ref aNlo, .int (nI nac), .ref aNw, .ref aNtr, .ref aNis, .ref aNbg, .ref aNow])), (aNs, .inl (g.2.1 0, 919, .inl (msF gr wk z lk sz br ru ki ma bb ce hd))), (aNt, .inl (g.2.1 0, 60, .inl (nIf tb))), (aNa, .inl (g.2.1 0, 2475, .inl (nIf fcN))), (aNr, .inl (g.2.1 0, 495, .inl (nIf rowB))), (aNb, .inl (g.2.1 0, 4096, .inl (nIf popN))), (aNl, .inl (g.2.1 0, 495, .inl (nIf nli))), (aNal, .inl (g.2.1 0, 495, .inl (nIf nal))), (aNlo, .inl (g.2.1 0, 12, .inl (nIf nlo)))] (fun vv_ ww_ => ∃ (zat : Nat) (zop : Nat) (zbd : Int32) (zpr : Nat) (lo2 : Nat → Nat), vv_ = some (.int (nI (ru 7))) ∧ ww_ = [(aN, .inr (9, [.ref aNs, .ref aNk, .int nkp, .ref aNf, .ref aNr, .ref aNp, .ref aNb, .ref aNa, .ref aNt, .int (nI nts), .ref aNbo, .ref aNsz, .ref aNnu, .int (nI zat), .int (nI zop), .int zbd, .int 0, .int (nI zpr), .int 0, .int 0, .int (wnI nnw nwn), .ref aNl, .ref aNal, .ref aNlo, .int (nI (toH gr ki ma hd L sd)), .ref aNw, .ref aNtr, .ref aNis, .ref aNbg, .ref aNow])), (aNs, .inl (g.2.1 0, 919, .inl (msF gr wk z lk sz br ru ki ma bb ce hd))), (aNt, .inl (g.2.1 0, 60, .inl (nIf tb))), (aNa, .inl (g.2.1 0, 2475, .inl (nIf fcN))), (aNr, .inl (g.2.1 0, 495, .inl (nIf rowB))), (aNb, .inl (g.2.1 0, 4096, .inl (nIf popN))), (aNl, .inl (g.2.1 0, 495, .inl (nIf sd))), (aNal, .inl (g.2.1 0, 495, .inl (nIf (crH gr ki ma hd L sd)))), (aNlo, .inl (g.2.1 0, 12, .inl (nIf lo2)))] ∧ (∀ q, q < gr → lo2 q = laN (ki q) (ma q) L sd)) := by
  refine Ct.ofX (lv := [some (.ref aN), some (.int 7)]) (by decide) rfl (Nat.le_of_ble_eq_true rfl) (fun κ => ?_)
  generalize hQ : xQ κ g 0 0 _ = Q
  refine x_iload_n dX9_count_0 rfl ?_
  refine x_i2l dX9_count_1 ?_
  refine x_lconst 0 dX9_count_2 (by decide) ?_
  refine x_ldc2 dX9_count_3 kl_X9_96 ?_
  refine x_cSi dX9_count_6 ml_X9_98 mX9_isIn (ct_X9_isIn κ.2.1 g ((7 : Int32).toInt64) 0 7) rfl (Nat.le_of_ble_eq_true rfl) (by decide) (Nat.le_refl _) (Nat.le_refl _) ?_
  refine x_rei (1) (by decide) ?_
  refine x_if_ne dX9_count_9 (fun c9 => ?_) (fun c9 => ?_)
  rotate_left
  · exact absurd c9 (by decide)
  refine x_aload_n dX9_count_19 rfl ?_
  refine x_callV dX9_count_20 ml_X9_198 mX9_works (ct_X9_works κ.2.1 g aN aNs aNk aNf aNr aNp aNb aNa aNt aNbo aNsz aNnu aNl aNal aNlo aNw aNtr aNis aNbg aNow nts nta nop npr nac nkp nbd nnw nsn nwn gr wk lk sz br z ru ki ma bb hd ce tb nli nal nlo sd L (hgr) (hki) (hma) (hwk) (hlat) (hL) (hsz) (hbb) (hsd) (hsv) (hlk) (hwo)) [0, 1, 2, 3, 4, 5, 6, 7, 8] rfl rfl 0 rfl rfl rfl (Nat.le_of_ble_eq_true rfl) (by decide) (Nat.le_refl _) (Nat.le_refl _) (fun vv ww hp => ?_)
  obtain ⟨z1, z2, z3, z4, z5, rfl, rfl, p6⟩ := hp
  refine ⟨(rfl : [aN, aNs, aNt, aNa, aNr, aNb, aNl, aNal, aNlo] = [aN, aNs, aNt, aNa, aNr, aNb, aNl, aNal, aNlo]), x_eq (lv' := [some (.ref aN), some (.int 7)]) (st' := []) (ws' := [(aN, .inr (9, [.ref aNs, .ref aNk, .int nkp, .ref aNf, .ref aNr, .ref aNp, .ref aNb, .ref aNa, .ref aNt, .int (nI nts), .ref aNbo, .ref aNsz, .ref aNnu, .int (nI z1), .int (nI z2), .int z3, .int 0, .int (nI z4), .int 0, .int 0, .int (wnI nnw nwn), .ref aNl, .ref aNal, .ref aNlo, .int (nI (toH gr ki ma hd L sd)), .ref aNw, .ref aNtr, .ref aNis, .ref aNbg, .ref aNow])), (aNs, .inl (g.2.1 0, 919, .inl (msF gr wk z lk sz br ru ki ma bb ce hd))), (aNt, .inl (g.2.1 0, 60, .inl (nIf tb))), (aNa, .inl (g.2.1 0, 2475, .inl (nIf fcN))), (aNr, .inl (g.2.1 0, 495, .inl (nIf rowB))), (aNb, .inl (g.2.1 0, 4096, .inl (nIf popN))), (aNl, .inl (g.2.1 0, 495, .inl (nIf sd))), (aNal, .inl (g.2.1 0, 495, .inl (nIf (crH gr ki ma hd L sd)))), (aNlo, .inl (g.2.1 0, 12, .inl (nIf z5)))]) ?_ rfl rfl rfl⟩
  refine x_iload_n dX9_count_23 rfl ?_
  refine x_tabOut 113 dX9_count_24 (by decide) (by decide) ?_
  refine x_aload_n dX9_count_113 rfl ?_
  refine x_get dX9_count_114 0 0 inX9 fl_X9_7 rfl rfl (by decide) rfl ?_
  refine x_bipush 17 dX9_count_117 (by decide) ?_
  refine x_iald dX9_count_119 1 17 rfl (rfl) (by decide) (by decide) ?_
  refine x_rei (nI (ru 7)) (msg_ru (x := 7) (by omega) (by omega)) ?_
  rw [← hQ]
  refine x_iret dX9_count_120 rfl (Nat.le_of_ble_eq_true rfl) (Nat.le_of_ble_eq_true rfl) ?_
  exact ⟨_, _, _, _, _, rfl, rfl, p6⟩

-- == nstatus_b ==
theorem dX9_status_0 : xd cX9_status 0 (.iload_n 1) 1 1 := ⟨by decide +kernel, rfl⟩
theorem dX9_status_1 : xd cX9_status 1 .i2l 1 2 := ⟨by decide +kernel, rfl⟩
theorem dX9_status_2 : xd cX9_status 2 (.ldc2_w 271) 3 5 := ⟨by decide +kernel, rfl⟩
theorem dX9_status_5 : xd cX9_status 5 (.ldc2_w 273) 3 8 := ⟨by decide +kernel, rfl⟩
theorem dX9_status_8 : xd cX9_status 8 (.invokestatic 98) 3 11 := ⟨by decide +kernel, rfl⟩
theorem dX9_status_11 : xj cX9_status 11 (.ifCond .eq) 14 25 := ⟨14, by decide +kernel, rfl, by decide⟩
theorem dX9_status_14 : xd cX9_status 14 (.aload_n 0) 1 15 := ⟨by decide +kernel, rfl⟩
theorem dX9_status_15 : xd cX9_status 15 (.getfield 16) 3 18 := ⟨by decide +kernel, rfl⟩
theorem dX9_status_18 : xd cX9_status 18 (.iload_n 1) 1 19 := ⟨by decide +kernel, rfl⟩
theorem dX9_status_19 : xd cX9_status 19 (.iconst 1) 1 20 := ⟨by decide +kernel, rfl⟩
theorem dX9_status_20 : xd cX9_status 20 .iadd 1 21 := ⟨by decide +kernel, rfl⟩
theorem dX9_status_21 : xd cX9_status 21 .iaload 1 22 := ⟨by decide +kernel, rfl⟩
theorem dX9_status_22 : xj cX9_status 22 .goto 25 31 := ⟨9, by decide +kernel, rfl, by decide⟩
theorem dX9_status_25 : xd cX9_status 25 (.aload_n 0) 1 26 := ⟨by decide +kernel, rfl⟩
theorem dX9_status_26 : xd cX9_status 26 (.ldc 87) 2 28 := ⟨by decide +kernel, rfl⟩
theorem dX9_status_28 : xd cX9_status 28 (.invokevirtual 88) 3 31 := ⟨by decide +kernel, rfl⟩
theorem dX9_status_31 : xd cX9_status 31 .ireturn 1 32 := ⟨by decide +kernel, rfl⟩

set_option maxRecDepth 100000 in
set_option maxHeartbeats 4000000 in
theorem ct_nstatus_b (l : Launch) (g : XG) (aN aNs aNk aNf aNr aNp aNb aNa aNt aNbo aNsz aNnu aNl aNal aNlo aNw aNtr aNis aNbg aNow nts nta nop npr nac : Nat) (nkp nbd ntp nnw nsn nwn : Int32) (fi : Nat → Nat) (wh : Int32) (hb : wI wh (-1) 6 = 0) : Ct l g 34 0 0 yX9_status cX9_status 2 (some .int) [.ref aN, .int wh] [(aN, .inr (9, [.ref aNs, .ref aNk, .int nkp, .ref aNf, .ref aNr, .ref aNp, .ref aNb, .ref aNa, .ref aNt, .int (nI nts), .ref aNbo, .ref aNsz, .ref aNnu, .int (nI nta), .int (nI nop), .int nbd, .int ntp, .int (nI npr), .int nnw, .int nsn, .int nwn, .ref aNl, .ref aNal, .ref aNlo, .int (nI nac), .ref aNw, .ref aNtr, .ref aNis, .ref aNbg, .ref aNow])), (aNf, .inl (g.2.1 0, 8, .inl (nIf (fnF fi))))] (xpi (fndI 0) [(aN, .inr (9, [.ref aNs, .ref aNk, .int nkp, .ref aNf, .ref aNr, .ref aNp, .ref aNb, .ref aNa, .ref aNt, .int (nI nts), .ref aNbo, .ref aNsz, .ref aNnu, .int (nI nta), .int (nI nop), .int nbd, .int ntp, .int (nI npr), .int nnw, .int nsn, .int nwn, .ref aNl, .ref aNal, .ref aNlo, .int (nI nac), .ref aNw, .ref aNtr, .ref aNis, .ref aNbg, .ref aNow])), (aNf, .inl (g.2.1 0, 8, .inl (nIf (fnF (updN fi 0 (fi 0 + 1))))))]) := by
  refine Ct.ofX (lv := [some (.ref aN), some (.int wh)]) (by decide) rfl (Nat.le_of_ble_eq_true rfl) (fun κ => ?_)
  generalize hQ : xQ κ g 0 0 _ = Q
  refine x_iload_n dX9_status_0 rfl ?_
  refine x_i2l dX9_status_1 ?_
  refine x_ldc2 dX9_status_2 kl_X9_271 ?_
  refine x_ldc2 dX9_status_5 kl_X9_273 ?_
  refine x_cSi dX9_status_8 ml_X9_98 mX9_isIn (ct_X9_isIn κ.2.1 g wh.toInt64 (-1) 6) rfl (Nat.le_of_ble_eq_true rfl) (by decide) (Nat.le_refl _) (Nat.le_refl _) ?_
  refine x_rei (wI wh (-1) 6) (inL_w wh (-1) 6 (by first | rfl | decide) (by first | rfl | decide)) ?_
  refine x_if_eq dX9_status_11 (fun c11 => ?_) (fun c11 => ?_)
  · have c11 : (wI wh (-1) 6) = 0 := c11
    refine x_aload_n dX9_status_25 rfl ?_
    refine x_ldc dX9_status_26 k_X9_87 ?_
    refine x_cVi (ws' := [(aN, .inr (9, [.ref aNs, .ref aNk, .int nkp, .ref aNf, .ref aNr, .ref aNp, .ref aNb, .ref aNa, .ref aNt, .int (nI nts), .ref aNbo, .ref aNsz, .ref aNnu, .int (nI nta), .int (nI nop), .int nbd, .int ntp, .int (nI npr), .int nnw, .int nsn, .int nwn, .ref aNl, .ref aNal, .ref aNlo, .int (nI nac), .ref aNw, .ref aNtr, .ref aNis, .ref aNbg, .ref aNow])), (aNf, .inl (g.2.1 0, 8, .inl (nIf (fnF (updN fi 0 (fi 0 + 1))))))]) dX9_status_28 ml_X9_88 mX9_finds (ct_finds_0 κ.2.1 g aN aNs aNk aNf aNr aNp aNb aNa aNt aNbo aNsz aNnu aNl aNal aNlo aNw aNtr aNis aNbg aNow nts nta nop npr nac nkp nbd ntp nnw nsn nwn fi) [0, 1] rfl rfl 0 rfl rfl rfl (Nat.le_of_ble_eq_true rfl) (by decide) (Nat.le_refl _) (Nat.le_refl _) (rfl : [aN, aNf] = [aN, aNf]) rfl ?_
    rw [← hQ]
    refine x_iret dX9_status_31 rfl (Nat.le_of_ble_eq_true rfl) (Nat.le_of_ble_eq_true rfl) ?_
    exact ⟨rfl, rfl⟩
  · have c11 : ¬ ((wI wh (-1) 6) = 0) := c11
    exact absurd hb c11

-- == nstatus_o ==
set_option maxRecDepth 100000 in
set_option maxHeartbeats 4000000 in
theorem ct_nstatus_o (l : Launch) (g : XG) (aN aNs aNk aNf aNr aNp aNb aNa aNt aNbo aNsz aNnu aNl aNal aNlo aNw aNtr aNis aNbg aNow nts nta nop npr nac : Nat) (nkp nbd ntp nnw nsn nwn : Int32) (fi : Nat → Nat) (n : Nat) (hn : n ≤ 6) : Ct l g 34 0 0 yX9_status cX9_status 2 (some .int) [.ref aN, .int (nI n)] [(aN, .inr (9, [.ref aNs, .ref aNk, .int nkp, .ref aNf, .ref aNr, .ref aNp, .ref aNb, .ref aNa, .ref aNt, .int (nI nts), .ref aNbo, .ref aNsz, .ref aNnu, .int (nI nta), .int (nI nop), .int nbd, .int ntp, .int (nI npr), .int nnw, .int nsn, .int nwn, .ref aNl, .ref aNal, .ref aNlo, .int (nI nac), .ref aNw, .ref aNtr, .ref aNis, .ref aNbg, .ref aNow])), (aNf, .inl (g.2.1 0, 8, .inl (nIf (fnF fi))))] (xpi (nI (fi n)) [(aN, .inr (9, [.ref aNs, .ref aNk, .int nkp, .ref aNf, .ref aNr, .ref aNp, .ref aNb, .ref aNa, .ref aNt, .int (nI nts), .ref aNbo, .ref aNsz, .ref aNnu, .int (nI nta), .int (nI nop), .int nbd, .int ntp, .int (nI npr), .int nnw, .int nsn, .int nwn, .ref aNl, .ref aNal, .ref aNlo, .int (nI nac), .ref aNw, .ref aNtr, .ref aNis, .ref aNbg, .ref aNow])), (aNf, .inl (g.2.1 0, 8, .inl (nIf (fnF fi))))]) := by
  refine Ct.ofX (lv := [some (.ref aN), some (.int (nI n))]) (by decide) rfl (Nat.le_of_ble_eq_true rfl) (fun κ => ?_)
  generalize hQ : xQ κ g 0 0 _ = Q
  refine x_iload_n dX9_status_0 rfl ?_
  refine x_i2l dX9_status_1 ?_
  refine x_ldc2 dX9_status_2 kl_X9_271 ?_
  refine x_ldc2 dX9_status_5 kl_X9_273 ?_
  refine x_cSi dX9_status_8 ml_X9_98 mX9_isIn (ct_X9_isIn κ.2.1 g ((nI n).toInt64) (-1) 6) rfl (Nat.le_of_ble_eq_true rfl) (by decide) (Nat.le_refl _) (Nat.le_refl _) ?_
  refine x_rei (wI (nI n) (-1) 6) (inL_w (nI n) (-1) 6 (by first | rfl | decide) (by first | rfl | decide)) ?_
  refine x_rei (1) (wI_s hn) ?_
  refine x_if_eq dX9_status_11 (fun c11 => ?_) (fun c11 => ?_)
  · exact absurd c11 (by decide)
  refine x_aload_n dX9_status_14 rfl ?_
  refine x_get dX9_status_15 0 3 inX9 fl_X9_16 rfl rfl (by decide) rfl ?_
  refine x_iload_n dX9_status_18 rfl ?_
  refine x_iconst 1 dX9_status_19 (by decide) ?_
  refine x_iadd dX9_status_20 ?_
  refine x_rei (nI (n + 1)) (nI_addc n 1 rfl) ?_
  refine x_iald dX9_status_21 1 (n + 1) rfl (rfl) (by omega) (by decide) ?_
  refine x_rei (nI (fi n)) (by show nI (fnF fi (n + 1)) = nI (fi n); rw [fnF, if_neg (by omega)]; rfl) ?_
  refine x_goto dX9_status_22 ?_
  rw [← hQ]
  refine x_iret dX9_status_31 rfl (Nat.le_of_ble_eq_true rfl) (Nat.le_of_ble_eq_true rfl) ?_
  exact ⟨rfl, rfl⟩

-- == nstatus_a ==
set_option maxRecDepth 100000 in
set_option maxHeartbeats 4000000 in
theorem ct_nstatus_a (l : Launch) (g : XG) (aN aNs aNk aNf aNr aNp aNb aNa aNt aNbo aNsz aNnu aNl aNal aNlo aNw aNtr aNis aNbg aNow nts nta nop npr nac : Nat) (nkp nbd ntp nnw nsn nwn : Int32) (fi : Nat → Nat) : Ct l g 34 0 0 yX9_status cX9_status 2 (some .int) [.ref aN, .int ((-1))] [(aN, .inr (9, [.ref aNs, .ref aNk, .int nkp, .ref aNf, .ref aNr, .ref aNp, .ref aNb, .ref aNa, .ref aNt, .int (nI nts), .ref aNbo, .ref aNsz, .ref aNnu, .int (nI nta), .int (nI nop), .int nbd, .int ntp, .int (nI npr), .int nnw, .int nsn, .int nwn, .ref aNl, .ref aNal, .ref aNlo, .int (nI nac), .ref aNw, .ref aNtr, .ref aNis, .ref aNbg, .ref aNow])), (aNf, .inl (g.2.1 0, 8, .inl (nIf (fnF fi))))] (xpi (nI (sumN fi 7)) [(aN, .inr (9, [.ref aNs, .ref aNk, .int nkp, .ref aNf, .ref aNr, .ref aNp, .ref aNb, .ref aNa, .ref aNt, .int (nI nts), .ref aNbo, .ref aNsz, .ref aNnu, .int (nI nta), .int (nI nop), .int nbd, .int ntp, .int (nI npr), .int nnw, .int nsn, .int nwn, .ref aNl, .ref aNal, .ref aNlo, .int (nI nac), .ref aNw, .ref aNtr, .ref aNis, .ref aNbg, .ref aNow])), (aNf, .inl (g.2.1 0, 8, .inl (nIf (fnF fi))))]) := by
  refine Ct.ofX (lv := [some (.ref aN), some (.int ((-1)))]) (by decide) rfl (Nat.le_of_ble_eq_true rfl) (fun κ => ?_)
  generalize hQ : xQ κ g 0 0 _ = Q
  refine x_iload_n dX9_status_0 rfl ?_
  refine x_i2l dX9_status_1 ?_
  refine x_ldc2 dX9_status_2 kl_X9_271 ?_
  refine x_ldc2 dX9_status_5 kl_X9_273 ?_
  refine x_cSi dX9_status_8 ml_X9_98 mX9_isIn (ct_X9_isIn κ.2.1 g ((-1).toInt64) (-1) 6) rfl (Nat.le_of_ble_eq_true rfl) (by decide) (Nat.le_refl _) (Nat.le_refl _) ?_
  refine x_rei (wI (-1) (-1) 6) (inL_w (-1) (-1) 6 (by first | rfl | decide) (by first | rfl | decide)) ?_
  refine x_rei (1) (by decide) ?_
  refine x_if_eq dX9_status_11 (fun c11 => ?_) (fun c11 => ?_)
  · exact absurd c11 (by decide)
  refine x_aload_n dX9_status_14 rfl ?_
  refine x_get dX9_status_15 0 3 inX9 fl_X9_16 rfl rfl (by decide) rfl ?_
  refine x_iload_n dX9_status_18 rfl ?_
  refine x_iconst 1 dX9_status_19 (by decide) ?_
  refine x_iadd dX9_status_20 ?_
  refine x_iald dX9_status_21 1 0 rfl (by decide) (by decide) (by decide) ?_
  refine x_goto dX9_status_22 ?_
  rw [← hQ]
  refine x_iret dX9_status_31 rfl (Nat.le_of_ble_eq_true rfl) (Nat.le_of_ble_eq_true rfl) ?_
  exact ⟨rfl, rfl⟩

-- == nwipe_o ==
theorem dX9_wipe_0 : xd cX9_wipe 0 (.aload_n 0) 1 1 := ⟨by decide +kernel, rfl⟩
theorem dX9_wipe_1 : xd cX9_wipe 1 (.getfield 115) 3 4 := ⟨by decide +kernel, rfl⟩
theorem dX9_wipe_4 : xd cX9_wipe 4 (.istore_n 1) 1 5 := ⟨by decide +kernel, rfl⟩
theorem dX9_wipe_5 : xd cX9_wipe 5 (.aload_n 0) 1 6 := ⟨by decide +kernel, rfl⟩
theorem dX9_wipe_6 : xd cX9_wipe 6 (.iconst 0) 1 7 := ⟨by decide +kernel, rfl⟩
theorem dX9_wipe_7 : xd cX9_wipe 7 (.putfield 115) 3 10 := ⟨by decide +kernel, rfl⟩
theorem dX9_wipe_10 : xd cX9_wipe 10 (.iload_n 1) 1 11 := ⟨by decide +kernel, rfl⟩
theorem dX9_wipe_11 : xd cX9_wipe 11 .ireturn 1 12 := ⟨by decide +kernel, rfl⟩

set_option maxRecDepth 100000 in
set_option maxHeartbeats 4000000 in
theorem ct_nwipe_o (l : Launch) (g : XG) (aN aNs aNk aNf aNr aNp aNb aNa aNt aNbo aNsz aNnu aNl aNal aNlo aNw aNtr aNis aNbg aNow nts nta nop npr nac : Nat) (nkp nbd ntp nnw nsn nwn : Int32) : Ct l g 34 0 0 yX9_wipe cX9_wipe 2 (some .int) [.ref aN] [(aN, .inr (9, [.ref aNs, .ref aNk, .int nkp, .ref aNf, .ref aNr, .ref aNp, .ref aNb, .ref aNa, .ref aNt, .int (nI nts), .ref aNbo, .ref aNsz, .ref aNnu, .int (nI nta), .int (nI nop), .int nbd, .int ntp, .int (nI npr), .int nnw, .int nsn, .int nwn, .ref aNl, .ref aNal, .ref aNlo, .int (nI nac), .ref aNw, .ref aNtr, .ref aNis, .ref aNbg, .ref aNow]))] (xpi (nI (nts)) [(aN, .inr (9, [.ref aNs, .ref aNk, .int nkp, .ref aNf, .ref aNr, .ref aNp, .ref aNb, .ref aNa, .ref aNt, .int 0, .ref aNbo, .ref aNsz, .ref aNnu, .int (nI nta), .int (nI nop), .int nbd, .int ntp, .int (nI npr), .int nnw, .int nsn, .int nwn, .ref aNl, .ref aNal, .ref aNlo, .int (nI nac), .ref aNw, .ref aNtr, .ref aNis, .ref aNbg, .ref aNow]))]) := by
  refine Ct.ofX (lv := [some (.ref aN), none]) (by decide) rfl (Nat.le_of_ble_eq_true rfl) (fun κ => ?_)
  generalize hQ : xQ κ g 0 0 _ = Q
  refine x_aload_n dX9_wipe_0 rfl ?_
  refine x_get dX9_wipe_1 0 9 inX9 fl_X9_115 rfl rfl (by decide) rfl ?_
  refine x_istore_n (lv' := [some (.ref aN), some (.int (nI nts))]) dX9_wipe_4 (xlt rfl) rfl ?_
  refine x_aload_n dX9_wipe_5 rfl ?_
  refine x_iconst 0 dX9_wipe_6 (by decide) ?_
  refine x_put (ws' := [(aN, .inr (9, [.ref aNs, .ref aNk, .int nkp, .ref aNf, .ref aNr, .ref aNp, .ref aNb, .ref aNa, .ref aNt, .int 0, .ref aNbo, .ref aNsz, .ref aNnu, .int (nI nta), .int (nI nop), .int nbd, .int ntp, .int (nI npr), .int nnw, .int nsn, .int nwn, .ref aNl, .ref aNal, .ref aNlo, .int (nI nac), .ref aNw, .ref aNtr, .ref aNis, .ref aNbg, .ref aNow]))]) dX9_wipe_7 0 9 inX9 tyX9_ok nmX9 fl_X9_115 rfl rfl (by decide) rfl (rfl) rfl (xlt rfl) rfl ?_
  refine x_iload_n dX9_wipe_10 rfl ?_
  rw [← hQ]
  refine x_iret dX9_wipe_11 rfl (Nat.le_of_ble_eq_true rfl) (Nat.le_of_ble_eq_true rfl) ?_
  exact ⟨rfl, rfl⟩

-- == ntear_o ==
theorem dX9_tear_0 : xd cX9_tear 0 (.aload_n 0) 1 1 := ⟨by decide +kernel, rfl⟩
theorem dX9_tear_1 : xd cX9_tear 1 (.getfield 268) 3 4 := ⟨by decide +kernel, rfl⟩
theorem dX9_tear_4 : xd cX9_tear 4 (.istore_n 1) 1 5 := ⟨by decide +kernel, rfl⟩
theorem dX9_tear_5 : xd cX9_tear 5 (.aload_n 0) 1 6 := ⟨by decide +kernel, rfl⟩
theorem dX9_tear_6 : xd cX9_tear 6 (.iconst 0) 1 7 := ⟨by decide +kernel, rfl⟩
theorem dX9_tear_7 : xd cX9_tear 7 (.putfield 268) 3 10 := ⟨by decide +kernel, rfl⟩
theorem dX9_tear_10 : xd cX9_tear 10 (.iload_n 1) 1 11 := ⟨by decide +kernel, rfl⟩
theorem dX9_tear_11 : xj cX9_tear 11 (.ifCond .eq) 14 18 := ⟨7, by decide +kernel, rfl, by decide⟩
theorem dX9_tear_14 : xd cX9_tear 14 (.iconst 1) 1 15 := ⟨by decide +kernel, rfl⟩
theorem dX9_tear_15 : xj cX9_tear 15 .goto 18 19 := ⟨4, by decide +kernel, rfl, by decide⟩
theorem dX9_tear_18 : xd cX9_tear 18 (.iconst 0) 1 19 := ⟨by decide +kernel, rfl⟩
theorem dX9_tear_19 : xd cX9_tear 19 .ireturn 1 20 := ⟨by decide +kernel, rfl⟩

set_option maxRecDepth 100000 in
set_option maxHeartbeats 4000000 in
theorem ct_ntear_o (l : Launch) (g : XG) (aN aNs aNk aNf aNr aNp aNb aNa aNt aNbo aNsz aNnu aNl aNal aNlo aNw aNtr aNis aNbg aNow nts nta nop npr nac : Nat) (nkp nbd ntp nnw nsn nwn : Int32) : Ct l g 34 0 0 yX9_tear cX9_tear 2 (some .int) [.ref aN] [(aN, .inr (9, [.ref aNs, .ref aNk, .int nkp, .ref aNf, .ref aNr, .ref aNp, .ref aNb, .ref aNa, .ref aNt, .int (nI nts), .ref aNbo, .ref aNsz, .ref aNnu, .int (nI nta), .int (nI nop), .int nbd, .int ntp, .int (nI npr), .int nnw, .int nsn, .int nwn, .ref aNl, .ref aNal, .ref aNlo, .int (nI nac), .ref aNw, .ref aNtr, .ref aNis, .ref aNbg, .ref aNow]))] (xpi (if nkp = 0 then 0 else 1) [(aN, .inr (9, [.ref aNs, .ref aNk, .int 0, .ref aNf, .ref aNr, .ref aNp, .ref aNb, .ref aNa, .ref aNt, .int (nI nts), .ref aNbo, .ref aNsz, .ref aNnu, .int (nI nta), .int (nI nop), .int nbd, .int ntp, .int (nI npr), .int nnw, .int nsn, .int nwn, .ref aNl, .ref aNal, .ref aNlo, .int (nI nac), .ref aNw, .ref aNtr, .ref aNis, .ref aNbg, .ref aNow]))]) := by
  refine Ct.ofX (lv := [some (.ref aN), none]) (by decide) rfl (Nat.le_of_ble_eq_true rfl) (fun κ => ?_)
  generalize hQ : xQ κ g 0 0 _ = Q
  refine x_aload_n dX9_tear_0 rfl ?_
  refine x_get dX9_tear_1 0 2 inX9 fl_X9_268 rfl rfl (by decide) rfl ?_
  refine x_istore_n (lv' := [some (.ref aN), some (.int nkp)]) dX9_tear_4 (xlt rfl) rfl ?_
  refine x_aload_n dX9_tear_5 rfl ?_
  refine x_iconst 0 dX9_tear_6 (by decide) ?_
  refine x_put (ws' := [(aN, .inr (9, [.ref aNs, .ref aNk, .int 0, .ref aNf, .ref aNr, .ref aNp, .ref aNb, .ref aNa, .ref aNt, .int (nI nts), .ref aNbo, .ref aNsz, .ref aNnu, .int (nI nta), .int (nI nop), .int nbd, .int ntp, .int (nI npr), .int nnw, .int nsn, .int nwn, .ref aNl, .ref aNal, .ref aNlo, .int (nI nac), .ref aNw, .ref aNtr, .ref aNis, .ref aNbg, .ref aNow]))]) dX9_tear_7 0 2 inX9 tyX9_ok nmX9 fl_X9_268 rfl rfl (by decide) rfl (rfl) rfl (xlt rfl) rfl ?_
  refine x_iload_n dX9_tear_10 rfl ?_
  have J11_2 : ∀ (v1 : Int32), v1 = (if nkp = 0 then 0 else 1) → Xs κ g 34 0 0 cX9_tear yX9_tear (some .int) Q 0 0 19 [some (.ref aN), some (.int nkp)] [.int v1] [(aN, .inr (9, [.ref aNs, .ref aNk, .int 0, .ref aNf, .ref aNr, .ref aNp, .ref aNb, .ref aNa, .ref aNt, .int (nI nts), .ref aNbo, .ref aNsz, .ref aNnu, .int (nI nta), .int (nI nop), .int nbd, .int ntp, .int (nI npr), .int nnw, .int nsn, .int nwn, .ref aNl, .ref aNal, .ref aNlo, .int (nI nac), .ref aNw, .ref aNtr, .ref aNis, .ref aNbg, .ref aNow]))] := by
    intro v1 ev1
    rw [← hQ]
    refine x_iret dX9_tear_19 rfl (Nat.le_of_ble_eq_true rfl) (Nat.le_of_ble_eq_true rfl) ?_
    simp only [ev1]
    exact ⟨rfl, rfl⟩
  refine x_if_eq dX9_tear_11 (fun c11 => ?_) (fun c11 => ?_)
  · have c11 : nkp = 0 := c11
    refine x_iconst 0 dX9_tear_18 (by decide) ?_
    exact J11_2 _ (if_pos c11).symm
  · have c11 : ¬ (nkp = 0) := c11
    refine x_iconst 1 dX9_tear_14 (by decide) ?_
    refine x_goto dX9_tear_15 ?_
    exact J11_2 _ (if_neg c11).symm

